/-! the reference: walks, sets out of readings, odds -/
def FrX (q x : Nat) (σ τ : Sg) : Prop := (∀ j, j ≠ 20 → j ≠ 21 → j ≠ 22 → τ 0 j = σ 0 j) ∧ (∀ i, i ≠ 0 → i ≠ q → τ i = σ i) ∧ ∀ y, y ≠ x → τ q y = σ q y
theorem FrX.rf {q x : Nat} {σ : Sg} : FrX q x σ σ := ⟨fun _ _ _ _ => rfl, fun _ _ _ => rfl, fun _ _ => rfl⟩
theorem FrX.st {q x : Nat} {v : Int32} {σ τ ρ : Sg} (h : FrX q x σ τ) (hq : q ≠ 0) (h2 : FrF (up τ q x v) ρ) : FrX q x σ ρ := ⟨fun j a b c => (h2.1 j a b c).trans ((up_n (by omega)).trans (h.1 j a b c)), fun i a b => (h2.2 i a).trans ((up_r b).trans (h.2.1 i a b)), fun y a => (congrFun (h2.2 q hq) y).trans ((up_n (by omega)).trans (h.2.2 y a))⟩
section IX
variable {n p g rn : Nat} {d : Nat → Nat} {th rd : Nat → Nat → Nat} {sl sn : Nat → Nat} {sc : Nat → Nat → Int32} {ft tr : Int32} {σ τ : Sg}
theorem ThM_X {q x v kk ww : Nat} (h : ThM σ n g th) (hf : FrX (5 + q) x σ τ) (hx : x < n) (hq : (q = 0 ∧ kk = v ∧ ww = th x 1) ∨ (q = 1 ∧ kk = th x 0 ∧ ww = v)) (hk : kk < 3) (hw : ww ≤ 9) : ThM (up τ (5 + q) x (nI v)) n g (sth th (nI x) kk ww) := by
  obtain ⟨h1, h2, h3, h4, h5⟩ := h
  refine ⟨(up_n (by omega)).trans ((hf.1 5 (by omega) (by omega) (by omega)).trans h1), (up_n (by omega)).trans ((hf.1 7 (by omega) (by omega) (by omega)).trans h2), h3, h4, fun y hy => ?_⟩
  by_cases hyx : y = x
  · subst hyx
    have hth := (h5 y hy).2
    refine ⟨fun f hf2 => ?_, ?_⟩
    · simp only [sth, if_true]
      by_cases hfq : f = q
      · subst hfq
        rw [up_s]
        rcases hq with ⟨e, a, b⟩ | ⟨e, a, b⟩
        · rw [if_pos e, a]
        · rw [if_neg (by omega), if_pos e, b]
      · rw [up_n (by omega), hf.2.1 (5 + f) (by omega) (by omega), (h5 y hy).1 f hf2]
        rcases hq with ⟨e, a, b⟩ | ⟨e, a, b⟩
        · rw [if_neg (by omega)]
          split
          · rename_i e1; rw [e1, b]
          · rfl
        · split
          · rename_i e1; rw [e1, a]
          · rw [if_neg (by omega)]
    · obtain ⟨a, b, c, e, i⟩ := hth
      simp only [ThOk, sth, if_true]
      exact ⟨hk, hw, c, e, i⟩
  · have hne : ¬ nI x = nI y := fun e => hyx ((nI_eq (by omega) (by omega)).mp e).symm
    have e : ∀ f, sth th (nI x) kk ww y f = th y f := fun f => by simp only [sth]; exact if_neg hne
    refine ⟨fun f hf2 => ?_, ?_⟩
    · rw [e, up_n (by omega)]
      by_cases hfq : f = q
      · rw [hfq, hf.2.2 y hyx, ← hfq]; exact (h5 y hy).1 f hf2
      · rw [hf.2.1 (5 + f) (by omega) (by omega)]; exact (h5 y hy).1 f hf2
    · simp only [ThOk, e]; exact (h5 y hy).2
theorem RotaM_X {q x : Nat} {v : Int32} (h : RotaM σ p d) (hf : FrX (5 + q) x σ τ) : RotaM (up τ (5 + q) x v) p d := RotaM_e h ((up_n (by omega)).trans (hf.1 6 (by omega) (by omega) (by omega))) ((up_r (by omega)).trans (hf.2.1 4 (by omega) (by omega)))
theorem ReadsM_X {q x : Nat} {v : Int32} (h : ReadsM σ rn n rd) (hf : FrX (5 + q) x σ τ) (hq : q < 5) : ReadsM (up τ (5 + q) x v) rn n rd := ReadsM_e h ((up_n (by omega)).trans (hf.1 26 (by omega) (by omega) (by omega))) (fun i a b => (up_r (by omega)).trans (hf.2.1 i (by omega) (by omega)))
theorem I2_X {q x : Nat} (h : I2 n p g rn d th rd sl sn sc ft tr σ) (hf : FrX (5 + q) x σ τ) (hq : q < 5) (hx : x < n) : I2 n p g rn d th rd sl sn sc ft tr (up τ (5 + q) x (nI (th x q))) := by
  obtain ⟨hT, hR, hRd, hSh, hnp, hft, htr⟩ := h
  have hro : ∀ i, i ≠ 0 → up τ (5 + q) x (nI (th x q)) i = σ i := by
    intro i hi
    by_cases hiq : i = 5 + q
    · subst hiq
      funext y
      by_cases hyx : y = x
      · rw [hyx, up_s]; exact ((hT.2.2.2.2 x hx).1 q hq).symm
      · rw [up_n (by omega)]; exact hf.2.2 y hyx
    · rw [up_r hiq]; exact hf.2.1 i hi hiq
  have h0 : ∀ j, j ≠ 20 → j ≠ 21 → j ≠ 22 → up τ (5 + q) x (nI (th x q)) 0 j = σ 0 j := fun j a b c => (up_n (by omega)).trans (hf.1 j a b c)
  exact I2_fr ⟨hT, hR, hRd, hSh, hnp, hft, htr⟩ (FrF.M ⟨h0, hro⟩)
theorem I2_D {v : Nat} (h : I2 n p g rn d th rd sl sn sc ft tr σ) (h0 : ∀ j, j ≠ 5 → j ≠ 20 → j ≠ 21 → j ≠ 22 → τ 0 j = σ 0 j) (hr : ∀ i, i ≠ 0 → τ i = σ i) (hv : v ≤ 9) : I2 n p v rn d th rd sl sn sc ft tr (up τ 0 5 (nI v)) := by
  have h1 : I2 n p v rn d th rd sl sn sc ft tr (up σ 0 5 (nI v)) := I2_g h hv
  refine I2_fr h1 (FrF.M ⟨fun j a b c => ?_, fun i hi => by rw [up_r hi, up_r hi]; exact hr i hi⟩)
  by_cases h5 : j = 5
  · rw [h5, up_s, up_s]
  · rw [up_n (by omega), up_n (by omega)]; exact h0 j h5 a b c
end IX

set_option maxHeartbeats 4000000 in
set_option maxRecDepth 100000 in
theorem a2_hands_xo (l : Launch) {D : va_G} {ca : Nat → ClassId} {ad : Nat → Nat} (hI : Ij ad 18) {σ : Sg} {n p g rn : Nat} {d : Nat → Nat} {th rd : Nat → Nat → Nat} {sl sn : Nat → Nat} {sc : Nat → Nat → Int32} {ft tr : Int32} {x : Int32} {k : Int32} (hJ : I2 n p g rn d th rd sl sn sc ft tr σ) (hxx : ∀ j, j < n → x ≠ nI j) : C2i l D ca ad yX7_hands wsX7_hands { frames := 3, cells := 0, slots := 0, locals := 73 } [.ref (ad 0), .int x, .int k] σ (fun r σ' => r = -1 ∧ I2 n p g rn d th rd sl sn sc ft tr σ') := by
  refine xk_entry cX7_hands 3 (some .int) (by decide) rfl (Nat.le_of_ble_eq_true rfl) ?_
  intro pP eE sS mM below meth cC hx hb hml hr hts hown hlk hP hK hX hS ls hl
  have hl : lv_has ls 3 [(0, .ref (ad 0)), (1, .int x), (2, .int k)] := hl
  obtain ⟨hT, hR, hRd, hSh, hnp, hft, htr⟩ := id hJ
  have hn5 := hT.2.2.1
  have hg9 := hT.2.2.2.1
  have hp6 := hR.2.1
  have hrn8 := hRd.2.1
  refine lv_aload_n hx hb dX7_hands_0 rfl (lv_at hl 0 rfl) ?_
  refine lv_iload_n hx hb dX7_hands_1 rfl (lv_at hl 1 rfl) ?_
  refine xk_fi (va_runV (As := [.int x]) (rest := []) ⟨hx, hb, hml, hown, hts⟩ (k2_isThing_out l hI (x := x) hT (by assumption)) (cwV 1 hts gX7_hands_X7_isThing rfl rfl rfl (by decide +kernel) ⟨Nat.le_of_ble_eq_true rfl, Nat.le_of_ble_eq_true rfl⟩) (xk_preV X2_ok hK hX hP (xk_recv hK hP 0 (by omega) (ci := 7) e2_obj rfl)) rfl rfl hl.1 rfl (lv_room (Nat.le_of_ble_eq_true rfl)) dX7_hands_2 ⟨Nat.le_of_ble_eq_true rfl, Nat.le_of_ble_eq_true rfl⟩) hS (fun H locs hP hS => ?_)
  refine xn_zne (tgt := 10) hx hb dX7_hands_5 (by decide) (by omega) (fun c_5 => absurd c_5 (by omega)) (fun c_5 => ?_)
  refine lv_iconst (v := (-1)) hx hb dX7_hands_8 (by decide) ?_
  exact xk_iret hx hb hr (vp_nar_int _) X2_ok hK hX hP hS hlk dX7_hands_9 (⟨rfl, hJ⟩)

set_option maxHeartbeats 4000000 in
set_option maxRecDepth 100000 in
theorem a2_hands_ko (l : Launch) {D : va_G} {ca : Nat → ClassId} {ad : Nat → Nat} (hI : Ij ad 18) {σ : Sg} {n p g rn : Nat} {d : Nat → Nat} {th rd : Nat → Nat → Nat} {sl sn : Nat → Nat} {sc : Nat → Nat → Int32} {ft tr : Int32} {x : Nat} {k : Int32} (hJ : I2 n p g rn d th rd sl sn sc ft tr σ) (hxn : x < n) (hko : ¬ (nI 0 ≤ k ∧ k ≤ nI 30)) : C2i l D ca ad yX7_hands wsX7_hands { frames := 3, cells := 0, slots := 0, locals := 73 } [.ref (ad 0), .int (nI x), .int k] σ (fun r σ' => r = -2 ∧ I2 n p g rn d th rd sl sn sc ft tr σ') := by
  refine xk_entry cX7_hands 3 (some .int) (by decide) rfl (Nat.le_of_ble_eq_true rfl) ?_
  intro pP eE sS mM below meth cC hx hb hml hr hts hown hlk hP hK hX hS ls hl
  have hl : lv_has ls 3 [(0, .ref (ad 0)), (1, .int (nI x)), (2, .int k)] := hl
  obtain ⟨hT, hR, hRd, hSh, hnp, hft, htr⟩ := id hJ
  have hn5 := hT.2.2.1
  have hg9 := hT.2.2.2.1
  have hp6 := hR.2.1
  have hrn8 := hRd.2.1
  have hXx := hT.2.2.2.2 x hxn
  obtain ⟨ho0, ho1, ho2, ho3, ho4⟩ := hXx.2
  have hp0 : 0 < p := hnp.mp (by omega)
  refine lv_aload_n hx hb dX7_hands_0 rfl (lv_at hl 0 rfl) ?_
  refine lv_iload_n hx hb dX7_hands_1 rfl (lv_at hl 1 rfl) ?_
  refine xk_fi (va_runV (As := [.int (nI x)]) (rest := []) ⟨hx, hb, hml, hown, hts⟩ (k2_isThing_in l hI (x := x) hT (by omega)) (cwV 1 hts gX7_hands_X7_isThing rfl rfl rfl (by decide +kernel) ⟨Nat.le_of_ble_eq_true rfl, Nat.le_of_ble_eq_true rfl⟩) (xk_preV X2_ok hK hX hP (xk_recv hK hP 0 (by omega) (ci := 7) e2_obj rfl)) rfl rfl hl.1 rfl (lv_room (Nat.le_of_ble_eq_true rfl)) dX7_hands_2 ⟨Nat.le_of_ble_eq_true rfl, Nat.le_of_ble_eq_true rfl⟩) hS (fun H locs hP hS => ?_)
  refine xn_zne (tgt := 10) hx hb dX7_hands_5 (by decide) (by omega) (fun c_5 => ?_) (fun c_5 => absurd c_5 (by omega))
  refine lv_iload_n hx hb dX7_hands_10 rfl (lv_at hl 2 rfl) ?_
  refine lv_iconst (v := nI 0) hx hb dX7_hands_11 (by decide) ?_
  refine lv_bipush (v := nI 30) hx hb dX7_hands_12 (by decide) ?_
  refine xk_fi (va_runS (As := [.int k, .int (nI 0), .int (nI 30)]) (rest := []) ⟨hx, hb, hml, hown, hts⟩ (k2_within_f l hI k (nI 0) (nI 30) (by assumption)) (va_cwS 3 hts gX7_hands_X7_within rfl rfl rfl (by decide +kernel) ⟨Nat.le_of_ble_eq_true rfl, Nat.le_of_ble_eq_true rfl⟩) (xk_preS X2_ok hK hX hP) rfl rfl hl.1 rfl (lv_room (Nat.le_of_ble_eq_true rfl)) dX7_hands_14 ⟨Nat.le_of_ble_eq_true rfl, Nat.le_of_ble_eq_true rfl⟩) hS (fun H locs hP hS => ?_)
  refine xn_zeq (tgt := 29) hx hb dX7_hands_17 (by decide) (by omega) (fun c_17 => ?_) (fun c_17 => absurd c_17 (by omega))
  refine lv_bipush (v := (-2)) hx hb dX7_hands_29 (by decide) ?_
  exact xk_iret hx hb hr (vp_nar_int _) X2_ok hK hX hP hS hlk dX7_hands_31 (⟨rfl, hJ⟩)

set_option maxHeartbeats 4000000 in
set_option maxRecDepth 100000 in
theorem a2_hands_ok (l : Launch) {D : va_G} {ca : Nat → ClassId} {ad : Nat → Nat} (hI : Ij ad 18) {σ : Sg} {n p g rn : Nat} {d : Nat → Nat} {th rd : Nat → Nat → Nat} {sl sn : Nat → Nat} {sc : Nat → Nat → Int32} {ft tr : Int32} {x : Nat} {k : Nat} (hJ : I2 n p g rn d th rd sl sn sc ft tr σ) (hxn : x < n) (hk30 : k ≤ 30) : C2i l D ca ad yX7_hands wsX7_hands { frames := 3, cells := 0, slots := 0, locals := 73 } [.ref (ad 0), .int (nI x), .int (nI k)] σ (fun r σ' => r = wz (wk p d (dl g th x) (th x 2) (th x 4) k) ∧ I2 n p g rn d th rd sl sn sc ft tr σ') := by
  refine xk_entry cX7_hands 3 (some .int) (by decide) rfl (Nat.le_of_ble_eq_true rfl) ?_
  intro pP eE sS mM below meth cC hx hb hml hr hts hown hlk hP hK hX hS ls hl
  have hl : lv_has ls 3 [(0, .ref (ad 0)), (1, .int (nI x)), (2, .int (nI k))] := hl
  obtain ⟨hT, hR, hRd, hSh, hnp, hft, htr⟩ := id hJ
  have hn5 := hT.2.2.1
  have hg9 := hT.2.2.2.1
  have hp6 := hR.2.1
  have hrn8 := hRd.2.1
  have hXx := hT.2.2.2.2 x hxn
  obtain ⟨ho0, ho1, ho2, ho3, ho4⟩ := hXx.2
  have hp0 : 0 < p := hnp.mp (by omega)
  refine lv_aload_n hx hb dX7_hands_0 rfl (lv_at hl 0 rfl) ?_
  refine lv_iload_n hx hb dX7_hands_1 rfl (lv_at hl 1 rfl) ?_
  refine xk_fi (va_runV (As := [.int (nI x)]) (rest := []) ⟨hx, hb, hml, hown, hts⟩ (k2_isThing_in l hI (x := x) hT (by omega)) (cwV 1 hts gX7_hands_X7_isThing rfl rfl rfl (by decide +kernel) ⟨Nat.le_of_ble_eq_true rfl, Nat.le_of_ble_eq_true rfl⟩) (xk_preV X2_ok hK hX hP (xk_recv hK hP 0 (by omega) (ci := 7) e2_obj rfl)) rfl rfl hl.1 rfl (lv_room (Nat.le_of_ble_eq_true rfl)) dX7_hands_2 ⟨Nat.le_of_ble_eq_true rfl, Nat.le_of_ble_eq_true rfl⟩) hS (fun H locs hP hS => ?_)
  refine xn_zne (tgt := 10) hx hb dX7_hands_5 (by decide) (by omega) (fun c_5 => ?_) (fun c_5 => absurd c_5 (by omega))
  refine lv_iload_n hx hb dX7_hands_10 rfl (lv_at hl 2 rfl) ?_
  refine lv_iconst (v := nI 0) hx hb dX7_hands_11 (by decide) ?_
  refine lv_bipush (v := nI 30) hx hb dX7_hands_12 (by decide) ?_
  refine xk_fi (va_runS (As := [.int (nI k), .int (nI 0), .int (nI 30)]) (rest := []) ⟨hx, hb, hml, hown, hts⟩ (k2_within_t l hI (nI k) (nI 0) (nI 30) (xn_in (by omega) (by omega) (by omega))) (va_cwS 3 hts gX7_hands_X7_within rfl rfl rfl (by decide +kernel) ⟨Nat.le_of_ble_eq_true rfl, Nat.le_of_ble_eq_true rfl⟩) (xk_preS X2_ok hK hX hP) rfl rfl hl.1 rfl (lv_room (Nat.le_of_ble_eq_true rfl)) dX7_hands_14 ⟨Nat.le_of_ble_eq_true rfl, Nat.le_of_ble_eq_true rfl⟩) hS (fun H locs hP hS => ?_)
  refine xn_zeq (tgt := 29) hx hb dX7_hands_17 (by decide) (by omega) (fun c_17 => absurd c_17 (by omega)) (fun c_17 => ?_)
  refine lv_aload_n hx hb dX7_hands_20 rfl (lv_at hl 0 rfl) ?_
  refine lv_iload_n hx hb dX7_hands_21 rfl (lv_at hl 1 rfl) ?_
  refine lv_iload_n hx hb dX7_hands_22 rfl (lv_at hl 2 rfl) ?_
  refine xk_ci (va_runV (As := [.int (nI x), .int (nI k)]) (rest := []) ⟨hx, hb, hml, hown, hts⟩ (k2_has l hI (x := x) (k := k) hT hR hp0 hxn (by omega)) (cwV 2 hts gX7_hands_X7_has rfl rfl rfl (by decide +kernel) ⟨Nat.le_of_ble_eq_true rfl, Nat.le_of_ble_eq_true rfl⟩) (xk_preV X2_ok hK hX hP (xk_recv hK hP 0 (by omega) (ci := 7) e2_obj rfl)) rfl rfl hl.1 rfl (lv_room (Nat.le_of_ble_eq_true rfl)) dX7_hands_23 ⟨Nat.le_of_ble_eq_true rfl, Nat.le_of_ble_eq_true rfl⟩) hS (fun r23 τ23 H locs hp hP hS => ?_)
  obtain ⟨rfl, hF23⟩ := hp
  refine lv_goto (tgt := 31) hx hb dX7_hands_26 (by decide) ?_
  exact xk_iret hx hb hr (vp_nar_int _) X2_ok hK hX hP hS hlk dX7_hands_31 (⟨rfl, I2_fr hJ hF23.M⟩)

set_option maxHeartbeats 4000000 in
set_option maxRecDepth 100000 in
theorem a2_home_xo (l : Launch) {D : va_G} {ca : Nat → ClassId} {ad : Nat → Nat} (hI : Ij ad 18) {σ : Sg} {n p g rn : Nat} {d : Nat → Nat} {th rd : Nat → Nat → Nat} {sl sn : Nat → Nat} {sc : Nat → Nat → Int32} {ft tr : Int32} {x : Int32} (hJ : I2 n p g rn d th rd sl sn sc ft tr σ) (hxx : ∀ j, j < n → x ≠ nI j) : C2i l D ca ad yX7_home wsX7_home { frames := 3, cells := 0, slots := 0, locals := 73 } [.ref (ad 0), .int x] σ (fun r σ' => r = -1 ∧ I2 n p g rn d th rd sl sn sc ft tr σ') := by
  refine xk_entry cX7_home 3 (some .int) (by decide) rfl (Nat.le_of_ble_eq_true rfl) ?_
  intro pP eE sS mM below meth cC hx hb hml hr hts hown hlk hP hK hX hS ls hl
  have hl : lv_has ls 3 [(0, .ref (ad 0)), (1, .int x)] := hl
  obtain ⟨hT, hR, hRd, hSh, hnp, hft, htr⟩ := id hJ
  have hn5 := hT.2.2.1
  have hg9 := hT.2.2.2.1
  have hp6 := hR.2.1
  have hrn8 := hRd.2.1
  refine lv_aload_n hx hb dX7_home_0 rfl (lv_at hl 0 rfl) ?_
  refine lv_iload_n hx hb dX7_home_1 rfl (lv_at hl 1 rfl) ?_
  refine xk_fi (va_runV (As := [.int x]) (rest := []) ⟨hx, hb, hml, hown, hts⟩ (k2_isThing_out l hI (x := x) hT (by assumption)) (cwV 1 hts gX7_home_X7_isThing rfl rfl rfl (by decide +kernel) ⟨Nat.le_of_ble_eq_true rfl, Nat.le_of_ble_eq_true rfl⟩) (xk_preV X2_ok hK hX hP (xk_recv hK hP 0 (by omega) (ci := 7) e2_obj rfl)) rfl rfl hl.1 rfl (lv_room (Nat.le_of_ble_eq_true rfl)) dX7_home_2 ⟨Nat.le_of_ble_eq_true rfl, Nat.le_of_ble_eq_true rfl⟩) hS (fun H locs hP hS => ?_)
  refine xn_zne (tgt := 10) hx hb dX7_home_5 (by decide) (by omega) (fun c_5 => absurd c_5 (by omega)) (fun c_5 => ?_)
  refine lv_iconst (v := (-1)) hx hb dX7_home_8 (by decide) ?_
  exact xk_iret hx hb hr (vp_nar_int _) X2_ok hK hX hP hS hlk dX7_home_9 (⟨rfl, hJ⟩)

set_option maxRecDepth 20000 in
theorem flX7_home_28 {s : State} {av : Array Value} (hts : ∀ w ∈ wsX7_home, w.before av s = true) : (Cond.fieldLink RX7 28 "WellBackModel" "owner" "[I").before av s = true := hts _ (by decide +kernel)
set_option maxRecDepth 20000 in
theorem inX7_home_X7 : ∀ w ∈ u_ws RX7 TX7 30, w ∈ wsX7_home := by decide +kernel
set_option maxHeartbeats 4000000 in
set_option maxRecDepth 100000 in
theorem a2_home_ok (l : Launch) {D : va_G} {ca : Nat → ClassId} {ad : Nat → Nat} (hI : Ij ad 18) {σ : Sg} {n p g rn : Nat} {d : Nat → Nat} {th rd : Nat → Nat → Nat} {sl sn : Nat → Nat} {sc : Nat → Nat → Int32} {ft tr : Int32} {x : Nat} (hJ : I2 n p g rn d th rd sl sn sc ft tr σ) (hxn : x < n) : C2i l D ca ad yX7_home wsX7_home { frames := 3, cells := 0, slots := 0, locals := 73 } [.ref (ad 0), .int (nI x)] σ (fun r σ' => r = wF (fun k => decide (wz (wk p d (dl g th x) (th x 2) (th x 4) k) = nI (th x 2))) 30 1 ∧ I2 n p g rn d th rd sl sn sc ft tr σ') := by
  refine xk_entry cX7_home 3 (some .int) (by decide) rfl (Nat.le_of_ble_eq_true rfl) ?_
  intro pP eE sS mM below meth cC hx hb hml hr hts hown hlk hP hK hX hS ls hl
  have hl : lv_has ls 3 [(0, .ref (ad 0)), (1, .int (nI x))] := hl
  obtain ⟨hT, hR, hRd, hSh, hnp, hft, htr⟩ := id hJ
  have hn5 := hT.2.2.1
  have hg9 := hT.2.2.2.1
  have hp6 := hR.2.1
  have hrn8 := hRd.2.1
  have hXx := hT.2.2.2.2 x hxn
  obtain ⟨ho0, ho1, ho2, ho3, ho4⟩ := hXx.2
  have hp0 : 0 < p := hnp.mp (by omega)
  refine lv_aload_n hx hb dX7_home_0 rfl (lv_at hl 0 rfl) ?_
  refine lv_iload_n hx hb dX7_home_1 rfl (lv_at hl 1 rfl) ?_
  refine xk_fi (va_runV (As := [.int (nI x)]) (rest := []) ⟨hx, hb, hml, hown, hts⟩ (k2_isThing_in l hI (x := x) hT (by omega)) (cwV 1 hts gX7_home_X7_isThing rfl rfl rfl (by decide +kernel) ⟨Nat.le_of_ble_eq_true rfl, Nat.le_of_ble_eq_true rfl⟩) (xk_preV X2_ok hK hX hP (xk_recv hK hP 0 (by omega) (ci := 7) e2_obj rfl)) rfl rfl hl.1 rfl (lv_room (Nat.le_of_ble_eq_true rfl)) dX7_home_2 ⟨Nat.le_of_ble_eq_true rfl, Nat.le_of_ble_eq_true rfl⟩) hS (fun H locs hP hS => ?_)
  refine xn_zne (tgt := 10) hx hb dX7_home_5 (by decide) (by omega) (fun c_5 => ?_) (fun c_5 => absurd c_5 (by omega))
  refine lv_iconst (v := nI 1) hx hb dX7_home_10 (by decide) ?_
  refine lv_istore_n (lv' := [(2, .int (nI 1)), (0, .ref (ad 0)), (1, .int (nI x))]) hx hb dX7_home_11 rfl hl (by decide) rfl (fun ls hl => ?_)
  have LP_12 : ∀ (n_12 : Nat) (j : Nat) (τ : Sg), (1 ≤ j) → (j ≤ 31) → (wF (fun k => decide (wz (wk p d (dl g th x) (th x 2) (th x 4) k) = nI (th x 2))) (31 - j) j = wF (fun k => decide (wz (wk p d (dl g th x) (th x 2) (th x 4) k) = nI (th x 2))) 30 1) → (FrF σ τ) → (31 - j) < n_12 → ∀ (H : Heap) (locs : List Loc) (ls : Array Slot), va_P D vwCl (wl ad 18 (en2 ad ca τ)) H → va_S (AA ad 18) sS.heap H locs → lv_has ls 3 [(0, .ref (ad 0)), (1, .int (nI x)), (2, .int (nI j))] → Wwi2 pP l eE { frames := 3, cells := 0, slots := 0, locals := 73 } sS mM [.ref (ad 0), .int (nI x)] below meth cC D ca ad (fun r σ' => r = wF (fun k => decide (wz (wk p d (dl g th x) (th x 2) (th x 4) k) = nI (th x 2))) 30 1 ∧ I2 n p g rn d th rd sl sn sc ft tr σ') H locs (F0 mM 12 ls []) := by
    intro n_12
    induction n_12 with
    | zero =>
      intro j τ hj1 hj2 hv hF hn_12
      exact absurd hn_12 (Nat.not_lt_zero _)
    | succ n_12 ih_12 =>
      intro j τ hj1 hj2 hv hF hn_12 H locs ls hP hS hl
      refine lv_iload_n hx hb dX7_home_12 rfl (lv_at hl 2 rfl) ?_
      refine lv_bipush (v := nI 30) hx hb dX7_home_13 (by decide) ?_
      refine xn_igt (tgt := 41) hx hb dX7_home_15 (by decide) (by omega) (by omega) (fun c_15 => ?_) (fun c_15 => ?_)
      · refine lv_bipush (v := (-9)) hx hb dX7_home_41 (by decide) ?_
        exact xk_iret hx hb hr (vp_nar_int _) X2_ok hK hX hP hS hlk dX7_home_43 (⟨by rw [← hv, show 31 - j = 0 by omega]; rfl, I2_fr hJ hF.M⟩)
      · refine lv_aload_n hx hb dX7_home_18 rfl (lv_at hl 0 rfl) ?_
        refine lv_iload_n hx hb dX7_home_19 rfl (lv_at hl 1 rfl) ?_
        refine lv_iload_n hx hb dX7_home_20 rfl (lv_at hl 2 rfl) ?_
        refine xk_ci (va_runV (As := [.int (nI x), .int (nI j)]) (rest := []) ⟨hx, hb, hml, hown, hts⟩ (k2_has l hI (x := x) (k := j) (ThM_fr hT hF.M) (RotaM_fr hR hF.M) hp0 hxn (by omega)) (cwV 2 hts gX7_home_X7_has rfl rfl rfl (by decide +kernel) ⟨Nat.le_of_ble_eq_true rfl, Nat.le_of_ble_eq_true rfl⟩) (xk_preV X2_ok hK hX hP (xk_recv hK hP 0 (by omega) (ci := 7) e2_obj rfl)) rfl rfl hl.1 rfl (lv_room (Nat.le_of_ble_eq_true rfl)) dX7_home_21 ⟨Nat.le_of_ble_eq_true rfl, Nat.le_of_ble_eq_true rfl⟩) hS (fun r21 τ21 H locs hp hP hS => ?_)
        obtain ⟨rfl, hF21⟩ := hp
        have hTc := ThM_fr hT (hF.tr hF21).M
        have hXc := hTc.2.2.2.2 x hxn
        refine lv_aload_n hx hb dX7_home_24 rfl (lv_at hl 0 rfl) ?_
        refine xk_get hx hb hts (inX7_home_X7) hown hK hP 0 (by omega) (ci := 7) e2_obj rfl 11 (by decide) (flX7_home_28 hts) rfl (.ref (ad 7)) rfl dX7_home_25 ?_
        refine lv_iload_n hx hb dX7_home_28 rfl (lv_at hl 1 rfl) ?_
        refine xk_iald hx hb hK hP 7 (by omega) (n := 5) (e2_row 5 (by decide) rfl) rfl x (by omega) (by decide) dX7_home_29 ?_
        refine xn_eqi (y := nI (th x 2)) (hXc.1 2 (by omega)) ?_
        refine lv_icmp_ne (tgt := 35) hx hb dX7_home_30 (by decide) (fun c_30 => ?_) (fun c_30 => ?_)
        · refine lv_iinc (v := nI (j + 1)) (lv' := [(2, .int (nI (j + 1))), (0, .ref (ad 0)), (1, .int (nI x))]) hx hb dX7_home_35 hl (k := 2) rfl (xn_inc _ 1) (by decide) rfl (fun ls hl => ?_)
          refine lv_goto (tgt := 12) hx hb dX7_home_38 (by decide) ?_
          exact ih_12 (j + 1) τ21 (by omega) (by omega) (by rw [← hv, show 31 - j = (31 - (j + 1)) + 1 by omega]; simp only [wF]; rw [if_neg (by simpa using c_30)]) (hF.tr hF21) (by omega) _ _ _ hP hS (lv_sub hl [1, 2, 0] rfl)
        · refine lv_iload_n hx hb dX7_home_33 rfl (lv_at hl 2 rfl) ?_
          exact xk_iret hx hb hr (vp_nar_int _) X2_ok hK hX hP hS hlk dX7_home_34 (⟨by rw [← hv, show 31 - j = (30 - j) + 1 by omega]; simp only [wF]; rw [if_pos (by simpa using c_30)], I2_fr hJ (hF.tr hF21).M⟩)
  exact LP_12 _ 1 σ (by omega) (by omega) rfl FrF.rf (Nat.lt_succ_self _) _ _ _ hP hS (lv_sub hl [1, 2, 0] rfl)

set_option maxHeartbeats 4000000 in
set_option maxRecDepth 100000 in
theorem a2_meets_xo (l : Launch) {D : va_G} {ca : Nat → ClassId} {ad : Nat → Nat} (hI : Ij ad 18) {σ : Sg} {n p g rn : Nat} {d : Nat → Nat} {th rd : Nat → Nat → Nat} {sl sn : Nat → Nat} {sc : Nat → Nat → Int32} {ft tr : Int32} {x : Int32} (hJ : I2 n p g rn d th rd sl sn sc ft tr σ) (hxx : ∀ j, j < n → x ≠ nI j) : C2i l D ca ad yX7_meets wsX7_meets { frames := 3, cells := 0, slots := 0, locals := 73 } [.ref (ad 0), .int x] σ (fun r σ' => r = -1 ∧ I2 n p g rn d th rd sl sn sc ft tr σ') := by
  refine xk_entry cX7_meets 5 (some .int) (by decide) rfl (Nat.le_of_ble_eq_true rfl) ?_
  intro pP eE sS mM below meth cC hx hb hml hr hts hown hlk hP hK hX hS ls hl
  have hl : lv_has ls 5 [(0, .ref (ad 0)), (1, .int x)] := hl
  obtain ⟨hT, hR, hRd, hSh, hnp, hft, htr⟩ := id hJ
  have hn5 := hT.2.2.1
  have hg9 := hT.2.2.2.1
  have hp6 := hR.2.1
  have hrn8 := hRd.2.1
  refine lv_aload_n hx hb dX7_meets_0 rfl (lv_at hl 0 rfl) ?_
  refine lv_iload_n hx hb dX7_meets_1 rfl (lv_at hl 1 rfl) ?_
  refine xk_fi (va_runV (As := [.int x]) (rest := []) ⟨hx, hb, hml, hown, hts⟩ (k2_isThing_out l hI (x := x) hT (by assumption)) (cwV 1 hts gX7_meets_X7_isThing rfl rfl rfl (by decide +kernel) ⟨Nat.le_of_ble_eq_true rfl, Nat.le_of_ble_eq_true rfl⟩) (xk_preV X2_ok hK hX hP (xk_recv hK hP 0 (by omega) (ci := 7) e2_obj rfl)) rfl rfl hl.1 rfl (lv_room (Nat.le_of_ble_eq_true rfl)) dX7_meets_2 ⟨Nat.le_of_ble_eq_true rfl, Nat.le_of_ble_eq_true rfl⟩) hS (fun H locs hP hS => ?_)
  refine xn_zne (tgt := 10) hx hb dX7_meets_5 (by decide) (by omega) (fun c_5 => absurd c_5 (by omega)) (fun c_5 => ?_)
  refine lv_iconst (v := (-1)) hx hb dX7_meets_8 (by decide) ?_
  exact xk_iret hx hb hr (vp_nar_int _) X2_ok hK hX hP hS hlk dX7_meets_9 (⟨rfl, hJ⟩)

set_option maxHeartbeats 4000000 in
set_option maxRecDepth 100000 in
theorem a2_meets_ok (l : Launch) {D : va_G} {ca : Nat → ClassId} {ad : Nat → Nat} (hI : Ij ad 18) {σ : Sg} {n p g rn : Nat} {d : Nat → Nat} {th rd : Nat → Nat → Nat} {sl sn : Nat → Nat} {sc : Nat → Nat → Int32} {ft tr : Int32} {x : Nat} (hJ : I2 n p g rn d th rd sl sn sc ft tr σ) (hxn : x < n) : C2i l D ca ad yX7_meets wsX7_meets { frames := 3, cells := 0, slots := 0, locals := 73 } [.ref (ad 0), .int (nI x)] σ (fun r σ' => r = mtF (wk p d (dl g th x) (th x 2) (th x 4)) 31 ∧ I2 n p g rn d th rd sl sn sc ft tr σ') := by
  refine xk_entry cX7_meets 5 (some .int) (by decide) rfl (Nat.le_of_ble_eq_true rfl) ?_
  intro pP eE sS mM below meth cC hx hb hml hr hts hown hlk hP hK hX hS ls hl
  have hl : lv_has ls 5 [(0, .ref (ad 0)), (1, .int (nI x))] := hl
  obtain ⟨hT, hR, hRd, hSh, hnp, hft, htr⟩ := id hJ
  have hn5 := hT.2.2.1
  have hg9 := hT.2.2.2.1
  have hp6 := hR.2.1
  have hrn8 := hRd.2.1
  have hXx := hT.2.2.2.2 x hxn
  obtain ⟨ho0, ho1, ho2, ho3, ho4⟩ := hXx.2
  have hp0 : 0 < p := hnp.mp (by omega)
  have hdlx : dl g th x ≤ 36 := dly_le hg9 ho1
  refine lv_aload_n hx hb dX7_meets_0 rfl (lv_at hl 0 rfl) ?_
  refine lv_iload_n hx hb dX7_meets_1 rfl (lv_at hl 1 rfl) ?_
  refine xk_fi (va_runV (As := [.int (nI x)]) (rest := []) ⟨hx, hb, hml, hown, hts⟩ (k2_isThing_in l hI (x := x) hT (by omega)) (cwV 1 hts gX7_meets_X7_isThing rfl rfl rfl (by decide +kernel) ⟨Nat.le_of_ble_eq_true rfl, Nat.le_of_ble_eq_true rfl⟩) (xk_preV X2_ok hK hX hP (xk_recv hK hP 0 (by omega) (ci := 7) e2_obj rfl)) rfl rfl hl.1 rfl (lv_room (Nat.le_of_ble_eq_true rfl)) dX7_meets_2 ⟨Nat.le_of_ble_eq_true rfl, Nat.le_of_ble_eq_true rfl⟩) hS (fun H locs hP hS => ?_)
  refine xn_zne (tgt := 10) hx hb dX7_meets_5 (by decide) (by omega) (fun c_5 => ?_) (fun c_5 => absurd c_5 (by omega))
  refine lv_iconst (v := nI 0) hx hb dX7_meets_10 (by decide) ?_
  refine xn_eqi (y := mtF (wk p d (dl g th x) (th x 2) (th x 4)) 0) rfl ?_
  refine lv_istore_n (lv' := [(2, .int (mtF (wk p d (dl g th x) (th x 2) (th x 4)) 0)), (0, .ref (ad 0)), (1, .int (nI x))]) hx hb dX7_meets_11 rfl hl (by decide) rfl (fun ls hl => ?_)
  refine lv_iconst (v := nI 0) hx hb dX7_meets_12 (by decide) ?_
  refine lv_istore_n (lv' := [(3, .int (nI 0)), (2, .int (mtF (wk p d (dl g th x) (th x 2) (th x 4)) 0)), (0, .ref (ad 0)), (1, .int (nI x))]) hx hb dX7_meets_13 rfl hl (by decide) rfl (fun ls hl => ?_)
  have LP_14 : ∀ (n_14 : Nat) (j : Nat) (τ : Sg), (j ≤ 31) → (FrF σ τ) → (31 - j) < n_14 → ∀ (H : Heap) (locs : List Loc) (ls : Array Slot), va_P D vwCl (wl ad 18 (en2 ad ca τ)) H → va_S (AA ad 18) sS.heap H locs → lv_has ls 5 [(0, .ref (ad 0)), (1, .int (nI x)), (2, .int (mtF (wk p d (dl g th x) (th x 2) (th x 4)) j)), (3, .int (nI j))] → Wwi2 pP l eE { frames := 3, cells := 0, slots := 0, locals := 73 } sS mM [.ref (ad 0), .int (nI x)] below meth cC D ca ad (fun r σ' => r = mtF (wk p d (dl g th x) (th x 2) (th x 4)) 31 ∧ I2 n p g rn d th rd sl sn sc ft tr σ') H locs (F0 mM 14 ls []) := by
    intro n_14
    induction n_14 with
    | zero =>
      intro j τ hj2 hF hn_14
      exact absurd hn_14 (Nat.not_lt_zero _)
    | succ n_14 ih_14 =>
      intro j τ hj2 hF hn_14 H locs ls hP hS hl
      refine lv_iload_n hx hb dX7_meets_14 rfl (lv_at hl 3 rfl) ?_
      refine lv_bipush (v := nI 30) hx hb dX7_meets_15 (by decide) ?_
      refine xn_igt (tgt := 52) hx hb dX7_meets_17 (by decide) (by omega) (by omega) (fun c_17 => ?_) (fun c_17 => ?_)
      · refine lv_iload_n hx hb dX7_meets_52 rfl (lv_at hl 2 rfl) ?_
        exact xk_iret hx hb hr (vp_nar_int _) X2_ok hK hX hP hS hlk dX7_meets_53 (⟨by rw [show j = 31 by omega], I2_fr hJ hF.M⟩)
      · refine lv_aload_n hx hb dX7_meets_20 rfl (lv_at hl 0 rfl) ?_
        refine lv_iload_n hx hb dX7_meets_21 rfl (lv_at hl 1 rfl) ?_
        refine lv_iload_n hx hb dX7_meets_22 rfl (lv_at hl 3 rfl) ?_
        refine xk_ci (va_runV (As := [.int (nI x), .int (nI j)]) (rest := []) ⟨hx, hb, hml, hown, hts⟩ (k2_has l hI (x := x) (k := j) (ThM_fr hT hF.M) (RotaM_fr hR hF.M) hp0 hxn (by omega)) (cwV 2 hts gX7_meets_X7_has rfl rfl rfl (by decide +kernel) ⟨Nat.le_of_ble_eq_true rfl, Nat.le_of_ble_eq_true rfl⟩) (xk_preV X2_ok hK hX hP (xk_recv hK hP 0 (by omega) (ci := 7) e2_obj rfl)) rfl rfl hl.1 rfl (lv_room (Nat.le_of_ble_eq_true rfl)) dX7_meets_23 ⟨Nat.le_of_ble_eq_true rfl, Nat.le_of_ble_eq_true rfl⟩) hS (fun r23 τ23 H locs hp hP hS => ?_)
        obtain ⟨rfl, hF23⟩ := hp
        refine lv_istore (lv' := [(4, .int (wz (wk p d (dl g th x) (th x 2) (th x 4) j))), (0, .ref (ad 0)), (1, .int (nI x)), (2, .int (mtF (wk p d (dl g th x) (th x 2) (th x 4)) j)), (3, .int (nI j))]) hx hb dX7_meets_26 hl (by decide) rfl (fun ls hl => ?_)
        rcases hw : wk p d (dl g th x) (th x 2) (th x 4) j with _ | ⟨e, h⟩
        · rw [hw] at hl
          have hl : lv_has ls 5 [(4, .int (-9)), (0, .ref (ad 0)), (1, .int (nI x)), (2, .int (mtF (wk p d (dl g th x) (th x 2) (th x 4)) j)), (3, .int (nI j))] := hl
          refine lv_iload_n hx hb dX7_meets_28 rfl (lv_at hl 3 rfl) ?_
          refine lv_iload hx hb dX7_meets_29 (lv_at hl 0 rfl) ?_
          refine lv_bipush (v := (-9)) hx hb dX7_meets_31 (by decide) ?_
          refine lv_icmp_ne (tgt := 40) hx hb dX7_meets_33 (by decide) (fun c_33 => absurd rfl c_33) (fun c_33 => ?_)
          refine lv_iconst (v := nI 0) hx hb dX7_meets_36 (by decide) ?_
          refine lv_goto (tgt := 44) hx hb dX7_meets_37 (by decide) ?_
          refine lv_ior hx hb dX7_meets_44 ?_
          refine xn_eqi (y := mtF (wk p d (dl g th x) (th x 2) (th x 4)) (j + 1)) (by simp only [mtF, hw]; exact or_0) ?_
          refine lv_istore_n (lv' := [(2, .int (mtF (wk p d (dl g th x) (th x 2) (th x 4)) (j + 1))), (4, .int (-9)), (0, .ref (ad 0)), (1, .int (nI x)), (3, .int (nI j))]) hx hb dX7_meets_45 rfl hl (by decide) rfl (fun ls hl => ?_)
          refine lv_iinc (v := nI (j + 1)) (lv' := [(3, .int (nI (j + 1))), (2, .int (mtF (wk p d (dl g th x) (th x 2) (th x 4)) (j + 1))), (4, .int (-9)), (0, .ref (ad 0)), (1, .int (nI x))]) hx hb dX7_meets_46 hl (k := 4) rfl (xn_inc _ 1) (by decide) rfl (fun ls hl => ?_)
          refine lv_goto (tgt := 14) hx hb dX7_meets_49 (by decide) ?_
          exact ih_14 (j + 1) τ23 (by omega) (hF.tr hF23) (by omega) _ _ _ hP hS (lv_sub hl [3, 4, 1, 0] rfl)
        · rw [hw] at hl
          have hl : lv_has ls 5 [(4, .int (nI e)), (0, .ref (ad 0)), (1, .int (nI x)), (2, .int (mtF (wk p d (dl g th x) (th x 2) (th x 4)) j)), (3, .int (nI j))] := hl
          have hbd := wk_bnd (fun k hk => (hR.2.2 k hk).2) hp0 hp6 hdlx ho2 j e h hw
          have hj30 : j * 216 ≤ 30 * 216 := Nat.mul_le_mul_right 216 (by omega)
          refine lv_iload_n hx hb dX7_meets_28 rfl (lv_at hl 3 rfl) ?_
          refine lv_iload hx hb dX7_meets_29 (lv_at hl 0 rfl) ?_
          refine lv_bipush (v := (-9)) hx hb dX7_meets_31 (by decide) ?_
          refine lv_icmp_ne (tgt := 40) hx hb dX7_meets_33 (by decide) (fun c_33 => ?_) (fun c_33 => absurd c_33 (nI_n9' (by omega)))
          refine lv_iconst (v := nI 1) hx hb dX7_meets_40 (by decide) ?_
          refine lv_iload hx hb dX7_meets_41 (lv_at hl 0 rfl) ?_
          refine lv_ishl hx hb dX7_meets_43 ?_
          refine lv_ior hx hb dX7_meets_44 ?_
          refine xn_eqi (y := mtF (wk p d (dl g th x) (th x 2) (th x 4)) (j + 1)) ((mtF_some hw).symm) ?_
          refine lv_istore_n (lv' := [(2, .int (mtF (wk p d (dl g th x) (th x 2) (th x 4)) (j + 1))), (4, .int (nI e)), (0, .ref (ad 0)), (1, .int (nI x)), (3, .int (nI j))]) hx hb dX7_meets_45 rfl hl (by decide) rfl (fun ls hl => ?_)
          refine lv_iinc (v := nI (j + 1)) (lv' := [(3, .int (nI (j + 1))), (2, .int (mtF (wk p d (dl g th x) (th x 2) (th x 4)) (j + 1))), (4, .int (nI e)), (0, .ref (ad 0)), (1, .int (nI x))]) hx hb dX7_meets_46 hl (k := 4) rfl (xn_inc _ 1) (by decide) rfl (fun ls hl => ?_)
          refine lv_goto (tgt := 14) hx hb dX7_meets_49 (by decide) ?_
          exact ih_14 (j + 1) τ23 (by omega) (hF.tr hF23) (by omega) _ _ _ hP hS (lv_sub hl [3, 4, 1, 0] rfl)
  exact LP_14 _ 0 σ (by omega) FrF.rf (Nat.lt_succ_self _) _ _ _ hP hS (lv_sub hl [2, 3, 1, 0] rfl)

set_option maxHeartbeats 4000000 in
set_option maxRecDepth 100000 in
theorem a2_weights_xo (l : Launch) {D : va_G} {ca : Nat → ClassId} {ad : Nat → Nat} (hI : Ij ad 18) {σ : Sg} {n p g rn : Nat} {d : Nat → Nat} {th rd : Nat → Nat → Nat} {sl sn : Nat → Nat} {sc : Nat → Nat → Int32} {ft tr : Int32} {x : Int32} (hJ : I2 n p g rn d th rd sl sn sc ft tr σ) (hxx : ∀ j, j < n → x ≠ nI j) : C2i l D ca ad yX7_weights wsX7_weights { frames := 4, cells := 0, slots := 0, locals := 91 } [.ref (ad 0), .int x] σ (fun r σ' => r = -1 ∧ I2 n p g rn d th rd sl sn sc ft tr σ') := by
  refine xk_entry cX7_weights 5 (some .int) (by decide) rfl (Nat.le_of_ble_eq_true rfl) ?_
  intro pP eE sS mM below meth cC hx hb hml hr hts hown hlk hP hK hX hS ls hl
  have hl : lv_has ls 5 [(0, .ref (ad 0)), (1, .int x)] := hl
  obtain ⟨hT, hR, hRd, hSh, hnp, hft, htr⟩ := id hJ
  have hn5 := hT.2.2.1
  have hg9 := hT.2.2.2.1
  have hp6 := hR.2.1
  have hrn8 := hRd.2.1
  refine lv_aload_n hx hb dX7_weights_0 rfl (lv_at hl 0 rfl) ?_
  refine lv_iload_n hx hb dX7_weights_1 rfl (lv_at hl 1 rfl) ?_
  refine xk_fi (va_runV (As := [.int x]) (rest := []) ⟨hx, hb, hml, hown, hts⟩ (k2_isThing_out l hI (x := x) hT (by assumption)) (cwV 1 hts gX7_weights_X7_isThing rfl rfl rfl (by decide +kernel) ⟨Nat.le_of_ble_eq_true rfl, Nat.le_of_ble_eq_true rfl⟩) (xk_preV X2_ok hK hX hP (xk_recv hK hP 0 (by omega) (ci := 7) e2_obj rfl)) rfl rfl hl.1 rfl (lv_room (Nat.le_of_ble_eq_true rfl)) dX7_weights_2 ⟨Nat.le_of_ble_eq_true rfl, Nat.le_of_ble_eq_true rfl⟩) hS (fun H locs hP hS => ?_)
  refine xn_zne (tgt := 10) hx hb dX7_weights_5 (by decide) (by omega) (fun c_5 => absurd c_5 (by omega)) (fun c_5 => ?_)
  refine lv_iconst (v := (-1)) hx hb dX7_weights_8 (by decide) ?_
  exact xk_iret hx hb hr (vp_nar_int _) X2_ok hK hX hP hS hlk dX7_weights_9 (⟨rfl, hJ⟩)

set_option maxRecDepth 20000 in
theorem flX7_weights_25 {s : State} {av : Array Value} (hts : ∀ w ∈ wsX7_weights, w.before av s = true) : (Cond.fieldLink RX7 25 "WellBackModel" "weight" "[I").before av s = true := hts _ (by decide +kernel)
set_option maxRecDepth 20000 in
theorem inX7_weights_X7 : ∀ w ∈ u_ws RX7 TX7 30, w ∈ wsX7_weights := by decide +kernel
set_option maxHeartbeats 4000000 in
set_option maxRecDepth 100000 in
theorem a2_weights_ok (l : Launch) {D : va_G} {ca : Nat → ClassId} {ad : Nat → Nat} (hI : Ij ad 18) {σ : Sg} {n p g rn : Nat} {d : Nat → Nat} {th rd : Nat → Nat → Nat} {sl sn : Nat → Nat} {sc : Nat → Nat → Int32} {ft tr : Int32} {x : Nat} (hJ : I2 n p g rn d th rd sl sn sc ft tr σ) (hxn : x < n) : C2i l D ca ad yX7_weights wsX7_weights { frames := 4, cells := 0, slots := 0, locals := 91 } [.ref (ad 0), .int (nI x)] σ (fun r σ' => r = sbt (fun v => decide (areSo p d g (sth th (nI x) (th x 0) v) rn rd)) 10 ∧ I2 n p g rn d th rd sl sn sc ft tr σ') := by
  refine xk_entry cX7_weights 5 (some .int) (by decide) rfl (Nat.le_of_ble_eq_true rfl) ?_
  intro pP eE sS mM below meth cC hx hb hml hr hts hown hlk hP hK hX hS ls hl
  have hl : lv_has ls 5 [(0, .ref (ad 0)), (1, .int (nI x))] := hl
  obtain ⟨hT, hR, hRd, hSh, hnp, hft, htr⟩ := id hJ
  have hn5 := hT.2.2.1
  have hg9 := hT.2.2.2.1
  have hp6 := hR.2.1
  have hrn8 := hRd.2.1
  have hXx := hT.2.2.2.2 x hxn
  obtain ⟨ho0, ho1, ho2, ho3, ho4⟩ := hXx.2
  have hp0 : 0 < p := hnp.mp (by omega)
  refine lv_aload_n hx hb dX7_weights_0 rfl (lv_at hl 0 rfl) ?_
  refine lv_iload_n hx hb dX7_weights_1 rfl (lv_at hl 1 rfl) ?_
  refine xk_fi (va_runV (As := [.int (nI x)]) (rest := []) ⟨hx, hb, hml, hown, hts⟩ (k2_isThing_in l hI (x := x) hT (by omega)) (cwV 1 hts gX7_weights_X7_isThing rfl rfl rfl (by decide +kernel) ⟨Nat.le_of_ble_eq_true rfl, Nat.le_of_ble_eq_true rfl⟩) (xk_preV X2_ok hK hX hP (xk_recv hK hP 0 (by omega) (ci := 7) e2_obj rfl)) rfl rfl hl.1 rfl (lv_room (Nat.le_of_ble_eq_true rfl)) dX7_weights_2 ⟨Nat.le_of_ble_eq_true rfl, Nat.le_of_ble_eq_true rfl⟩) hS (fun H locs hP hS => ?_)
  refine xn_zne (tgt := 10) hx hb dX7_weights_5 (by decide) (by omega) (fun c_5 => ?_) (fun c_5 => absurd c_5 (by omega))
  refine lv_aload_n hx hb dX7_weights_10 rfl (lv_at hl 0 rfl) ?_
  refine xk_get hx hb hts (inX7_weights_X7) hown hK hP 0 (by omega) (ci := 7) e2_obj rfl 10 (by decide) (flX7_weights_25 hts) rfl (.ref (ad 6)) rfl dX7_weights_11 ?_
  refine lv_iload_n hx hb dX7_weights_14 rfl (lv_at hl 1 rfl) ?_
  refine xk_iald hx hb hK hP 6 (by omega) (n := 5) (e2_row 5 (by decide) rfl) rfl x (by omega) (by decide) dX7_weights_15 ?_
  refine xn_eqi (y := nI (th x 1)) (hXx.1 1 (by omega)) ?_
  refine lv_istore_n (lv' := [(2, .int (nI (th x 1))), (0, .ref (ad 0)), (1, .int (nI x))]) hx hb dX7_weights_16 rfl hl (by decide) rfl (fun ls hl => ?_)
  refine lv_iconst (v := nI 0) hx hb dX7_weights_17 (by decide) ?_
  refine xn_eqi (y := sbt (fun v => decide (areSo p d g (sth th (nI x) (th x 0) v) rn rd)) 0) rfl ?_
  refine lv_istore_n (lv' := [(3, .int (sbt (fun v => decide (areSo p d g (sth th (nI x) (th x 0) v) rn rd)) 0)), (2, .int (nI (th x 1))), (0, .ref (ad 0)), (1, .int (nI x))]) hx hb dX7_weights_18 rfl hl (by decide) rfl (fun ls hl => ?_)
  refine lv_iconst (v := nI 0) hx hb dX7_weights_19 (by decide) ?_
  refine lv_istore (lv' := [(4, .int (nI 0)), (3, .int (sbt (fun v => decide (areSo p d g (sth th (nI x) (th x 0) v) rn rd)) 0)), (2, .int (nI (th x 1))), (0, .ref (ad 0)), (1, .int (nI x))]) hx hb dX7_weights_20 hl (by decide) rfl (fun ls hl => ?_)
  have LP_22 : ∀ (n_22 : Nat) (v : Nat) (τ : Sg), (v ≤ 10) → (FrX 6 x σ τ) → (10 - v) < n_22 → ∀ (H : Heap) (locs : List Loc) (ls : Array Slot), va_P D vwCl (wl ad 18 (en2 ad ca τ)) H → va_S (AA ad 18) sS.heap H locs → lv_has ls 5 [(0, .ref (ad 0)), (1, .int (nI x)), (2, .int (nI (th x 1))), (3, .int (sbt (fun v => decide (areSo p d g (sth th (nI x) (th x 0) v) rn rd)) v)), (4, .int (nI v))] → Wwi2 pP l eE { frames := 4, cells := 0, slots := 0, locals := 91 } sS mM [.ref (ad 0), .int (nI x)] below meth cC D ca ad (fun r σ' => r = sbt (fun v => decide (areSo p d g (sth th (nI x) (th x 0) v) rn rd)) 10 ∧ I2 n p g rn d th rd sl sn sc ft tr σ') H locs (F0 mM 22 ls []) := by
    intro n_22
    induction n_22 with
    | zero =>
      intro v τ hv0 hF hn_22
      exact absurd hn_22 (Nat.not_lt_zero _)
    | succ n_22 ih_22 =>
      intro v τ hv0 hF hn_22 H locs ls hP hS hl
      refine lv_iload hx hb dX7_weights_22 (lv_at hl 4 rfl) ?_
      refine lv_bipush (v := nI 9) hx hb dX7_weights_24 (by decide) ?_
      refine xn_igt (tgt := 61) hx hb dX7_weights_26 (by decide) (by omega) (by omega) (fun c_26 => ?_) (fun c_26 => ?_)
      · refine lv_aload_n hx hb dX7_weights_61 rfl (lv_at hl 0 rfl) ?_
        refine xk_get hx hb hts (inX7_weights_X7) hown hK hP 0 (by omega) (ci := 7) e2_obj rfl 10 (by decide) (flX7_weights_25 hts) rfl (.ref (ad 6)) rfl dX7_weights_62 ?_
        refine lv_iload_n hx hb dX7_weights_65 rfl (lv_at hl 1 rfl) ?_
        refine lv_iload_n hx hb dX7_weights_66 rfl (lv_at hl 2 rfl) ?_
        refine xk_iast hx hb hK hI hP hS 6 (by omega) (n := 5) (fun τ => (e2_row 5 (by decide) rfl)) rfl x (by omega) (by decide) e2_loc dX7_weights_67 (fun H locs hP hS => ?_)
        refine lv_iload_n hx hb dX7_weights_68 rfl (lv_at hl 3 rfl) ?_
        exact xk_iret hx hb hr (vp_nar_int _) X2_ok hK hX hP hS hlk dX7_weights_69 (⟨by rw [show v = 10 by omega], I2_X (q := 1) hJ hF (by omega) hxn⟩)
      · refine lv_aload_n hx hb dX7_weights_29 rfl (lv_at hl 0 rfl) ?_
        refine xk_get hx hb hts (inX7_weights_X7) hown hK hP 0 (by omega) (ci := 7) e2_obj rfl 10 (by decide) (flX7_weights_25 hts) rfl (.ref (ad 6)) rfl dX7_weights_30 ?_
        refine lv_iload_n hx hb dX7_weights_33 rfl (lv_at hl 1 rfl) ?_
        refine lv_iload hx hb dX7_weights_34 (lv_at hl 4 rfl) ?_
        refine xk_iast hx hb hK hI hP hS 6 (by omega) (n := 5) (fun τ => (e2_row 5 (by decide) rfl)) rfl x (by omega) (by decide) e2_loc dX7_weights_36 (fun H locs hP hS => ?_)
        refine lv_iload_n hx hb dX7_weights_37 rfl (lv_at hl 3 rfl) ?_
        refine lv_aload_n hx hb dX7_weights_38 rfl (lv_at hl 0 rfl) ?_
        refine xk_ci (va_runV (As := []) (rest := [.int (sbt (fun v => decide (areSo p d g (sth th (nI x) (th x 0) v) rn rd)) v)]) ⟨hx, hb, hml, hown, hts⟩ (k2_areSo l hI (th := sth th (nI x) (th x 0) v) (ThM_X (q := 1) hT hF hxn (.inr ⟨rfl, rfl, rfl⟩) (by omega) (by omega)) (RotaM_X (q := 1) hR hF) hp0 (ReadsM_X (q := 1) hRd hF (by omega))) (cwV 0 hts gX7_weights_X7_areSo rfl rfl rfl (by decide +kernel) ⟨Nat.le_of_ble_eq_true rfl, Nat.le_of_ble_eq_true rfl⟩) (xk_preV X2_ok hK hX hP (xk_recv hK hP 0 (by omega) (ci := 7) e2_obj rfl)) rfl rfl hl.1 rfl (lv_room (Nat.le_of_ble_eq_true rfl)) dX7_weights_39 ⟨Nat.le_of_ble_eq_true rfl, Nat.le_of_ble_eq_true rfl⟩) hS (fun r9 τ9 H locs hp hP hS => ?_)
        obtain ⟨rfl, hF9⟩ := hp
        have hFn : FrX 6 x σ τ9 := hF.st (by omega) hF9
        by_cases q_a : areSo p d g (sth th (nI x) (th x 0) v) rn rd
        · rw [bz_t q_a]
          refine xn_zeq (tgt := 52) hx hb dX7_weights_42 (by decide) (by omega) (fun c_42 => absurd c_42 (by omega)) (fun c_42 => ?_)
          refine lv_iconst (v := nI 1) hx hb dX7_weights_45 (by decide) ?_
          refine lv_iload hx hb dX7_weights_46 (lv_at hl 4 rfl) ?_
          refine lv_ishl hx hb dX7_weights_48 ?_
          refine lv_goto (tgt := 53) hx hb dX7_weights_49 (by decide) ?_
          refine lv_ior hx hb dX7_weights_53 ?_
          refine xn_eqi (y := sbt (fun v => decide (areSo p d g (sth th (nI x) (th x 0) v) rn rd)) (v + 1)) (by simp only [sbt]; rw [if_pos (by simpa using q_a)]) ?_
          refine lv_istore_n (lv' := [(3, .int (sbt (fun v => decide (areSo p d g (sth th (nI x) (th x 0) v) rn rd)) (v + 1))), (0, .ref (ad 0)), (1, .int (nI x)), (2, .int (nI (th x 1))), (4, .int (nI v))]) hx hb dX7_weights_54 rfl hl (by decide) rfl (fun ls hl => ?_)
          refine lv_iinc (v := nI (v + 1)) (lv' := [(4, .int (nI (v + 1))), (3, .int (sbt (fun v => decide (areSo p d g (sth th (nI x) (th x 0) v) rn rd)) (v + 1))), (0, .ref (ad 0)), (1, .int (nI x)), (2, .int (nI (th x 1)))]) hx hb dX7_weights_55 hl (k := 4) rfl (xn_inc _ 1) (by decide) rfl (fun ls hl => ?_)
          refine lv_goto (tgt := 22) hx hb dX7_weights_58 (by decide) ?_
          exact ih_22 (v + 1) τ9 (by omega) hFn (by omega) _ _ _ hP hS (lv_sub hl [2, 3, 4, 1, 0] rfl)
        · rw [bz_f q_a]
          refine xn_zeq (tgt := 52) hx hb dX7_weights_42 (by decide) (by omega) (fun c_42 => ?_) (fun c_42 => absurd c_42 (by omega))
          refine lv_iconst (v := nI 0) hx hb dX7_weights_52 (by decide) ?_
          refine lv_ior hx hb dX7_weights_53 ?_
          refine xn_eqi (y := sbt (fun v => decide (areSo p d g (sth th (nI x) (th x 0) v) rn rd)) (v + 1)) (by simp only [sbt]; rw [if_neg (by simpa using q_a)]; exact or_0) ?_
          refine lv_istore_n (lv' := [(3, .int (sbt (fun v => decide (areSo p d g (sth th (nI x) (th x 0) v) rn rd)) (v + 1))), (0, .ref (ad 0)), (1, .int (nI x)), (2, .int (nI (th x 1))), (4, .int (nI v))]) hx hb dX7_weights_54 rfl hl (by decide) rfl (fun ls hl => ?_)
          refine lv_iinc (v := nI (v + 1)) (lv' := [(4, .int (nI (v + 1))), (3, .int (sbt (fun v => decide (areSo p d g (sth th (nI x) (th x 0) v) rn rd)) (v + 1))), (0, .ref (ad 0)), (1, .int (nI x)), (2, .int (nI (th x 1)))]) hx hb dX7_weights_55 hl (k := 4) rfl (xn_inc _ 1) (by decide) rfl (fun ls hl => ?_)
          refine lv_goto (tgt := 22) hx hb dX7_weights_58 (by decide) ?_
          exact ih_22 (v + 1) τ9 (by omega) hFn (by omega) _ _ _ hP hS (lv_sub hl [2, 3, 4, 1, 0] rfl)
  exact LP_22 _ 0 σ (by omega) FrX.rf (Nat.lt_succ_self _) _ _ _ hP hS (lv_sub hl [3, 4, 2, 1, 0] rfl)

set_option maxHeartbeats 4000000 in
set_option maxRecDepth 100000 in
theorem a2_kinds_xo (l : Launch) {D : va_G} {ca : Nat → ClassId} {ad : Nat → Nat} (hI : Ij ad 18) {σ : Sg} {n p g rn : Nat} {d : Nat → Nat} {th rd : Nat → Nat → Nat} {sl sn : Nat → Nat} {sc : Nat → Nat → Int32} {ft tr : Int32} {x : Int32} (hJ : I2 n p g rn d th rd sl sn sc ft tr σ) (hxx : ∀ j, j < n → x ≠ nI j) : C2i l D ca ad yX7_kinds wsX7_kinds { frames := 4, cells := 0, slots := 0, locals := 91 } [.ref (ad 0), .int x] σ (fun r σ' => r = -1 ∧ I2 n p g rn d th rd sl sn sc ft tr σ') := by
  refine xk_entry cX7_kinds 5 (some .int) (by decide) rfl (Nat.le_of_ble_eq_true rfl) ?_
  intro pP eE sS mM below meth cC hx hb hml hr hts hown hlk hP hK hX hS ls hl
  have hl : lv_has ls 5 [(0, .ref (ad 0)), (1, .int x)] := hl
  obtain ⟨hT, hR, hRd, hSh, hnp, hft, htr⟩ := id hJ
  have hn5 := hT.2.2.1
  have hg9 := hT.2.2.2.1
  have hp6 := hR.2.1
  have hrn8 := hRd.2.1
  refine lv_aload_n hx hb dX7_kinds_0 rfl (lv_at hl 0 rfl) ?_
  refine lv_iload_n hx hb dX7_kinds_1 rfl (lv_at hl 1 rfl) ?_
  refine xk_fi (va_runV (As := [.int x]) (rest := []) ⟨hx, hb, hml, hown, hts⟩ (k2_isThing_out l hI (x := x) hT (by assumption)) (cwV 1 hts gX7_kinds_X7_isThing rfl rfl rfl (by decide +kernel) ⟨Nat.le_of_ble_eq_true rfl, Nat.le_of_ble_eq_true rfl⟩) (xk_preV X2_ok hK hX hP (xk_recv hK hP 0 (by omega) (ci := 7) e2_obj rfl)) rfl rfl hl.1 rfl (lv_room (Nat.le_of_ble_eq_true rfl)) dX7_kinds_2 ⟨Nat.le_of_ble_eq_true rfl, Nat.le_of_ble_eq_true rfl⟩) hS (fun H locs hP hS => ?_)
  refine xn_zne (tgt := 10) hx hb dX7_kinds_5 (by decide) (by omega) (fun c_5 => absurd c_5 (by omega)) (fun c_5 => ?_)
  refine lv_iconst (v := (-1)) hx hb dX7_kinds_8 (by decide) ?_
  exact xk_iret hx hb hr (vp_nar_int _) X2_ok hK hX hP hS hlk dX7_kinds_9 (⟨rfl, hJ⟩)

set_option maxRecDepth 20000 in
theorem flX7_kinds_22 {s : State} {av : Array Value} (hts : ∀ w ∈ wsX7_kinds, w.before av s = true) : (Cond.fieldLink RX7 22 "WellBackModel" "kind" "[I").before av s = true := hts _ (by decide +kernel)
set_option maxRecDepth 20000 in
theorem inX7_kinds_X7 : ∀ w ∈ u_ws RX7 TX7 30, w ∈ wsX7_kinds := by decide +kernel
set_option maxHeartbeats 4000000 in
set_option maxRecDepth 100000 in
theorem a2_kinds_ok (l : Launch) {D : va_G} {ca : Nat → ClassId} {ad : Nat → Nat} (hI : Ij ad 18) {σ : Sg} {n p g rn : Nat} {d : Nat → Nat} {th rd : Nat → Nat → Nat} {sl sn : Nat → Nat} {sc : Nat → Nat → Int32} {ft tr : Int32} {x : Nat} (hJ : I2 n p g rn d th rd sl sn sc ft tr σ) (hxn : x < n) : C2i l D ca ad yX7_kinds wsX7_kinds { frames := 4, cells := 0, slots := 0, locals := 91 } [.ref (ad 0), .int (nI x)] σ (fun r σ' => r = sbt (fun v => decide (areSo p d g (sth th (nI x) v (th x 1)) rn rd)) 3 ∧ I2 n p g rn d th rd sl sn sc ft tr σ') := by
  refine xk_entry cX7_kinds 5 (some .int) (by decide) rfl (Nat.le_of_ble_eq_true rfl) ?_
  intro pP eE sS mM below meth cC hx hb hml hr hts hown hlk hP hK hX hS ls hl
  have hl : lv_has ls 5 [(0, .ref (ad 0)), (1, .int (nI x))] := hl
  obtain ⟨hT, hR, hRd, hSh, hnp, hft, htr⟩ := id hJ
  have hn5 := hT.2.2.1
  have hg9 := hT.2.2.2.1
  have hp6 := hR.2.1
  have hrn8 := hRd.2.1
  have hXx := hT.2.2.2.2 x hxn
  obtain ⟨ho0, ho1, ho2, ho3, ho4⟩ := hXx.2
  have hp0 : 0 < p := hnp.mp (by omega)
  refine lv_aload_n hx hb dX7_kinds_0 rfl (lv_at hl 0 rfl) ?_
  refine lv_iload_n hx hb dX7_kinds_1 rfl (lv_at hl 1 rfl) ?_
  refine xk_fi (va_runV (As := [.int (nI x)]) (rest := []) ⟨hx, hb, hml, hown, hts⟩ (k2_isThing_in l hI (x := x) hT (by omega)) (cwV 1 hts gX7_kinds_X7_isThing rfl rfl rfl (by decide +kernel) ⟨Nat.le_of_ble_eq_true rfl, Nat.le_of_ble_eq_true rfl⟩) (xk_preV X2_ok hK hX hP (xk_recv hK hP 0 (by omega) (ci := 7) e2_obj rfl)) rfl rfl hl.1 rfl (lv_room (Nat.le_of_ble_eq_true rfl)) dX7_kinds_2 ⟨Nat.le_of_ble_eq_true rfl, Nat.le_of_ble_eq_true rfl⟩) hS (fun H locs hP hS => ?_)
  refine xn_zne (tgt := 10) hx hb dX7_kinds_5 (by decide) (by omega) (fun c_5 => ?_) (fun c_5 => absurd c_5 (by omega))
  refine lv_aload_n hx hb dX7_kinds_10 rfl (lv_at hl 0 rfl) ?_
  refine xk_get hx hb hts (inX7_kinds_X7) hown hK hP 0 (by omega) (ci := 7) e2_obj rfl 9 (by decide) (flX7_kinds_22 hts) rfl (.ref (ad 5)) rfl dX7_kinds_11 ?_
  refine lv_iload_n hx hb dX7_kinds_14 rfl (lv_at hl 1 rfl) ?_
  refine xk_iald hx hb hK hP 5 (by omega) (n := 5) (e2_row 5 (by decide) rfl) rfl x (by omega) (by decide) dX7_kinds_15 ?_
  refine xn_eqi (y := nI (th x 0)) (hXx.1 0 (by omega)) ?_
  refine lv_istore_n (lv' := [(2, .int (nI (th x 0))), (0, .ref (ad 0)), (1, .int (nI x))]) hx hb dX7_kinds_16 rfl hl (by decide) rfl (fun ls hl => ?_)
  refine lv_iconst (v := nI 0) hx hb dX7_kinds_17 (by decide) ?_
  refine xn_eqi (y := sbt (fun v => decide (areSo p d g (sth th (nI x) v (th x 1)) rn rd)) 0) rfl ?_
  refine lv_istore_n (lv' := [(3, .int (sbt (fun v => decide (areSo p d g (sth th (nI x) v (th x 1)) rn rd)) 0)), (2, .int (nI (th x 0))), (0, .ref (ad 0)), (1, .int (nI x))]) hx hb dX7_kinds_18 rfl hl (by decide) rfl (fun ls hl => ?_)
  refine lv_iconst (v := nI 0) hx hb dX7_kinds_19 (by decide) ?_
  refine lv_istore (lv' := [(4, .int (nI 0)), (3, .int (sbt (fun v => decide (areSo p d g (sth th (nI x) v (th x 1)) rn rd)) 0)), (2, .int (nI (th x 0))), (0, .ref (ad 0)), (1, .int (nI x))]) hx hb dX7_kinds_20 hl (by decide) rfl (fun ls hl => ?_)
  have LP_22 : ∀ (n_22 : Nat) (v : Nat) (τ : Sg), (v ≤ 3) → (FrX 5 x σ τ) → (3 - v) < n_22 → ∀ (H : Heap) (locs : List Loc) (ls : Array Slot), va_P D vwCl (wl ad 18 (en2 ad ca τ)) H → va_S (AA ad 18) sS.heap H locs → lv_has ls 5 [(0, .ref (ad 0)), (1, .int (nI x)), (2, .int (nI (th x 0))), (3, .int (sbt (fun v => decide (areSo p d g (sth th (nI x) v (th x 1)) rn rd)) v)), (4, .int (nI v))] → Wwi2 pP l eE { frames := 4, cells := 0, slots := 0, locals := 91 } sS mM [.ref (ad 0), .int (nI x)] below meth cC D ca ad (fun r σ' => r = sbt (fun v => decide (areSo p d g (sth th (nI x) v (th x 1)) rn rd)) 3 ∧ I2 n p g rn d th rd sl sn sc ft tr σ') H locs (F0 mM 22 ls []) := by
    intro n_22
    induction n_22 with
    | zero =>
      intro v τ hv0 hF hn_22
      exact absurd hn_22 (Nat.not_lt_zero _)
    | succ n_22 ih_22 =>
      intro v τ hv0 hF hn_22 H locs ls hP hS hl
      refine lv_iload hx hb dX7_kinds_22 (lv_at hl 4 rfl) ?_
      refine lv_iconst (v := nI 3) hx hb dX7_kinds_24 (by decide) ?_
      refine xn_ige (tgt := 60) hx hb dX7_kinds_25 (by decide) (by omega) (by omega) (fun c_25 => ?_) (fun c_25 => ?_)
      · refine lv_aload_n hx hb dX7_kinds_60 rfl (lv_at hl 0 rfl) ?_
        refine xk_get hx hb hts (inX7_kinds_X7) hown hK hP 0 (by omega) (ci := 7) e2_obj rfl 9 (by decide) (flX7_kinds_22 hts) rfl (.ref (ad 5)) rfl dX7_kinds_61 ?_
        refine lv_iload_n hx hb dX7_kinds_64 rfl (lv_at hl 1 rfl) ?_
        refine lv_iload_n hx hb dX7_kinds_65 rfl (lv_at hl 2 rfl) ?_
        refine xk_iast hx hb hK hI hP hS 5 (by omega) (n := 5) (fun τ => (e2_row 5 (by decide) rfl)) rfl x (by omega) (by decide) e2_loc dX7_kinds_66 (fun H locs hP hS => ?_)
        refine lv_iload_n hx hb dX7_kinds_67 rfl (lv_at hl 3 rfl) ?_
        exact xk_iret hx hb hr (vp_nar_int _) X2_ok hK hX hP hS hlk dX7_kinds_68 (⟨by rw [show v = 3 by omega], I2_X (q := 0) hJ hF (by omega) hxn⟩)
      · refine lv_aload_n hx hb dX7_kinds_28 rfl (lv_at hl 0 rfl) ?_
        refine xk_get hx hb hts (inX7_kinds_X7) hown hK hP 0 (by omega) (ci := 7) e2_obj rfl 9 (by decide) (flX7_kinds_22 hts) rfl (.ref (ad 5)) rfl dX7_kinds_29 ?_
        refine lv_iload_n hx hb dX7_kinds_32 rfl (lv_at hl 1 rfl) ?_
        refine lv_iload hx hb dX7_kinds_33 (lv_at hl 4 rfl) ?_
        refine xk_iast hx hb hK hI hP hS 5 (by omega) (n := 5) (fun τ => (e2_row 5 (by decide) rfl)) rfl x (by omega) (by decide) e2_loc dX7_kinds_35 (fun H locs hP hS => ?_)
        refine lv_iload_n hx hb dX7_kinds_36 rfl (lv_at hl 3 rfl) ?_
        refine lv_aload_n hx hb dX7_kinds_37 rfl (lv_at hl 0 rfl) ?_
        refine xk_ci (va_runV (As := []) (rest := [.int (sbt (fun v => decide (areSo p d g (sth th (nI x) v (th x 1)) rn rd)) v)]) ⟨hx, hb, hml, hown, hts⟩ (k2_areSo l hI (th := sth th (nI x) v (th x 1)) (ThM_X (q := 0) hT hF hxn (.inl ⟨rfl, rfl, rfl⟩) (by omega) (by omega)) (RotaM_X (q := 0) hR hF) hp0 (ReadsM_X (q := 0) hRd hF (by omega))) (cwV 0 hts gX7_kinds_X7_areSo rfl rfl rfl (by decide +kernel) ⟨Nat.le_of_ble_eq_true rfl, Nat.le_of_ble_eq_true rfl⟩) (xk_preV X2_ok hK hX hP (xk_recv hK hP 0 (by omega) (ci := 7) e2_obj rfl)) rfl rfl hl.1 rfl (lv_room (Nat.le_of_ble_eq_true rfl)) dX7_kinds_38 ⟨Nat.le_of_ble_eq_true rfl, Nat.le_of_ble_eq_true rfl⟩) hS (fun r9 τ9 H locs hp hP hS => ?_)
        obtain ⟨rfl, hF9⟩ := hp
        have hFn : FrX 5 x σ τ9 := hF.st (by omega) hF9
        by_cases q_a : areSo p d g (sth th (nI x) v (th x 1)) rn rd
        · rw [bz_t q_a]
          refine xn_zeq (tgt := 51) hx hb dX7_kinds_41 (by decide) (by omega) (fun c_41 => absurd c_41 (by omega)) (fun c_41 => ?_)
          refine lv_iconst (v := nI 1) hx hb dX7_kinds_44 (by decide) ?_
          refine lv_iload hx hb dX7_kinds_45 (lv_at hl 4 rfl) ?_
          refine lv_ishl hx hb dX7_kinds_47 ?_
          refine lv_goto (tgt := 52) hx hb dX7_kinds_48 (by decide) ?_
          refine lv_ior hx hb dX7_kinds_52 ?_
          refine xn_eqi (y := sbt (fun v => decide (areSo p d g (sth th (nI x) v (th x 1)) rn rd)) (v + 1)) (by simp only [sbt]; rw [if_pos (by simpa using q_a)]) ?_
          refine lv_istore_n (lv' := [(3, .int (sbt (fun v => decide (areSo p d g (sth th (nI x) v (th x 1)) rn rd)) (v + 1))), (0, .ref (ad 0)), (1, .int (nI x)), (2, .int (nI (th x 0))), (4, .int (nI v))]) hx hb dX7_kinds_53 rfl hl (by decide) rfl (fun ls hl => ?_)
          refine lv_iinc (v := nI (v + 1)) (lv' := [(4, .int (nI (v + 1))), (3, .int (sbt (fun v => decide (areSo p d g (sth th (nI x) v (th x 1)) rn rd)) (v + 1))), (0, .ref (ad 0)), (1, .int (nI x)), (2, .int (nI (th x 0)))]) hx hb dX7_kinds_54 hl (k := 4) rfl (xn_inc _ 1) (by decide) rfl (fun ls hl => ?_)
          refine lv_goto (tgt := 22) hx hb dX7_kinds_57 (by decide) ?_
          exact ih_22 (v + 1) τ9 (by omega) hFn (by omega) _ _ _ hP hS (lv_sub hl [2, 3, 4, 1, 0] rfl)
        · rw [bz_f q_a]
          refine xn_zeq (tgt := 51) hx hb dX7_kinds_41 (by decide) (by omega) (fun c_41 => ?_) (fun c_41 => absurd c_41 (by omega))
          refine lv_iconst (v := nI 0) hx hb dX7_kinds_51 (by decide) ?_
          refine lv_ior hx hb dX7_kinds_52 ?_
          refine xn_eqi (y := sbt (fun v => decide (areSo p d g (sth th (nI x) v (th x 1)) rn rd)) (v + 1)) (by simp only [sbt]; rw [if_neg (by simpa using q_a)]; exact or_0) ?_
          refine lv_istore_n (lv' := [(3, .int (sbt (fun v => decide (areSo p d g (sth th (nI x) v (th x 1)) rn rd)) (v + 1))), (0, .ref (ad 0)), (1, .int (nI x)), (2, .int (nI (th x 0))), (4, .int (nI v))]) hx hb dX7_kinds_53 rfl hl (by decide) rfl (fun ls hl => ?_)
          refine lv_iinc (v := nI (v + 1)) (lv' := [(4, .int (nI (v + 1))), (3, .int (sbt (fun v => decide (areSo p d g (sth th (nI x) v (th x 1)) rn rd)) (v + 1))), (0, .ref (ad 0)), (1, .int (nI x)), (2, .int (nI (th x 0)))]) hx hb dX7_kinds_54 hl (k := 4) rfl (xn_inc _ 1) (by decide) rfl (fun ls hl => ?_)
          refine lv_goto (tgt := 22) hx hb dX7_kinds_57 (by decide) ?_
          exact ih_22 (v + 1) τ9 (by omega) hFn (by omega) _ _ _ hP hS (lv_sub hl [2, 3, 4, 1, 0] rfl)
  exact LP_22 _ 0 σ (by omega) FrX.rf (Nat.lt_succ_self _) _ _ _ hP hS (lv_sub hl [3, 4, 2, 1, 0] rfl)

set_option maxRecDepth 20000 in
theorem flX7_depths_107 {s : State} {av : Array Value} (hts : ∀ w ∈ wsX7_depths, w.before av s = true) : (Cond.fieldLink RX7 107 "WellBackModel" "places" "I").before av s = true := hts _ (by decide +kernel)
set_option maxRecDepth 20000 in
theorem inX7_depths_X7 : ∀ w ∈ u_ws RX7 TX7 30, w ∈ wsX7_depths := by decide +kernel
set_option maxHeartbeats 4000000 in
set_option maxRecDepth 100000 in
theorem a2_depths_no (l : Launch) {D : va_G} {ca : Nat → ClassId} {ad : Nat → Nat} (hI : Ij ad 18) {σ : Sg} {n p g rn : Nat} {d : Nat → Nat} {th rd : Nat → Nat → Nat} {sl sn : Nat → Nat} {sc : Nat → Nat → Int32} {ft tr : Int32} (hJ : I2 n p g rn d th rd sl sn sc ft tr σ) (hn0 : n = 0) : C2i l D ca ad yX7_depths wsX7_depths { frames := 4, cells := 0, slots := 0, locals := 91 } [.ref (ad 0)] σ (fun r σ' => r = -3 ∧ I2 n p g rn d th rd sl sn sc ft tr σ') := by
  refine xk_entry cX7_depths 4 (some .int) (by decide) rfl (Nat.le_of_ble_eq_true rfl) ?_
  intro pP eE sS mM below meth cC hx hb hml hr hts hown hlk hP hK hX hS ls hl
  have hl : lv_has ls 4 [(0, .ref (ad 0))] := hl
  obtain ⟨hT, hR, hRd, hSh, hnp, hft, htr⟩ := id hJ
  have hn5 := hT.2.2.1
  have hg9 := hT.2.2.2.1
  have hp6 := hR.2.1
  have hrn8 := hRd.2.1
  have hp0z : p = 0 := by omega
  refine lv_aload_n hx hb dX7_depths_0 rfl (lv_at hl 0 rfl) ?_
  refine xk_get hx hb hts (inX7_depths_X7) hown hK hP 0 (by omega) (ci := 7) e2_obj rfl 6 (by decide) (flX7_depths_107 hts) rfl (.int (σ 0 6)) rfl dX7_depths_1 ?_
  refine xn_eqi (y := nI p) hR.1 ?_
  refine xn_zne (tgt := 10) hx hb dX7_depths_4 (by decide) (by omega) (fun c_4 => absurd c_4 (by omega)) (fun c_4 => ?_)
  refine lv_bipush (v := (-3)) hx hb dX7_depths_7 (by decide) ?_
  exact xk_iret hx hb hr (vp_nar_int _) X2_ok hK hX hP hS hlk dX7_depths_9 (⟨rfl, hJ⟩)

set_option maxRecDepth 20000 in
theorem flX7_depths_101 {s : State} {av : Array Value} (hts : ∀ w ∈ wsX7_depths, w.before av s = true) : (Cond.fieldLink RX7 101 "WellBackModel" "depth" "I").before av s = true := hts _ (by decide +kernel)
set_option maxHeartbeats 4000000 in
set_option maxRecDepth 100000 in
theorem a2_depths_ok (l : Launch) {D : va_G} {ca : Nat → ClassId} {ad : Nat → Nat} (hI : Ij ad 18) {σ : Sg} {n p g rn : Nat} {d : Nat → Nat} {th rd : Nat → Nat → Nat} {sl sn : Nat → Nat} {sc : Nat → Nat → Int32} {ft tr : Int32} (hJ : I2 n p g rn d th rd sl sn sc ft tr σ) (hn0 : 0 < n) : C2i l D ca ad yX7_depths wsX7_depths { frames := 4, cells := 0, slots := 0, locals := 91 } [.ref (ad 0)] σ (fun r σ' => r = sbt (fun v => decide (areSo p d v (sth th (-9) 0 0) rn rd)) 10 ∧ I2 n p g rn d th rd sl sn sc ft tr σ') := by
  refine xk_entry cX7_depths 4 (some .int) (by decide) rfl (Nat.le_of_ble_eq_true rfl) ?_
  intro pP eE sS mM below meth cC hx hb hml hr hts hown hlk hP hK hX hS ls hl
  have hl : lv_has ls 4 [(0, .ref (ad 0))] := hl
  obtain ⟨hT, hR, hRd, hSh, hnp, hft, htr⟩ := id hJ
  have hn5 := hT.2.2.1
  have hg9 := hT.2.2.2.1
  have hp6 := hR.2.1
  have hrn8 := hRd.2.1
  have hp0 : 0 < p := hnp.mp (by omega)
  refine lv_aload_n hx hb dX7_depths_0 rfl (lv_at hl 0 rfl) ?_
  refine xk_get hx hb hts (inX7_depths_X7) hown hK hP 0 (by omega) (ci := 7) e2_obj rfl 6 (by decide) (flX7_depths_107 hts) rfl (.int (σ 0 6)) rfl dX7_depths_1 ?_
  refine xn_eqi (y := nI p) hR.1 ?_
  refine xn_zne (tgt := 10) hx hb dX7_depths_4 (by decide) (by omega) (fun c_4 => ?_) (fun c_4 => absurd c_4 (by omega))
  refine lv_aload_n hx hb dX7_depths_10 rfl (lv_at hl 0 rfl) ?_
  refine xk_get hx hb hts (inX7_depths_X7) hown hK hP 0 (by omega) (ci := 7) e2_obj rfl 5 (by decide) (flX7_depths_101 hts) rfl (.int (σ 0 5)) rfl dX7_depths_11 ?_
  refine xn_eqi (y := nI g) hT.1 ?_
  refine lv_istore_n (lv' := [(1, .int (nI g)), (0, .ref (ad 0))]) hx hb dX7_depths_14 rfl hl (by decide) rfl (fun ls hl => ?_)
  refine lv_iconst (v := nI 0) hx hb dX7_depths_15 (by decide) ?_
  refine xn_eqi (y := sbt (fun v => decide (areSo p d v (sth th (-9) 0 0) rn rd)) 0) rfl ?_
  refine lv_istore_n (lv' := [(2, .int (sbt (fun v => decide (areSo p d v (sth th (-9) 0 0) rn rd)) 0)), (1, .int (nI g)), (0, .ref (ad 0))]) hx hb dX7_depths_16 rfl hl (by decide) rfl (fun ls hl => ?_)
  refine lv_iconst (v := nI 0) hx hb dX7_depths_17 (by decide) ?_
  refine lv_istore_n (lv' := [(3, .int (nI 0)), (2, .int (sbt (fun v => decide (areSo p d v (sth th (-9) 0 0) rn rd)) 0)), (1, .int (nI g)), (0, .ref (ad 0))]) hx hb dX7_depths_18 rfl hl (by decide) rfl (fun ls hl => ?_)
  have LP_19 : ∀ (n_19 : Nat) (v : Nat) (τ : Sg), (v ≤ 10) → (∀ j, j ≠ 5 → j ≠ 20 → j ≠ 21 → j ≠ 22 → τ 0 j = σ 0 j) → (∀ i, i ≠ 0 → τ i = σ i) → (10 - v) < n_19 → ∀ (H : Heap) (locs : List Loc) (ls : Array Slot), va_P D vwCl (wl ad 18 (en2 ad ca τ)) H → va_S (AA ad 18) sS.heap H locs → lv_has ls 4 [(0, .ref (ad 0)), (1, .int (nI g)), (2, .int (sbt (fun v => decide (areSo p d v (sth th (-9) 0 0) rn rd)) v)), (3, .int (nI v))] → Wwi2 pP l eE { frames := 4, cells := 0, slots := 0, locals := 91 } sS mM [.ref (ad 0)] below meth cC D ca ad (fun r σ' => r = sbt (fun v => decide (areSo p d v (sth th (-9) 0 0) rn rd)) 10 ∧ I2 n p g rn d th rd sl sn sc ft tr σ') H locs (F0 mM 19 ls []) := by
    intro n_19
    induction n_19 with
    | zero =>
      intro v τ hv0 h0 hro hn_19
      exact absurd hn_19 (Nat.not_lt_zero _)
    | succ n_19 ih_19 =>
      intro v τ hv0 h0 hro hn_19 H locs ls hP hS hl
      refine lv_iload_n hx hb dX7_depths_19 rfl (lv_at hl 3 rfl) ?_
      refine lv_bipush (v := nI 9) hx hb dX7_depths_20 (by decide) ?_
      refine xn_igt (tgt := 53) hx hb dX7_depths_22 (by decide) (by omega) (by omega) (fun c_22 => ?_) (fun c_22 => ?_)
      · refine lv_aload_n hx hb dX7_depths_53 rfl (lv_at hl 0 rfl) ?_
        refine lv_iload_n hx hb dX7_depths_54 rfl (lv_at hl 1 rfl) ?_
        refine xk_put hx hb hts (inX7_depths_X7) tyX7 tyX7_ok nmX7 hown hK hI hP hS 0 (by omega) (ci := 7) e2_obj rfl 5 (by decide) (flX7_depths_101 hts) rfl rfl (by decide +kernel) (Nat.le_of_ble_eq_true rfl) e2_loc (by rw [e2_obj]; simp [up]) dX7_depths_55 (fun H locs hP hS => ?_)
        refine lv_iload_n hx hb dX7_depths_58 rfl (lv_at hl 2 rfl) ?_
        exact xk_iret hx hb hr (vp_nar_int _) X2_ok hK hX hP hS hlk dX7_depths_59 (⟨by rw [show v = 10 by omega], I2_D hJ h0 hro hg9⟩)
      · refine lv_aload_n hx hb dX7_depths_25 rfl (lv_at hl 0 rfl) ?_
        refine lv_iload_n hx hb dX7_depths_26 rfl (lv_at hl 3 rfl) ?_
        refine xk_put hx hb hts (inX7_depths_X7) tyX7 tyX7_ok nmX7 hown hK hI hP hS 0 (by omega) (ci := 7) e2_obj rfl 5 (by decide) (flX7_depths_101 hts) rfl rfl (by decide +kernel) (Nat.le_of_ble_eq_true rfl) e2_loc (by rw [e2_obj]; simp [up]) dX7_depths_27 (fun H locs hP hS => ?_)
        refine lv_iload_n hx hb dX7_depths_30 rfl (lv_at hl 2 rfl) ?_
        refine lv_aload_n hx hb dX7_depths_31 rfl (lv_at hl 0 rfl) ?_
        have hI0 := I2_D hJ h0 hro (v := v) (by omega)
        refine xk_ci (va_runV (As := []) (rest := [.int (sbt (fun v => decide (areSo p d v (sth th (-9) 0 0) rn rd)) v)]) ⟨hx, hb, hml, hown, hts⟩ (k2_areSo l hI (g := v) hI0.1 hI0.2.1 hp0 hI0.2.2.1) (cwV 0 hts gX7_depths_X7_areSo rfl rfl rfl (by decide +kernel) ⟨Nat.le_of_ble_eq_true rfl, Nat.le_of_ble_eq_true rfl⟩) (xk_preV X2_ok hK hX hP (xk_recv hK hP 0 (by omega) (ci := 7) e2_obj rfl)) rfl rfl hl.1 rfl (lv_room (Nat.le_of_ble_eq_true rfl)) dX7_depths_32 ⟨Nat.le_of_ble_eq_true rfl, Nat.le_of_ble_eq_true rfl⟩) hS (fun r9 τ9 H locs hp hP hS => ?_)
        obtain ⟨rfl, hF9⟩ := hp
        have hm9 := sth_m9 (p := p) (u := v) (rn := rn) (n := n) (d := d) (th := th) (rd := rd) (fun k hk => (hRd.2.2 k hk).2.2.2.1) hn5 (kk := 0) (ww := 0)
        by_cases q_a : areSo p d v (sth th (-9) 0 0) rn rd
        · rw [bz_t (hm9.mp q_a)]
          refine xn_zeq (tgt := 44) hx hb dX7_depths_35 (by decide) (by omega) (fun c_35 => absurd c_35 (by omega)) (fun c_35 => ?_)
          refine lv_iconst (v := nI 1) hx hb dX7_depths_38 (by decide) ?_
          refine lv_iload_n hx hb dX7_depths_39 rfl (lv_at hl 3 rfl) ?_
          refine lv_ishl hx hb dX7_depths_40 ?_
          refine lv_goto (tgt := 45) hx hb dX7_depths_41 (by decide) ?_
          refine lv_ior hx hb dX7_depths_45 ?_
          refine xn_eqi (y := sbt (fun v => decide (areSo p d v (sth th (-9) 0 0) rn rd)) (v + 1)) (by simp only [sbt]; rw [if_pos (by simpa using q_a)]) ?_
          refine lv_istore_n (lv' := [(2, .int (sbt (fun v => decide (areSo p d v (sth th (-9) 0 0) rn rd)) (v + 1))), (0, .ref (ad 0)), (1, .int (nI g)), (3, .int (nI v))]) hx hb dX7_depths_46 rfl hl (by decide) rfl (fun ls hl => ?_)
          refine lv_iinc (v := nI (v + 1)) (lv' := [(3, .int (nI (v + 1))), (2, .int (sbt (fun v => decide (areSo p d v (sth th (-9) 0 0) rn rd)) (v + 1))), (0, .ref (ad 0)), (1, .int (nI g))]) hx hb dX7_depths_47 hl (k := 3) rfl (xn_inc _ 1) (by decide) rfl (fun ls hl => ?_)
          refine lv_goto (tgt := 19) hx hb dX7_depths_50 (by decide) ?_
          exact ih_19 (v + 1) τ9 (by omega) (fun j a b c e => by rw [hF9.1 j b c e, up_n (by omega)]; exact h0 j a b c e) (fun i hi => by rw [hF9.2 i hi, up_r hi]; exact hro i hi) (by omega) _ _ _ hP hS (lv_sub hl [2, 3, 1, 0] rfl)
        · rw [bz_f (fun z => q_a (hm9.mpr z))]
          refine xn_zeq (tgt := 44) hx hb dX7_depths_35 (by decide) (by omega) (fun c_35 => ?_) (fun c_35 => absurd c_35 (by omega))
          refine lv_iconst (v := nI 0) hx hb dX7_depths_44 (by decide) ?_
          refine lv_ior hx hb dX7_depths_45 ?_
          refine xn_eqi (y := sbt (fun v => decide (areSo p d v (sth th (-9) 0 0) rn rd)) (v + 1)) (by simp only [sbt]; rw [if_neg (by simpa using q_a)]; exact or_0) ?_
          refine lv_istore_n (lv' := [(2, .int (sbt (fun v => decide (areSo p d v (sth th (-9) 0 0) rn rd)) (v + 1))), (0, .ref (ad 0)), (1, .int (nI g)), (3, .int (nI v))]) hx hb dX7_depths_46 rfl hl (by decide) rfl (fun ls hl => ?_)
          refine lv_iinc (v := nI (v + 1)) (lv' := [(3, .int (nI (v + 1))), (2, .int (sbt (fun v => decide (areSo p d v (sth th (-9) 0 0) rn rd)) (v + 1))), (0, .ref (ad 0)), (1, .int (nI g))]) hx hb dX7_depths_47 hl (k := 3) rfl (xn_inc _ 1) (by decide) rfl (fun ls hl => ?_)
          refine lv_goto (tgt := 19) hx hb dX7_depths_50 (by decide) ?_
          exact ih_19 (v + 1) τ9 (by omega) (fun j a b c e => by rw [hF9.1 j b c e, up_n (by omega)]; exact h0 j a b c e) (fun i hi => by rw [hF9.2 i hi, up_r hi]; exact hro i hi) (by omega) _ _ _ hP hS (lv_sub hl [2, 3, 1, 0] rfl)
  exact LP_19 _ 0 σ (by omega) (fun _ _ _ _ _ => rfl) (fun _ _ => rfl) (Nat.lt_succ_self _) _ _ _ hP hS (lv_sub hl [3, 2, 1, 0] rfl)

set_option maxHeartbeats 4000000 in
set_option maxRecDepth 100000 in
theorem a2_odds_xo (l : Launch) {D : va_G} {ca : Nat → ClassId} {ad : Nat → Nat} (hI : Ij ad 18) {σ : Sg} {n p g rn : Nat} {d : Nat → Nat} {th rd : Nat → Nat → Nat} {sl sn : Nat → Nat} {sc : Nat → Nat → Int32} {ft tr : Int32} {x : Int32} {w : Int32} (hJ : I2 n p g rn d th rd sl sn sc ft tr σ) (hxx : ∀ j, j < n → x ≠ nI j) : C2l l D ca ad yX7_odds wsX7_odds { frames := 3, cells := 0, slots := 0, locals := 70 } [.ref (ad 0), .int x, .int w] σ (fun r σ' => r = (-9223372036854775808) ∧ I2 n p g rn d th rd sl sn sc ft tr σ') := by
  refine xk_entry cX7_odds 5 (some .long) (by decide) rfl (Nat.le_of_ble_eq_true rfl) ?_
  intro pP eE sS mM below meth cC hx hb hml hr hts hown hlk hP hK hX hS ls hl
  have hl : lv_has ls 5 [(0, .ref (ad 0)), (1, .int x), (2, .int w)] := hl
  obtain ⟨hT, hR, hRd, hSh, hnp, hft, htr⟩ := id hJ
  have hn5 := hT.2.2.1
  have hg9 := hT.2.2.2.1
  have hp6 := hR.2.1
  have hrn8 := hRd.2.1
  refine lv_aload_n hx hb dX7_odds_0 rfl (lv_at hl 0 rfl) ?_
  refine lv_iload_n hx hb dX7_odds_1 rfl (lv_at hl 1 rfl) ?_
  refine xk_fi (va_runV (As := [.int x]) (rest := []) ⟨hx, hb, hml, hown, hts⟩ (k2_isThing_out l hI (x := x) hT (by assumption)) (cwV 1 hts gX7_odds_X7_isThing rfl rfl rfl (by decide +kernel) ⟨Nat.le_of_ble_eq_true rfl, Nat.le_of_ble_eq_true rfl⟩) (xk_preV X2_ok hK hX hP (xk_recv hK hP 0 (by omega) (ci := 7) e2_obj rfl)) rfl rfl hl.1 rfl (lv_room (Nat.le_of_ble_eq_true rfl)) dX7_odds_2 ⟨Nat.le_of_ble_eq_true rfl, Nat.le_of_ble_eq_true rfl⟩) hS (fun H locs hP hS => ?_)
  refine xn_zeq (tgt := 17) hx hb dX7_odds_5 (by decide) (by omega) (fun c_5 => ?_) (fun c_5 => absurd c_5 (by omega))
  refine lv_ldc2 (v := (-9223372036854775808)) hx hb hown (hts (.constantLong RX7 65 (-9223372036854775808)) (by decide +kernel)) dX7_odds_17 ?_
  exact xk_lret hx hb hr X2_ok hK hX hP hS hlk dX7_odds_20 (⟨rfl, hJ⟩)

set_option maxHeartbeats 4000000 in
set_option maxRecDepth 100000 in
theorem a2_odds_wo (l : Launch) {D : va_G} {ca : Nat → ClassId} {ad : Nat → Nat} (hI : Ij ad 18) {σ : Sg} {n p g rn : Nat} {d : Nat → Nat} {th rd : Nat → Nat → Nat} {sl sn : Nat → Nat} {sc : Nat → Nat → Int32} {ft tr : Int32} {x : Nat} {w : Int32} (hJ : I2 n p g rn d th rd sl sn sc ft tr σ) (hxn : x < n) (hwo : ¬ (nI 0 ≤ w ∧ w ≤ nI 1)) : C2l l D ca ad yX7_odds wsX7_odds { frames := 3, cells := 0, slots := 0, locals := 70 } [.ref (ad 0), .int (nI x), .int w] σ (fun r σ' => r = (-9223372036854775808) ∧ I2 n p g rn d th rd sl sn sc ft tr σ') := by
  refine xk_entry cX7_odds 5 (some .long) (by decide) rfl (Nat.le_of_ble_eq_true rfl) ?_
  intro pP eE sS mM below meth cC hx hb hml hr hts hown hlk hP hK hX hS ls hl
  have hl : lv_has ls 5 [(0, .ref (ad 0)), (1, .int (nI x)), (2, .int w)] := hl
  obtain ⟨hT, hR, hRd, hSh, hnp, hft, htr⟩ := id hJ
  have hn5 := hT.2.2.1
  have hg9 := hT.2.2.2.1
  have hp6 := hR.2.1
  have hrn8 := hRd.2.1
  have hXx := hT.2.2.2.2 x hxn
  obtain ⟨ho0, ho1, ho2, ho3, ho4⟩ := hXx.2
  have hp0 : 0 < p := hnp.mp (by omega)
  refine lv_aload_n hx hb dX7_odds_0 rfl (lv_at hl 0 rfl) ?_
  refine lv_iload_n hx hb dX7_odds_1 rfl (lv_at hl 1 rfl) ?_
  refine xk_fi (va_runV (As := [.int (nI x)]) (rest := []) ⟨hx, hb, hml, hown, hts⟩ (k2_isThing_in l hI (x := x) hT (by omega)) (cwV 1 hts gX7_odds_X7_isThing rfl rfl rfl (by decide +kernel) ⟨Nat.le_of_ble_eq_true rfl, Nat.le_of_ble_eq_true rfl⟩) (xk_preV X2_ok hK hX hP (xk_recv hK hP 0 (by omega) (ci := 7) e2_obj rfl)) rfl rfl hl.1 rfl (lv_room (Nat.le_of_ble_eq_true rfl)) dX7_odds_2 ⟨Nat.le_of_ble_eq_true rfl, Nat.le_of_ble_eq_true rfl⟩) hS (fun H locs hP hS => ?_)
  refine xn_zeq (tgt := 17) hx hb dX7_odds_5 (by decide) (by omega) (fun c_5 => absurd c_5 (by omega)) (fun c_5 => ?_)
  refine lv_iload_n hx hb dX7_odds_8 rfl (lv_at hl 2 rfl) ?_
  refine lv_iconst (v := nI 0) hx hb dX7_odds_9 (by decide) ?_
  refine lv_iconst (v := nI 1) hx hb dX7_odds_10 (by decide) ?_
  refine xk_fi (va_runS (As := [.int w, .int (nI 0), .int (nI 1)]) (rest := []) ⟨hx, hb, hml, hown, hts⟩ (k2_within_f l hI w (nI 0) (nI 1) (by assumption)) (va_cwS 3 hts gX7_odds_X7_within rfl rfl rfl (by decide +kernel) ⟨Nat.le_of_ble_eq_true rfl, Nat.le_of_ble_eq_true rfl⟩) (xk_preS X2_ok hK hX hP) rfl rfl hl.1 rfl (lv_room (Nat.le_of_ble_eq_true rfl)) dX7_odds_11 ⟨Nat.le_of_ble_eq_true rfl, Nat.le_of_ble_eq_true rfl⟩) hS (fun H locs hP hS => ?_)
  refine xn_zne (tgt := 21) hx hb dX7_odds_14 (by decide) (by omega) (fun c_14 => absurd c_14 (by omega)) (fun c_14 => ?_)
  refine lv_ldc2 (v := (-9223372036854775808)) hx hb hown (hts (.constantLong RX7 65 (-9223372036854775808)) (by decide +kernel)) dX7_odds_17 ?_
  exact xk_lret hx hb hr X2_ok hK hX hP hS hlk dX7_odds_20 (⟨rfl, hJ⟩)

set_option maxRecDepth 20000 in
theorem flX7_odds_31 {s : State} {av : Array Value} (hts : ∀ w ∈ wsX7_odds, w.before av s = true) : (Cond.fieldLink RX7 31 "WellBackModel" "goal" "[I").before av s = true := hts _ (by decide +kernel)
set_option maxRecDepth 20000 in
theorem inX7_odds_X7 : ∀ w ∈ u_ws RX7 TX7 30, w ∈ wsX7_odds := by decide +kernel
set_option maxHeartbeats 4000000 in
set_option maxRecDepth 100000 in
theorem a2_odds_0 (l : Launch) {D : va_G} {ca : Nat → ClassId} {ad : Nat → Nat} (hI : Ij ad 18) {σ : Sg} {n p g rn : Nat} {d : Nat → Nat} {th rd : Nat → Nat → Nat} {sl sn : Nat → Nat} {sc : Nat → Nat → Int32} {ft tr : Int32} {x : Nat} (hJ : I2 n p g rn d th rd sl sn sc ft tr σ) (hxn : x < n) : C2l l D ca ad yX7_odds wsX7_odds { frames := 3, cells := 0, slots := 0, locals := 70 } [.ref (ad 0), .int (nI x), .int (nI 0)] σ (fun r σ' => r = lN ((cb (fun h => decide (rt p d g th x h)) 12) / Nat.gcd (cb (fun h => decide (rt p d g th x h)) 12) 12) ∧ I2 n p g rn d th rd sl sn sc ft tr σ') := by
  refine xk_entry cX7_odds 5 (some .long) (by decide) rfl (Nat.le_of_ble_eq_true rfl) ?_
  intro pP eE sS mM below meth cC hx hb hml hr hts hown hlk hP hK hX hS ls hl
  have hl : lv_has ls 5 [(0, .ref (ad 0)), (1, .int (nI x)), (2, .int (nI 0))] := hl
  obtain ⟨hT, hR, hRd, hSh, hnp, hft, htr⟩ := id hJ
  have hn5 := hT.2.2.1
  have hg9 := hT.2.2.2.1
  have hp6 := hR.2.1
  have hrn8 := hRd.2.1
  have hXx := hT.2.2.2.2 x hxn
  obtain ⟨ho0, ho1, ho2, ho3, ho4⟩ := hXx.2
  have hp0 : 0 < p := hnp.mp (by omega)
  refine lv_aload_n hx hb dX7_odds_0 rfl (lv_at hl 0 rfl) ?_
  refine lv_iload_n hx hb dX7_odds_1 rfl (lv_at hl 1 rfl) ?_
  refine xk_fi (va_runV (As := [.int (nI x)]) (rest := []) ⟨hx, hb, hml, hown, hts⟩ (k2_isThing_in l hI (x := x) hT (by omega)) (cwV 1 hts gX7_odds_X7_isThing rfl rfl rfl (by decide +kernel) ⟨Nat.le_of_ble_eq_true rfl, Nat.le_of_ble_eq_true rfl⟩) (xk_preV X2_ok hK hX hP (xk_recv hK hP 0 (by omega) (ci := 7) e2_obj rfl)) rfl rfl hl.1 rfl (lv_room (Nat.le_of_ble_eq_true rfl)) dX7_odds_2 ⟨Nat.le_of_ble_eq_true rfl, Nat.le_of_ble_eq_true rfl⟩) hS (fun H locs hP hS => ?_)
  refine xn_zeq (tgt := 17) hx hb dX7_odds_5 (by decide) (by omega) (fun c_5 => absurd c_5 (by omega)) (fun c_5 => ?_)
  refine lv_iload_n hx hb dX7_odds_8 rfl (lv_at hl 2 rfl) ?_
  refine lv_iconst (v := nI 0) hx hb dX7_odds_9 (by decide) ?_
  refine lv_iconst (v := nI 1) hx hb dX7_odds_10 (by decide) ?_
  refine xk_fi (va_runS (As := [.int (nI 0), .int (nI 0), .int (nI 1)]) (rest := []) ⟨hx, hb, hml, hown, hts⟩ (k2_within_t l hI (nI 0) (nI 0) (nI 1) (xn_in (by omega) (by omega) (by omega))) (va_cwS 3 hts gX7_odds_X7_within rfl rfl rfl (by decide +kernel) ⟨Nat.le_of_ble_eq_true rfl, Nat.le_of_ble_eq_true rfl⟩) (xk_preS X2_ok hK hX hP) rfl rfl hl.1 rfl (lv_room (Nat.le_of_ble_eq_true rfl)) dX7_odds_11 ⟨Nat.le_of_ble_eq_true rfl, Nat.le_of_ble_eq_true rfl⟩) hS (fun H locs hP hS => ?_)
  refine xn_zne (tgt := 21) hx hb dX7_odds_14 (by decide) (by omega) (fun c_14 => ?_) (fun c_14 => absurd c_14 (by omega))
  refine lv_iconst (v := nI 0) hx hb dX7_odds_21 (by decide) ?_
  refine lv_istore_n (lv' := [(3, .int (nI 0)), (0, .ref (ad 0)), (1, .int (nI x)), (2, .int (nI 0))]) hx hb dX7_odds_22 rfl hl (by decide) rfl (fun ls hl => ?_)
  refine lv_iconst (v := nI 0) hx hb dX7_odds_23 (by decide) ?_
  refine lv_istore (lv' := [(4, .int (nI 0)), (3, .int (nI 0)), (0, .ref (ad 0)), (1, .int (nI x)), (2, .int (nI 0))]) hx hb dX7_odds_24 hl (by decide) rfl (fun ls hl => ?_)
  have LP_26 : ∀ (n_26 : Nat) (h : Nat) (τ : Sg), (h ≤ 12) → (FrF σ τ) → (12 - h) < n_26 → ∀ (H : Heap) (locs : List Loc) (ls : Array Slot), va_P D vwCl (wl ad 18 (en2 ad ca τ)) H → va_S (AA ad 18) sS.heap H locs → lv_has ls 5 [(0, .ref (ad 0)), (1, .int (nI x)), (2, .int (nI 0)), (3, .int (nI (cb (fun h => decide (rt p d g th x h)) h))), (4, .int (nI h))] → Wwl2 pP l eE { frames := 3, cells := 0, slots := 0, locals := 70 } sS mM [.ref (ad 0), .int (nI x), .int (nI 0)] below meth cC D ca ad (fun r σ' => r = lN ((cb (fun h => decide (rt p d g th x h)) 12) / Nat.gcd (cb (fun h => decide (rt p d g th x h)) 12) 12) ∧ I2 n p g rn d th rd sl sn sc ft tr σ') H locs (F0 mM 26 ls []) := by
    intro n_26
    induction n_26 with
    | zero =>
      intro h τ hh hF hn_26
      exact absurd hn_26 (Nat.not_lt_zero _)
    | succ n_26 ih_26 =>
      intro h τ hh hF hn_26 H locs ls hP hS hl
      refine lv_iload hx hb dX7_odds_26 (lv_at hl 4 rfl) ?_
      refine lv_bipush (v := nI 12) hx hb dX7_odds_28 (by decide) ?_
      refine xn_ige (tgt := 63) hx hb dX7_odds_30 (by decide) (by omega) (by omega) (fun c_30 => ?_) (fun c_30 => ?_)
      · have hh12 : h = 12 := by omega
        rw [hh12] at hl
        have hcl := cb_le (fun h => decide (rt p d g th x h)) 12
        refine lv_iload_n hx hb dX7_odds_63 rfl (lv_at hl 3 rfl) ?_
        refine lv_i2l hx hb dX7_odds_64 rfl ?_
        refine xn_eql (y := lN (cb (fun h => decide (rt p d g th x h)) 12)) (nI_l (by omega)) ?_
        refine lv_ldc2 (v := 12) hx hb hown (hts (.constantLong RX7 177 12) (by decide +kernel)) dX7_odds_65 ?_
        refine xn_eql (y := lN 12) rfl ?_
        refine lv_iload_n hx hb dX7_odds_68 rfl (lv_at hl 2 rfl) ?_
        refine xk_fl (va_runS (As := [.long (lN (cb (fun h => decide (rt p d g th x h)) 12)), .long (lN 12), .int (nI 0)]) (rest := []) ⟨hx, hb, hml, hown, hts⟩ (k2_least_0 l hI (A := cb (fun h => decide (rt p d g th x h)) 12) (B := 12) (by omega) (by decide) (by decide)) (va_cwS 3 hts gX7_odds_X7_inLeastTerms rfl rfl rfl (by decide +kernel) ⟨Nat.le_of_ble_eq_true rfl, Nat.le_of_ble_eq_true rfl⟩) (xk_preS X2_ok hK hX hP) rfl rfl hl.1 rfl (lv_room (Nat.le_of_ble_eq_true rfl)) dX7_odds_69 ⟨Nat.le_of_ble_eq_true rfl, Nat.le_of_ble_eq_true rfl⟩) hS (fun H locs hP hS => ?_)
        exact xk_lret hx hb hr X2_ok hK hX hP hS hlk dX7_odds_72 (⟨rfl, I2_fr hJ hF.M⟩)
      · have hcl := cb_le (fun h => decide (rt p d g th x h)) h
        refine lv_iload_n hx hb dX7_odds_33 rfl (lv_at hl 3 rfl) ?_
        refine lv_aload_n hx hb dX7_odds_34 rfl (lv_at hl 0 rfl) ?_
        refine lv_iload_n hx hb dX7_odds_35 rfl (lv_at hl 1 rfl) ?_
        refine lv_iload hx hb dX7_odds_36 (lv_at hl 4 rfl) ?_
        refine xk_ci (va_runV (As := [.int (nI x), .int (nI h)]) (rest := [.int (nI (cb (fun h => decide (rt p d g th x h)) h))]) ⟨hx, hb, hml, hown, hts⟩ (k2_drawerBy l hI (x := x) (h := h) (ThM_fr hT hF.M) (RotaM_fr hR hF.M) hp0 hxn (by omega)) (cwV 2 hts gX7_odds_X7_drawerBy rfl rfl rfl (by decide +kernel) ⟨Nat.le_of_ble_eq_true rfl, Nat.le_of_ble_eq_true rfl⟩) (xk_preV X2_ok hK hX hP (xk_recv hK hP 0 (by omega) (ci := 7) e2_obj rfl)) rfl rfl hl.1 rfl (lv_room (Nat.le_of_ble_eq_true rfl)) dX7_odds_38 ⟨Nat.le_of_ble_eq_true rfl, Nat.le_of_ble_eq_true rfl⟩) hS (fun r38 τ38 H locs hp hP hS => ?_)
        obtain ⟨rfl, -, hF38⟩ := hp
        have hTc := ThM_fr hT (hF.tr hF38).M
        have hXc := hTc.2.2.2.2 x hxn
        refine lv_aload_n hx hb dX7_odds_41 rfl (lv_at hl 0 rfl) ?_
        refine xk_get hx hb hts (inX7_odds_X7) hown hK hP 0 (by omega) (ci := 7) e2_obj rfl 12 (by decide) (flX7_odds_31 hts) rfl (.ref (ad 8)) rfl dX7_odds_42 ?_
        refine lv_iload_n hx hb dX7_odds_45 rfl (lv_at hl 1 rfl) ?_
        refine xk_iald hx hb hK hP 8 (by omega) (n := 5) (e2_row 5 (by decide) rfl) rfl x (by omega) (by decide) dX7_odds_46 ?_
        refine xn_eqi (y := nI (th x 3)) (hXc.1 3 (by omega)) ?_
        refine lv_icmp_ne (tgt := 54) hx hb dX7_odds_47 (by decide) (fun c_47 => ?_) (fun c_47 => ?_)
        · refine lv_iconst (v := nI 0) hx hb dX7_odds_54 (by decide) ?_
          refine xn_iadd hx hb dX7_odds_55 ?_
          refine xn_eqi (y := nI (cb (fun h => decide (rt p d g th x h)) (h + 1))) (congrArg nI (show cb (fun h => decide (rt p d g th x h)) h + 0 = cb (fun h => decide (rt p d g th x h)) (h + 1) from (if_neg (by simpa using c_47)).symm)) ?_
          refine lv_istore_n (lv' := [(3, .int (nI (cb (fun h => decide (rt p d g th x h)) (h + 1)))), (0, .ref (ad 0)), (1, .int (nI x)), (2, .int (nI 0)), (4, .int (nI h))]) hx hb dX7_odds_56 rfl hl (by decide) rfl (fun ls hl => ?_)
          refine lv_iinc (v := nI (h + 1)) (lv' := [(4, .int (nI (h + 1))), (3, .int (nI (cb (fun h => decide (rt p d g th x h)) (h + 1)))), (0, .ref (ad 0)), (1, .int (nI x)), (2, .int (nI 0))]) hx hb dX7_odds_57 hl (k := 4) rfl (xn_inc _ 1) (by decide) rfl (fun ls hl => ?_)
          refine lv_goto (tgt := 26) hx hb dX7_odds_60 (by decide) ?_
          exact ih_26 (h + 1) τ38 (by omega) (hF.tr hF38) (by omega) _ _ _ hP hS (lv_sub hl [2, 3, 4, 1, 0] rfl)
        · refine lv_iconst (v := nI 1) hx hb dX7_odds_50 (by decide) ?_
          refine lv_goto (tgt := 55) hx hb dX7_odds_51 (by decide) ?_
          refine xn_iadd hx hb dX7_odds_55 ?_
          refine xn_eqi (y := nI (cb (fun h => decide (rt p d g th x h)) (h + 1))) (congrArg nI (show cb (fun h => decide (rt p d g th x h)) h + 1 = cb (fun h => decide (rt p d g th x h)) (h + 1) from (if_pos (by simpa using c_47)).symm)) ?_
          refine lv_istore_n (lv' := [(3, .int (nI (cb (fun h => decide (rt p d g th x h)) (h + 1)))), (0, .ref (ad 0)), (1, .int (nI x)), (2, .int (nI 0)), (4, .int (nI h))]) hx hb dX7_odds_56 rfl hl (by decide) rfl (fun ls hl => ?_)
          refine lv_iinc (v := nI (h + 1)) (lv' := [(4, .int (nI (h + 1))), (3, .int (nI (cb (fun h => decide (rt p d g th x h)) (h + 1)))), (0, .ref (ad 0)), (1, .int (nI x)), (2, .int (nI 0))]) hx hb dX7_odds_57 hl (k := 4) rfl (xn_inc _ 1) (by decide) rfl (fun ls hl => ?_)
          refine lv_goto (tgt := 26) hx hb dX7_odds_60 (by decide) ?_
          exact ih_26 (h + 1) τ38 (by omega) (hF.tr hF38) (by omega) _ _ _ hP hS (lv_sub hl [2, 3, 4, 1, 0] rfl)
  exact LP_26 _ 0 σ (by omega) FrF.rf (Nat.lt_succ_self _) _ _ _ hP hS (lv_sub hl [2, 3, 4, 1, 0] rfl)

set_option maxHeartbeats 4000000 in
set_option maxRecDepth 100000 in
theorem a2_odds_1 (l : Launch) {D : va_G} {ca : Nat → ClassId} {ad : Nat → Nat} (hI : Ij ad 18) {σ : Sg} {n p g rn : Nat} {d : Nat → Nat} {th rd : Nat → Nat → Nat} {sl sn : Nat → Nat} {sc : Nat → Nat → Int32} {ft tr : Int32} {x : Nat} (hJ : I2 n p g rn d th rd sl sn sc ft tr σ) (hxn : x < n) : C2l l D ca ad yX7_odds wsX7_odds { frames := 3, cells := 0, slots := 0, locals := 70 } [.ref (ad 0), .int (nI x), .int (nI 1)] σ (fun r σ' => r = lN (12 / Nat.gcd (cb (fun h => decide (rt p d g th x h)) 12) 12) ∧ I2 n p g rn d th rd sl sn sc ft tr σ') := by
  refine xk_entry cX7_odds 5 (some .long) (by decide) rfl (Nat.le_of_ble_eq_true rfl) ?_
  intro pP eE sS mM below meth cC hx hb hml hr hts hown hlk hP hK hX hS ls hl
  have hl : lv_has ls 5 [(0, .ref (ad 0)), (1, .int (nI x)), (2, .int (nI 1))] := hl
  obtain ⟨hT, hR, hRd, hSh, hnp, hft, htr⟩ := id hJ
  have hn5 := hT.2.2.1
  have hg9 := hT.2.2.2.1
  have hp6 := hR.2.1
  have hrn8 := hRd.2.1
  have hXx := hT.2.2.2.2 x hxn
  obtain ⟨ho0, ho1, ho2, ho3, ho4⟩ := hXx.2
  have hp0 : 0 < p := hnp.mp (by omega)
  refine lv_aload_n hx hb dX7_odds_0 rfl (lv_at hl 0 rfl) ?_
  refine lv_iload_n hx hb dX7_odds_1 rfl (lv_at hl 1 rfl) ?_
  refine xk_fi (va_runV (As := [.int (nI x)]) (rest := []) ⟨hx, hb, hml, hown, hts⟩ (k2_isThing_in l hI (x := x) hT (by omega)) (cwV 1 hts gX7_odds_X7_isThing rfl rfl rfl (by decide +kernel) ⟨Nat.le_of_ble_eq_true rfl, Nat.le_of_ble_eq_true rfl⟩) (xk_preV X2_ok hK hX hP (xk_recv hK hP 0 (by omega) (ci := 7) e2_obj rfl)) rfl rfl hl.1 rfl (lv_room (Nat.le_of_ble_eq_true rfl)) dX7_odds_2 ⟨Nat.le_of_ble_eq_true rfl, Nat.le_of_ble_eq_true rfl⟩) hS (fun H locs hP hS => ?_)
  refine xn_zeq (tgt := 17) hx hb dX7_odds_5 (by decide) (by omega) (fun c_5 => absurd c_5 (by omega)) (fun c_5 => ?_)
  refine lv_iload_n hx hb dX7_odds_8 rfl (lv_at hl 2 rfl) ?_
  refine lv_iconst (v := nI 0) hx hb dX7_odds_9 (by decide) ?_
  refine lv_iconst (v := nI 1) hx hb dX7_odds_10 (by decide) ?_
  refine xk_fi (va_runS (As := [.int (nI 1), .int (nI 0), .int (nI 1)]) (rest := []) ⟨hx, hb, hml, hown, hts⟩ (k2_within_t l hI (nI 1) (nI 0) (nI 1) (xn_in (by omega) (by omega) (by omega))) (va_cwS 3 hts gX7_odds_X7_within rfl rfl rfl (by decide +kernel) ⟨Nat.le_of_ble_eq_true rfl, Nat.le_of_ble_eq_true rfl⟩) (xk_preS X2_ok hK hX hP) rfl rfl hl.1 rfl (lv_room (Nat.le_of_ble_eq_true rfl)) dX7_odds_11 ⟨Nat.le_of_ble_eq_true rfl, Nat.le_of_ble_eq_true rfl⟩) hS (fun H locs hP hS => ?_)
  refine xn_zne (tgt := 21) hx hb dX7_odds_14 (by decide) (by omega) (fun c_14 => ?_) (fun c_14 => absurd c_14 (by omega))
  refine lv_iconst (v := nI 0) hx hb dX7_odds_21 (by decide) ?_
  refine lv_istore_n (lv' := [(3, .int (nI 0)), (0, .ref (ad 0)), (1, .int (nI x)), (2, .int (nI 1))]) hx hb dX7_odds_22 rfl hl (by decide) rfl (fun ls hl => ?_)
  refine lv_iconst (v := nI 0) hx hb dX7_odds_23 (by decide) ?_
  refine lv_istore (lv' := [(4, .int (nI 0)), (3, .int (nI 0)), (0, .ref (ad 0)), (1, .int (nI x)), (2, .int (nI 1))]) hx hb dX7_odds_24 hl (by decide) rfl (fun ls hl => ?_)
  have LP_26 : ∀ (n_26 : Nat) (h : Nat) (τ : Sg), (h ≤ 12) → (FrF σ τ) → (12 - h) < n_26 → ∀ (H : Heap) (locs : List Loc) (ls : Array Slot), va_P D vwCl (wl ad 18 (en2 ad ca τ)) H → va_S (AA ad 18) sS.heap H locs → lv_has ls 5 [(0, .ref (ad 0)), (1, .int (nI x)), (2, .int (nI 1)), (3, .int (nI (cb (fun h => decide (rt p d g th x h)) h))), (4, .int (nI h))] → Wwl2 pP l eE { frames := 3, cells := 0, slots := 0, locals := 70 } sS mM [.ref (ad 0), .int (nI x), .int (nI 1)] below meth cC D ca ad (fun r σ' => r = lN (12 / Nat.gcd (cb (fun h => decide (rt p d g th x h)) 12) 12) ∧ I2 n p g rn d th rd sl sn sc ft tr σ') H locs (F0 mM 26 ls []) := by
    intro n_26
    induction n_26 with
    | zero =>
      intro h τ hh hF hn_26
      exact absurd hn_26 (Nat.not_lt_zero _)
    | succ n_26 ih_26 =>
      intro h τ hh hF hn_26 H locs ls hP hS hl
      refine lv_iload hx hb dX7_odds_26 (lv_at hl 4 rfl) ?_
      refine lv_bipush (v := nI 12) hx hb dX7_odds_28 (by decide) ?_
      refine xn_ige (tgt := 63) hx hb dX7_odds_30 (by decide) (by omega) (by omega) (fun c_30 => ?_) (fun c_30 => ?_)
      · have hh12 : h = 12 := by omega
        rw [hh12] at hl
        have hcl := cb_le (fun h => decide (rt p d g th x h)) 12
        refine lv_iload_n hx hb dX7_odds_63 rfl (lv_at hl 3 rfl) ?_
        refine lv_i2l hx hb dX7_odds_64 rfl ?_
        refine xn_eql (y := lN (cb (fun h => decide (rt p d g th x h)) 12)) (nI_l (by omega)) ?_
        refine lv_ldc2 (v := 12) hx hb hown (hts (.constantLong RX7 177 12) (by decide +kernel)) dX7_odds_65 ?_
        refine xn_eql (y := lN 12) rfl ?_
        refine lv_iload_n hx hb dX7_odds_68 rfl (lv_at hl 2 rfl) ?_
        refine xk_fl (va_runS (As := [.long (lN (cb (fun h => decide (rt p d g th x h)) 12)), .long (lN 12), .int (nI 1)]) (rest := []) ⟨hx, hb, hml, hown, hts⟩ (k2_least_1 l hI (A := cb (fun h => decide (rt p d g th x h)) 12) (B := 12) (by omega) (by decide) (by decide)) (va_cwS 3 hts gX7_odds_X7_inLeastTerms rfl rfl rfl (by decide +kernel) ⟨Nat.le_of_ble_eq_true rfl, Nat.le_of_ble_eq_true rfl⟩) (xk_preS X2_ok hK hX hP) rfl rfl hl.1 rfl (lv_room (Nat.le_of_ble_eq_true rfl)) dX7_odds_69 ⟨Nat.le_of_ble_eq_true rfl, Nat.le_of_ble_eq_true rfl⟩) hS (fun H locs hP hS => ?_)
        exact xk_lret hx hb hr X2_ok hK hX hP hS hlk dX7_odds_72 (⟨rfl, I2_fr hJ hF.M⟩)
      · have hcl := cb_le (fun h => decide (rt p d g th x h)) h
        refine lv_iload_n hx hb dX7_odds_33 rfl (lv_at hl 3 rfl) ?_
        refine lv_aload_n hx hb dX7_odds_34 rfl (lv_at hl 0 rfl) ?_
        refine lv_iload_n hx hb dX7_odds_35 rfl (lv_at hl 1 rfl) ?_
        refine lv_iload hx hb dX7_odds_36 (lv_at hl 4 rfl) ?_
        refine xk_ci (va_runV (As := [.int (nI x), .int (nI h)]) (rest := [.int (nI (cb (fun h => decide (rt p d g th x h)) h))]) ⟨hx, hb, hml, hown, hts⟩ (k2_drawerBy l hI (x := x) (h := h) (ThM_fr hT hF.M) (RotaM_fr hR hF.M) hp0 hxn (by omega)) (cwV 2 hts gX7_odds_X7_drawerBy rfl rfl rfl (by decide +kernel) ⟨Nat.le_of_ble_eq_true rfl, Nat.le_of_ble_eq_true rfl⟩) (xk_preV X2_ok hK hX hP (xk_recv hK hP 0 (by omega) (ci := 7) e2_obj rfl)) rfl rfl hl.1 rfl (lv_room (Nat.le_of_ble_eq_true rfl)) dX7_odds_38 ⟨Nat.le_of_ble_eq_true rfl, Nat.le_of_ble_eq_true rfl⟩) hS (fun r38 τ38 H locs hp hP hS => ?_)
        obtain ⟨rfl, -, hF38⟩ := hp
        have hTc := ThM_fr hT (hF.tr hF38).M
        have hXc := hTc.2.2.2.2 x hxn
        refine lv_aload_n hx hb dX7_odds_41 rfl (lv_at hl 0 rfl) ?_
        refine xk_get hx hb hts (inX7_odds_X7) hown hK hP 0 (by omega) (ci := 7) e2_obj rfl 12 (by decide) (flX7_odds_31 hts) rfl (.ref (ad 8)) rfl dX7_odds_42 ?_
        refine lv_iload_n hx hb dX7_odds_45 rfl (lv_at hl 1 rfl) ?_
        refine xk_iald hx hb hK hP 8 (by omega) (n := 5) (e2_row 5 (by decide) rfl) rfl x (by omega) (by decide) dX7_odds_46 ?_
        refine xn_eqi (y := nI (th x 3)) (hXc.1 3 (by omega)) ?_
        refine lv_icmp_ne (tgt := 54) hx hb dX7_odds_47 (by decide) (fun c_47 => ?_) (fun c_47 => ?_)
        · refine lv_iconst (v := nI 0) hx hb dX7_odds_54 (by decide) ?_
          refine xn_iadd hx hb dX7_odds_55 ?_
          refine xn_eqi (y := nI (cb (fun h => decide (rt p d g th x h)) (h + 1))) (congrArg nI (show cb (fun h => decide (rt p d g th x h)) h + 0 = cb (fun h => decide (rt p d g th x h)) (h + 1) from (if_neg (by simpa using c_47)).symm)) ?_
          refine lv_istore_n (lv' := [(3, .int (nI (cb (fun h => decide (rt p d g th x h)) (h + 1)))), (0, .ref (ad 0)), (1, .int (nI x)), (2, .int (nI 1)), (4, .int (nI h))]) hx hb dX7_odds_56 rfl hl (by decide) rfl (fun ls hl => ?_)
          refine lv_iinc (v := nI (h + 1)) (lv' := [(4, .int (nI (h + 1))), (3, .int (nI (cb (fun h => decide (rt p d g th x h)) (h + 1)))), (0, .ref (ad 0)), (1, .int (nI x)), (2, .int (nI 1))]) hx hb dX7_odds_57 hl (k := 4) rfl (xn_inc _ 1) (by decide) rfl (fun ls hl => ?_)
          refine lv_goto (tgt := 26) hx hb dX7_odds_60 (by decide) ?_
          exact ih_26 (h + 1) τ38 (by omega) (hF.tr hF38) (by omega) _ _ _ hP hS (lv_sub hl [2, 3, 4, 1, 0] rfl)
        · refine lv_iconst (v := nI 1) hx hb dX7_odds_50 (by decide) ?_
          refine lv_goto (tgt := 55) hx hb dX7_odds_51 (by decide) ?_
          refine xn_iadd hx hb dX7_odds_55 ?_
          refine xn_eqi (y := nI (cb (fun h => decide (rt p d g th x h)) (h + 1))) (congrArg nI (show cb (fun h => decide (rt p d g th x h)) h + 1 = cb (fun h => decide (rt p d g th x h)) (h + 1) from (if_pos (by simpa using c_47)).symm)) ?_
          refine lv_istore_n (lv' := [(3, .int (nI (cb (fun h => decide (rt p d g th x h)) (h + 1)))), (0, .ref (ad 0)), (1, .int (nI x)), (2, .int (nI 1)), (4, .int (nI h))]) hx hb dX7_odds_56 rfl hl (by decide) rfl (fun ls hl => ?_)
          refine lv_iinc (v := nI (h + 1)) (lv' := [(4, .int (nI (h + 1))), (3, .int (nI (cb (fun h => decide (rt p d g th x h)) (h + 1)))), (0, .ref (ad 0)), (1, .int (nI x)), (2, .int (nI 1))]) hx hb dX7_odds_57 hl (k := 4) rfl (xn_inc _ 1) (by decide) rfl (fun ls hl => ?_)
          refine lv_goto (tgt := 26) hx hb dX7_odds_60 (by decide) ?_
          exact ih_26 (h + 1) τ38 (by omega) (hF.tr hF38) (by omega) _ _ _ hP hS (lv_sub hl [2, 3, 4, 1, 0] rfl)
  exact LP_26 _ 0 σ (by omega) FrF.rf (Nat.lt_succ_self _) _ _ _ hP hS (lv_sub hl [2, 3, 4, 1, 0] rfl)
