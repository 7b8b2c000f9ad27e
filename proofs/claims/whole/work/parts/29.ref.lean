/-! the reference: sheets, a new well, hours told, the best rota -/
theorem ix_no {j : Int32} {m : Nat} (h : ∀ a, a < m → j ≠ nI a) (hm : m ≤ 60) : ¬ (nI 0 ≤ j ∧ j ≤ nI m - nI 1) := by
  intro q
  rcases Nat.eq_zero_or_pos m with z | z
  · rw [z] at q
    have h1 := q.1
    have h2 := q.2
    rw [Int32.le_iff_toInt_le] at h1 h2
    have e : (nI 0 - nI 1).toInt = -1 := by decide
    have e0 : (nI 0).toInt = 0 := by decide
    omega
  · rw [pk_sub (by omega)] at q
    obtain ⟨w, h1, h2, h3⟩ := xn_rng (by omega) q
    exact h w (by omega) h3
theorem ix_yes {j m : Nat} (h : j < m) (hm : m ≤ 60) : nI 0 ≤ nI j ∧ nI j ≤ nI m - nI 1 := by
  rw [pk_sub (by omega)]
  exact xn_in (by omega) (by omega) (by omega)
def cpr (f : Nat → Int32) (S T lo hi : Nat) : Nat → Int32 := fun q => if T + lo ≤ q ∧ q < T + hi then f (S + (q - T)) else f q
theorem cpr_st {f : Nat → Int32} {S T lo hi lo' hi' j : Nat} (hj : (lo' = lo ∧ hi = j ∧ hi' = j + 1 ∧ lo ≤ j) ∨ (lo = j + 1 ∧ lo' = j ∧ hi' = hi ∧ j < hi)) (q : Nat) : (if q = T + j then f (S + j) else cpr f S T lo hi q) = cpr f S T lo' hi' q := by
  unfold cpr
  by_cases e : q = T + j
  · rw [if_pos e, if_pos (by omega), show S + (q - T) = S + j by omega]
  · rw [if_neg e]
    by_cases c : T + lo ≤ q ∧ q < T + hi
    · rw [if_pos c, if_pos (by omega)]
    · rw [if_neg c, if_neg (by omega)]
theorem cpr_0 {f : Nat → Int32} {S T lo : Nat} (q : Nat) : f q = cpr f S T lo lo q := by
  unfold cpr
  rw [if_neg (by omega)]
section SHT
variable {n p g rn : Nat} {d : Nat → Nat} {th rd : Nat → Nat → Nat} {sl sn : Nat → Nat} {sc : Nat → Nat → Int32} {ft tr : Int32} {σ τ : Sg}
theorem sh_put {k j : Nat} {v : Int32} (hJ : I2 n p g rn d th rd sl sn sc ft tr σ) (hk : k < 4) (hL : sl k < 3) (hjn : j < sn k) : I2 n p g rn d th rd sl sn (us sc k (upd (sc k) j (cutI (sl k) v))) ft tr (up σ 3 (60 * k + j) (cutI (sl k) v)) := by
  have hZ := hJ.2.2.2.1 k hk
  have h60 := (hZ.2.2 hL).2.1
  have h := I2_sh (τ := up σ 3 (60 * k + j) (cutI (sl k) v)) (L := sl k) (m := sn k) (cc := upd (sc k) j (cutI (sl k) v)) hJ hk (fun i a b c => up_r c) (fun j a => ⟨by rw [up_r (by omega)], by rw [up_r (by omega)]⟩) (fun q hq => up_n (by omega)) ⟨by rw [up_r (by omega)]; exact hZ.1, hZ.2.1, fun q => ⟨by rw [up_r (by omega)]; exact (hZ.2.2 q).1, (hZ.2.2 q).2.1, fun i hi => ?_⟩⟩
  · rw [us_id, us_id] at h
    exact h
  · by_cases hij : i = j
    · rw [hij, up_s]
      simp [upd]
    · rw [up_n (by omega)]
      simp only [upd, if_neg hij]
      exact (hZ.2.2 q).2.2 i hi
theorem sh_cpy {k o a b m : Nat} (hJ : I2 n p g rn d th rd sl sn sc ft tr σ) (hk : k < 4) (ho : o < 4) (hL : sl k < 3) (hM : sl o < 3) (ham : a + m ≤ sn k) (hbm : b + m ≤ sn o) (hfr : ∀ i, i ≠ 3 → τ i = σ i) (hq : ∀ x, τ 3 x = cpr (σ 3) (60 * k + a) (60 * o + b) 0 m x) : I2 n p g rn d th rd sl sn (us sc o (va_cpy (sc k) (sc o) a b m)) ft tr τ := by
  have hZ := hJ.2.2.2.1 k hk
  have hZo := hJ.2.2.2.1 o ho
  have h60 := (hZ.2.2 hL).2.1
  have ho60 := (hZo.2.2 hM).2.1
  have h := I2_sh (τ := τ) (L := sl o) (m := sn o) (cc := va_cpy (sc k) (sc o) a b m) hJ ho (fun i u v c => hfr i c) (fun j _ => ⟨by rw [hfr 1 (by omega)], by rw [hfr 2 (by omega)]⟩) (fun x hx => by rw [hq, cpr, if_neg (by omega)]) ⟨by rw [hfr 1 (by omega)]; exact hZo.1, hZo.2.1, fun c => ⟨by rw [hfr 2 (by omega)]; exact (hZo.2.2 c).1, (hZo.2.2 c).2.1, fun i hi => ?_⟩⟩
  · rw [us_id, us_id] at h
    exact h
  · rw [hq]
    simp only [cpr, va_cpy]
    by_cases hc : b ≤ i ∧ i < b + m
    · rw [if_pos (by omega), if_pos hc, show 60 * k + a + (60 * o + i - (60 * o + b)) = 60 * k + (a + (i - b)) by omega]
      exact (hZ.2.2 hL).2.2 _ (by omega)
    · rw [if_neg (by omega), if_neg hc]
      exact (hZo.2.2 c).2.2 i hi
end SHT

set_option maxRecDepth 20000 in
theorem flX7_sheet_61 {s : State} {av : Array Value} (hts : ∀ w ∈ wsX7_sheet, w.before av s = true) : (Cond.fieldLink RX7 61 "WellBackModel" "fault" "I").before av s = true := hts _ (by decide +kernel)
set_option maxRecDepth 20000 in
theorem inX7_sheet_X7 : ∀ w ∈ u_ws RX7 TX7 30, w ∈ wsX7_sheet := by decide +kernel
set_option maxHeartbeats 4000000 in
set_option maxRecDepth 100000 in
theorem a2_sheet_so (l : Launch) {D : va_G} {ca : Nat → ClassId} {ad : Nat → Nat} (hI : Ij ad 18) {σ : Sg} {n p g rn : Nat} {d : Nat → Nat} {th rd : Nat → Nat → Nat} {sl sn : Nat → Nat} {sc : Nat → Nat → Int32} {ft tr : Int32} {k : Int32} {w m : Int32} (hJ : I2 n p g rn d th rd sl sn sc ft tr σ) (hko : ∀ j, j < 4 → k ≠ nI j) : C2i l D ca ad yX7_sheet wsX7_sheet { frames := 2, cells := 0, slots := 0, locals := 42 } [.ref (ad 0), .int k, .int w, .int m] σ (fun r σ' => r = -1 ∧ I2 n p g rn d th rd sl sn sc (nI 0) tr σ') := by
  refine xk_entry cX7_sheet 5 (some .int) (by decide) rfl (Nat.le_of_ble_eq_true rfl) ?_
  intro pP eE sS mM below meth cC hx hb hml hr hts hown hlk hP hK hX hS ls hl
  have hl : lv_has ls 5 [(0, .ref (ad 0)), (1, .int k), (2, .int w), (3, .int m)] := hl
  obtain ⟨hT, hR, hRd, hSh, hnp, hft, htr⟩ := id hJ
  have hn5 := hT.2.2.1
  have hg9 := hT.2.2.2.1
  have hp6 := hR.2.1
  have hrn8 := hRd.2.1
  refine lv_aload_n hx hb dX7_sheet_0 rfl (lv_at hl 0 rfl) ?_
  refine lv_iconst (v := nI 0) hx hb dX7_sheet_1 (by decide) ?_
  refine xk_put hx hb hts (inX7_sheet_X7) tyX7 tyX7_ok nmX7 hown hK hI hP hS 0 (by omega) (ci := 7) e2_obj rfl 0 (by decide) (flX7_sheet_61 hts) rfl rfl (by decide +kernel) (Nat.le_of_ble_eq_true rfl) e2_loc (by rw [e2_obj]; simp [up]) dX7_sheet_2 (fun H locs hP hS => ?_)
  obtain ⟨σ0, hσ0⟩ : ∃ τ, τ = up σ 0 0 (nI 0) := ⟨_, rfl⟩
  rw [← hσ0] at hP
  have hJ0 : I2 n p g rn d th rd sl sn sc (nI 0) tr σ0 := by rw [hσ0]; exact I2_ft hJ
  obtain ⟨hT, hR, hRd, hSh, -, hft, htr⟩ := id hJ0
  refine lv_iload_n hx hb dX7_sheet_5 rfl (lv_at hl 1 rfl) ?_
  refine xk_fi (va_runS (As := [.int k]) (rest := []) ⟨hx, hb, hml, hown, hts⟩ (k2_isSheet_f l hI k (fun q => by obtain ⟨w, h1, h2, h3⟩ := xn_rng (by omega) q; exact hko w (by omega) h3)) (va_cwS 1 hts gX7_sheet_X7_isSheet rfl rfl rfl (by decide +kernel) ⟨Nat.le_of_ble_eq_true rfl, Nat.le_of_ble_eq_true rfl⟩) (xk_preS X2_ok hK hX hP) rfl rfl hl.1 rfl (lv_room (Nat.le_of_ble_eq_true rfl)) dX7_sheet_6 ⟨Nat.le_of_ble_eq_true rfl, Nat.le_of_ble_eq_true rfl⟩) hS (fun H locs hP hS => ?_)
  refine xn_zne (tgt := 14) hx hb dX7_sheet_9 (by decide) (by omega) (fun c_9 => absurd c_9 (by omega)) (fun c_9 => ?_)
  refine lv_iconst (v := (-1)) hx hb dX7_sheet_12 (by decide) ?_
  exact xk_iret hx hb hr (vp_nar_int _) X2_ok hK hX hP hS hlk dX7_sheet_13 (⟨rfl, hJ0⟩)

set_option maxHeartbeats 4000000 in
set_option maxRecDepth 100000 in
theorem a2_sheet_lo (l : Launch) {D : va_G} {ca : Nat → ClassId} {ad : Nat → Nat} (hI : Ij ad 18) {σ : Sg} {n p g rn : Nat} {d : Nat → Nat} {th rd : Nat → Nat → Nat} {sl sn : Nat → Nat} {sc : Nat → Nat → Int32} {ft tr : Int32} {k : Nat} {w m : Int32} (hJ : I2 n p g rn d th rd sl sn sc ft tr σ) (hk4 : k < 4) (hwo : ¬ (nI 0 ≤ w ∧ w ≤ nI 2)) : C2i l D ca ad yX7_sheet wsX7_sheet { frames := 2, cells := 0, slots := 0, locals := 42 } [.ref (ad 0), .int (nI k), .int w, .int m] σ (fun r σ' => r = -2 ∧ I2 n p g rn d th rd sl sn sc (nI 0) tr σ') := by
  refine xk_entry cX7_sheet 5 (some .int) (by decide) rfl (Nat.le_of_ble_eq_true rfl) ?_
  intro pP eE sS mM below meth cC hx hb hml hr hts hown hlk hP hK hX hS ls hl
  have hl : lv_has ls 5 [(0, .ref (ad 0)), (1, .int (nI k)), (2, .int w), (3, .int m)] := hl
  obtain ⟨hT, hR, hRd, hSh, hnp, hft, htr⟩ := id hJ
  have hn5 := hT.2.2.1
  have hg9 := hT.2.2.2.1
  have hp6 := hR.2.1
  have hrn8 := hRd.2.1
  refine lv_aload_n hx hb dX7_sheet_0 rfl (lv_at hl 0 rfl) ?_
  refine lv_iconst (v := nI 0) hx hb dX7_sheet_1 (by decide) ?_
  refine xk_put hx hb hts (inX7_sheet_X7) tyX7 tyX7_ok nmX7 hown hK hI hP hS 0 (by omega) (ci := 7) e2_obj rfl 0 (by decide) (flX7_sheet_61 hts) rfl rfl (by decide +kernel) (Nat.le_of_ble_eq_true rfl) e2_loc (by rw [e2_obj]; simp [up]) dX7_sheet_2 (fun H locs hP hS => ?_)
  obtain ⟨σ0, hσ0⟩ : ∃ τ, τ = up σ 0 0 (nI 0) := ⟨_, rfl⟩
  rw [← hσ0] at hP
  have hJ0 : I2 n p g rn d th rd sl sn sc (nI 0) tr σ0 := by rw [hσ0]; exact I2_ft hJ
  obtain ⟨hT, hR, hRd, hSh, -, hft, htr⟩ := id hJ0
  have hZ := hSh k hk4
  have hz60 : sl k < 3 → sn k ≤ 60 := fun q => (hZ.2.2 q).2.1
  refine lv_iload_n hx hb dX7_sheet_5 rfl (lv_at hl 1 rfl) ?_
  refine xk_fi (va_runS (As := [.int (nI k)]) (rest := []) ⟨hx, hb, hml, hown, hts⟩ (k2_isSheet_t l hI (nI k) (xn_in (by omega) (by omega) (by omega))) (va_cwS 1 hts gX7_sheet_X7_isSheet rfl rfl rfl (by decide +kernel) ⟨Nat.le_of_ble_eq_true rfl, Nat.le_of_ble_eq_true rfl⟩) (xk_preS X2_ok hK hX hP) rfl rfl hl.1 rfl (lv_room (Nat.le_of_ble_eq_true rfl)) dX7_sheet_6 ⟨Nat.le_of_ble_eq_true rfl, Nat.le_of_ble_eq_true rfl⟩) hS (fun H locs hP hS => ?_)
  refine xn_zne (tgt := 14) hx hb dX7_sheet_9 (by decide) (by omega) (fun c_9 => ?_) (fun c_9 => absurd c_9 (by omega))
  refine lv_iload_n hx hb dX7_sheet_14 rfl (lv_at hl 2 rfl) ?_
  refine xk_fi (va_runS (As := [.int w]) (rest := []) ⟨hx, hb, hml, hown, hts⟩ (k2_isSort_f l hI w (by assumption)) (va_cwS 1 hts gX7_sheet_X7_isSort rfl rfl rfl (by decide +kernel) ⟨Nat.le_of_ble_eq_true rfl, Nat.le_of_ble_eq_true rfl⟩) (xk_preS X2_ok hK hX hP) rfl rfl hl.1 rfl (lv_room (Nat.le_of_ble_eq_true rfl)) dX7_sheet_15 ⟨Nat.le_of_ble_eq_true rfl, Nat.le_of_ble_eq_true rfl⟩) hS (fun H locs hP hS => ?_)
  refine xn_zeq (tgt := 27) hx hb dX7_sheet_18 (by decide) (by omega) (fun c_18 => ?_) (fun c_18 => absurd c_18 (by omega))
  refine lv_bipush (v := (-2)) hx hb dX7_sheet_27 (by decide) ?_
  exact xk_iret hx hb hr (vp_nar_int _) X2_ok hK hX hP hS hlk dX7_sheet_29 (⟨rfl, hJ0⟩)

set_option maxHeartbeats 4000000 in
set_option maxRecDepth 100000 in
theorem a2_sheet_mo (l : Launch) {D : va_G} {ca : Nat → ClassId} {ad : Nat → Nat} (hI : Ij ad 18) {σ : Sg} {n p g rn : Nat} {d : Nat → Nat} {th rd : Nat → Nat → Nat} {sl sn : Nat → Nat} {sc : Nat → Nat → Int32} {ft tr : Int32} {k : Nat} {w : Nat} {m : Int32} (hJ : I2 n p g rn d th rd sl sn sc ft tr σ) (hk4 : k < 4) (hw2 : w ≤ 2) (hmo : nI 60 < m) : C2i l D ca ad yX7_sheet wsX7_sheet { frames := 2, cells := 0, slots := 0, locals := 42 } [.ref (ad 0), .int (nI k), .int (nI w), .int m] σ (fun r σ' => r = -2 ∧ I2 n p g rn d th rd sl sn sc (nI 0) tr σ') := by
  refine xk_entry cX7_sheet 5 (some .int) (by decide) rfl (Nat.le_of_ble_eq_true rfl) ?_
  intro pP eE sS mM below meth cC hx hb hml hr hts hown hlk hP hK hX hS ls hl
  have hl : lv_has ls 5 [(0, .ref (ad 0)), (1, .int (nI k)), (2, .int (nI w)), (3, .int m)] := hl
  obtain ⟨hT, hR, hRd, hSh, hnp, hft, htr⟩ := id hJ
  have hn5 := hT.2.2.1
  have hg9 := hT.2.2.2.1
  have hp6 := hR.2.1
  have hrn8 := hRd.2.1
  refine lv_aload_n hx hb dX7_sheet_0 rfl (lv_at hl 0 rfl) ?_
  refine lv_iconst (v := nI 0) hx hb dX7_sheet_1 (by decide) ?_
  refine xk_put hx hb hts (inX7_sheet_X7) tyX7 tyX7_ok nmX7 hown hK hI hP hS 0 (by omega) (ci := 7) e2_obj rfl 0 (by decide) (flX7_sheet_61 hts) rfl rfl (by decide +kernel) (Nat.le_of_ble_eq_true rfl) e2_loc (by rw [e2_obj]; simp [up]) dX7_sheet_2 (fun H locs hP hS => ?_)
  obtain ⟨σ0, hσ0⟩ : ∃ τ, τ = up σ 0 0 (nI 0) := ⟨_, rfl⟩
  rw [← hσ0] at hP
  have hJ0 : I2 n p g rn d th rd sl sn sc (nI 0) tr σ0 := by rw [hσ0]; exact I2_ft hJ
  obtain ⟨hT, hR, hRd, hSh, -, hft, htr⟩ := id hJ0
  have hZ := hSh k hk4
  have hz60 : sl k < 3 → sn k ≤ 60 := fun q => (hZ.2.2 q).2.1
  refine lv_iload_n hx hb dX7_sheet_5 rfl (lv_at hl 1 rfl) ?_
  refine xk_fi (va_runS (As := [.int (nI k)]) (rest := []) ⟨hx, hb, hml, hown, hts⟩ (k2_isSheet_t l hI (nI k) (xn_in (by omega) (by omega) (by omega))) (va_cwS 1 hts gX7_sheet_X7_isSheet rfl rfl rfl (by decide +kernel) ⟨Nat.le_of_ble_eq_true rfl, Nat.le_of_ble_eq_true rfl⟩) (xk_preS X2_ok hK hX hP) rfl rfl hl.1 rfl (lv_room (Nat.le_of_ble_eq_true rfl)) dX7_sheet_6 ⟨Nat.le_of_ble_eq_true rfl, Nat.le_of_ble_eq_true rfl⟩) hS (fun H locs hP hS => ?_)
  refine xn_zne (tgt := 14) hx hb dX7_sheet_9 (by decide) (by omega) (fun c_9 => ?_) (fun c_9 => absurd c_9 (by omega))
  refine lv_iload_n hx hb dX7_sheet_14 rfl (lv_at hl 2 rfl) ?_
  refine xk_fi (va_runS (As := [.int (nI w)]) (rest := []) ⟨hx, hb, hml, hown, hts⟩ (k2_isSort_t l hI (nI w) (xn_in (by omega) (by omega) (by omega))) (va_cwS 1 hts gX7_sheet_X7_isSort rfl rfl rfl (by decide +kernel) ⟨Nat.le_of_ble_eq_true rfl, Nat.le_of_ble_eq_true rfl⟩) (xk_preS X2_ok hK hX hP) rfl rfl hl.1 rfl (lv_room (Nat.le_of_ble_eq_true rfl)) dX7_sheet_15 ⟨Nat.le_of_ble_eq_true rfl, Nat.le_of_ble_eq_true rfl⟩) hS (fun H locs hP hS => ?_)
  refine xn_zeq (tgt := 27) hx hb dX7_sheet_18 (by decide) (by omega) (fun c_18 => absurd c_18 (by omega)) (fun c_18 => ?_)
  refine lv_iload_n hx hb dX7_sheet_21 rfl (lv_at hl 3 rfl) ?_
  refine lv_bipush (v := nI 60) hx hb dX7_sheet_22 (by decide) ?_
  refine lv_icmp_le (tgt := 30) hx hb dX7_sheet_24 (by decide) (fun c_24 => absurd c_24 (fun q => Int32.not_lt.mpr q hmo)) (fun c_24 => ?_)
  refine lv_bipush (v := (-2)) hx hb dX7_sheet_27 (by decide) ?_
  exact xk_iret hx hb hr (vp_nar_int _) X2_ok hK hX hP hS hlk dX7_sheet_29 (⟨rfl, hJ0⟩)

set_option maxHeartbeats 4000000 in
set_option maxRecDepth 100000 in
theorem a2_sheet_ne (l : Launch) {D : va_G} {ca : Nat → ClassId} {ad : Nat → Nat} (hI : Ij ad 18) {σ : Sg} {n p g rn : Nat} {d : Nat → Nat} {th rd : Nat → Nat → Nat} {sl sn : Nat → Nat} {sc : Nat → Nat → Int32} {ft tr : Int32} {k : Nat} {w : Nat} {m : Int32} (hJ : I2 n p g rn d th rd sl sn sc ft tr σ) (hk4 : k < 4) (hw2 : w ≤ 2) (hm0 : m < 0) : C2i l D ca ad yX7_sheet wsX7_sheet { frames := 2, cells := 0, slots := 0, locals := 42 } [.ref (ad 0), .int (nI k), .int (nI w), .int m] σ (fun r σ' => r = (-10) - nI 4 ∧ I2 n p g rn d th rd sl sn sc (nI 4) tr σ') := by
  refine xk_entry cX7_sheet 5 (some .int) (by decide) rfl (Nat.le_of_ble_eq_true rfl) ?_
  intro pP eE sS mM below meth cC hx hb hml hr hts hown hlk hP hK hX hS ls hl
  have hl : lv_has ls 5 [(0, .ref (ad 0)), (1, .int (nI k)), (2, .int (nI w)), (3, .int m)] := hl
  obtain ⟨hT, hR, hRd, hSh, hnp, hft, htr⟩ := id hJ
  have hn5 := hT.2.2.1
  have hg9 := hT.2.2.2.1
  have hp6 := hR.2.1
  have hrn8 := hRd.2.1
  refine lv_aload_n hx hb dX7_sheet_0 rfl (lv_at hl 0 rfl) ?_
  refine lv_iconst (v := nI 0) hx hb dX7_sheet_1 (by decide) ?_
  refine xk_put hx hb hts (inX7_sheet_X7) tyX7 tyX7_ok nmX7 hown hK hI hP hS 0 (by omega) (ci := 7) e2_obj rfl 0 (by decide) (flX7_sheet_61 hts) rfl rfl (by decide +kernel) (Nat.le_of_ble_eq_true rfl) e2_loc (by rw [e2_obj]; simp [up]) dX7_sheet_2 (fun H locs hP hS => ?_)
  obtain ⟨σ0, hσ0⟩ : ∃ τ, τ = up σ 0 0 (nI 0) := ⟨_, rfl⟩
  rw [← hσ0] at hP
  have hJ0 : I2 n p g rn d th rd sl sn sc (nI 0) tr σ0 := by rw [hσ0]; exact I2_ft hJ
  obtain ⟨hT, hR, hRd, hSh, -, hft, htr⟩ := id hJ0
  have hZ := hSh k hk4
  have hz60 : sl k < 3 → sn k ≤ 60 := fun q => (hZ.2.2 q).2.1
  refine lv_iload_n hx hb dX7_sheet_5 rfl (lv_at hl 1 rfl) ?_
  refine xk_fi (va_runS (As := [.int (nI k)]) (rest := []) ⟨hx, hb, hml, hown, hts⟩ (k2_isSheet_t l hI (nI k) (xn_in (by omega) (by omega) (by omega))) (va_cwS 1 hts gX7_sheet_X7_isSheet rfl rfl rfl (by decide +kernel) ⟨Nat.le_of_ble_eq_true rfl, Nat.le_of_ble_eq_true rfl⟩) (xk_preS X2_ok hK hX hP) rfl rfl hl.1 rfl (lv_room (Nat.le_of_ble_eq_true rfl)) dX7_sheet_6 ⟨Nat.le_of_ble_eq_true rfl, Nat.le_of_ble_eq_true rfl⟩) hS (fun H locs hP hS => ?_)
  refine xn_zne (tgt := 14) hx hb dX7_sheet_9 (by decide) (by omega) (fun c_9 => ?_) (fun c_9 => absurd c_9 (by omega))
  refine lv_iload_n hx hb dX7_sheet_14 rfl (lv_at hl 2 rfl) ?_
  refine xk_fi (va_runS (As := [.int (nI w)]) (rest := []) ⟨hx, hb, hml, hown, hts⟩ (k2_isSort_t l hI (nI w) (xn_in (by omega) (by omega) (by omega))) (va_cwS 1 hts gX7_sheet_X7_isSort rfl rfl rfl (by decide +kernel) ⟨Nat.le_of_ble_eq_true rfl, Nat.le_of_ble_eq_true rfl⟩) (xk_preS X2_ok hK hX hP) rfl rfl hl.1 rfl (lv_room (Nat.le_of_ble_eq_true rfl)) dX7_sheet_15 ⟨Nat.le_of_ble_eq_true rfl, Nat.le_of_ble_eq_true rfl⟩) hS (fun H locs hP hS => ?_)
  refine xn_zeq (tgt := 27) hx hb dX7_sheet_18 (by decide) (by omega) (fun c_18 => absurd c_18 (by omega)) (fun c_18 => ?_)
  refine lv_iload_n hx hb dX7_sheet_21 rfl (lv_at hl 3 rfl) ?_
  refine lv_bipush (v := nI 60) hx hb dX7_sheet_22 (by decide) ?_
  refine lv_icmp_le (tgt := 30) hx hb dX7_sheet_24 (by decide) (fun c_24 => ?_) (fun c_24 => absurd (neg_le hm0 (by decide)) c_24)
  refine lv_iload_n hx hb dX7_sheet_30 rfl (lv_at hl 3 rfl) ?_
  refine lv_if_ge (tgt := 40) hx hb dX7_sheet_31 (by decide) (fun c_31 => absurd c_31 (fun q => Int32.not_lt.mpr q hm0)) (fun c_31 => ?_)
  refine lv_aload_n hx hb dX7_sheet_34 rfl (lv_at hl 0 rfl) ?_
  refine lv_iconst (v := nI 4) hx hb dX7_sheet_35 (by decide) ?_
  refine xk_fi (va_runV (As := [.int (nI 4)]) (rest := []) ⟨hx, hb, hml, hown, hts⟩ (k2_fails l hI 4) (cwV 1 hts gX7_sheet_X7_fails rfl rfl rfl (by decide +kernel) ⟨Nat.le_of_ble_eq_true rfl, Nat.le_of_ble_eq_true rfl⟩) (xk_preV X2_ok hK hX hP (xk_recv hK hP 0 (by omega) (ci := 7) e2_obj rfl)) rfl rfl hl.1 rfl (lv_room (Nat.le_of_ble_eq_true rfl)) dX7_sheet_36 ⟨Nat.le_of_ble_eq_true rfl, Nat.le_of_ble_eq_true rfl⟩) hS (fun H locs hP hS => ?_)
  exact xk_iret hx hb hr (vp_nar_int _) X2_ok hK hX hP hS hlk dX7_sheet_39 (⟨rfl, I2_ft hJ0⟩)

set_option maxRecDepth 20000 in
theorem flX7_sheet_9 {s : State} {av : Array Value} (hts : ∀ w ∈ wsX7_sheet, w.before av s = true) : (Cond.fieldLink RX7 9 "WellBackModel" "sorts" "[I").before av s = true := hts _ (by decide +kernel)
set_option maxRecDepth 20000 in
theorem flX7_sheet_13 {s : State} {av : Array Value} (hts : ∀ w ∈ wsX7_sheet, w.before av s = true) : (Cond.fieldLink RX7 13 "WellBackModel" "sheetLong" "[I").before av s = true := hts _ (by decide +kernel)
set_option maxRecDepth 20000 in
theorem flX7_sheet_16 {s : State} {av : Array Value} (hts : ∀ w ∈ wsX7_sheet, w.before av s = true) : (Cond.fieldLink RX7 16 "WellBackModel" "cells" "[I").before av s = true := hts _ (by decide +kernel)
set_option maxHeartbeats 4000000 in
set_option maxRecDepth 100000 in
theorem a2_sheet_ok (l : Launch) {D : va_G} {ca : Nat → ClassId} {ad : Nat → Nat} (hI : Ij ad 18) {σ : Sg} {n p g rn : Nat} {d : Nat → Nat} {th rd : Nat → Nat → Nat} {sl sn : Nat → Nat} {sc : Nat → Nat → Int32} {ft tr : Int32} {k : Nat} {w : Nat} {m : Nat} (hJ : I2 n p g rn d th rd sl sn sc ft tr σ) (hk4 : k < 4) (hw2 : w ≤ 2) (hm6 : m ≤ 60) : C2i l D ca ad yX7_sheet wsX7_sheet { frames := 2, cells := 0, slots := 0, locals := 42 } [.ref (ad 0), .int (nI k), .int (nI w), .int (nI m)] σ (fun r σ' => r = nI 1 ∧ I2 n p g rn d th rd (us sl k w) (us sn k m) (us sc k (fun _ => nI 0)) (nI 0) tr σ') := by
  refine xk_entry cX7_sheet 5 (some .int) (by decide) rfl (Nat.le_of_ble_eq_true rfl) ?_
  intro pP eE sS mM below meth cC hx hb hml hr hts hown hlk hP hK hX hS ls hl
  have hl : lv_has ls 5 [(0, .ref (ad 0)), (1, .int (nI k)), (2, .int (nI w)), (3, .int (nI m))] := hl
  obtain ⟨hT, hR, hRd, hSh, hnp, hft, htr⟩ := id hJ
  have hn5 := hT.2.2.1
  have hg9 := hT.2.2.2.1
  have hp6 := hR.2.1
  have hrn8 := hRd.2.1
  refine lv_aload_n hx hb dX7_sheet_0 rfl (lv_at hl 0 rfl) ?_
  refine lv_iconst (v := nI 0) hx hb dX7_sheet_1 (by decide) ?_
  refine xk_put hx hb hts (inX7_sheet_X7) tyX7 tyX7_ok nmX7 hown hK hI hP hS 0 (by omega) (ci := 7) e2_obj rfl 0 (by decide) (flX7_sheet_61 hts) rfl rfl (by decide +kernel) (Nat.le_of_ble_eq_true rfl) e2_loc (by rw [e2_obj]; simp [up]) dX7_sheet_2 (fun H locs hP hS => ?_)
  obtain ⟨σ0, hσ0⟩ : ∃ τ, τ = up σ 0 0 (nI 0) := ⟨_, rfl⟩
  rw [← hσ0] at hP
  have hJ0 : I2 n p g rn d th rd sl sn sc (nI 0) tr σ0 := by rw [hσ0]; exact I2_ft hJ
  obtain ⟨hT, hR, hRd, hSh, -, hft, htr⟩ := id hJ0
  have hZ := hSh k hk4
  have hz60 : sl k < 3 → sn k ≤ 60 := fun q => (hZ.2.2 q).2.1
  refine lv_iload_n hx hb dX7_sheet_5 rfl (lv_at hl 1 rfl) ?_
  refine xk_fi (va_runS (As := [.int (nI k)]) (rest := []) ⟨hx, hb, hml, hown, hts⟩ (k2_isSheet_t l hI (nI k) (xn_in (by omega) (by omega) (by omega))) (va_cwS 1 hts gX7_sheet_X7_isSheet rfl rfl rfl (by decide +kernel) ⟨Nat.le_of_ble_eq_true rfl, Nat.le_of_ble_eq_true rfl⟩) (xk_preS X2_ok hK hX hP) rfl rfl hl.1 rfl (lv_room (Nat.le_of_ble_eq_true rfl)) dX7_sheet_6 ⟨Nat.le_of_ble_eq_true rfl, Nat.le_of_ble_eq_true rfl⟩) hS (fun H locs hP hS => ?_)
  refine xn_zne (tgt := 14) hx hb dX7_sheet_9 (by decide) (by omega) (fun c_9 => ?_) (fun c_9 => absurd c_9 (by omega))
  refine lv_iload_n hx hb dX7_sheet_14 rfl (lv_at hl 2 rfl) ?_
  refine xk_fi (va_runS (As := [.int (nI w)]) (rest := []) ⟨hx, hb, hml, hown, hts⟩ (k2_isSort_t l hI (nI w) (xn_in (by omega) (by omega) (by omega))) (va_cwS 1 hts gX7_sheet_X7_isSort rfl rfl rfl (by decide +kernel) ⟨Nat.le_of_ble_eq_true rfl, Nat.le_of_ble_eq_true rfl⟩) (xk_preS X2_ok hK hX hP) rfl rfl hl.1 rfl (lv_room (Nat.le_of_ble_eq_true rfl)) dX7_sheet_15 ⟨Nat.le_of_ble_eq_true rfl, Nat.le_of_ble_eq_true rfl⟩) hS (fun H locs hP hS => ?_)
  refine xn_zeq (tgt := 27) hx hb dX7_sheet_18 (by decide) (by omega) (fun c_18 => absurd c_18 (by omega)) (fun c_18 => ?_)
  refine lv_iload_n hx hb dX7_sheet_21 rfl (lv_at hl 3 rfl) ?_
  refine lv_bipush (v := nI 60) hx hb dX7_sheet_22 (by decide) ?_
  refine xn_ile (tgt := 30) hx hb dX7_sheet_24 (by decide) (by omega) (by omega) (fun c_24 => ?_) (fun c_24 => absurd c_24 (by omega))
  refine lv_iload_n hx hb dX7_sheet_30 rfl (lv_at hl 3 rfl) ?_
  refine xn_zge (tgt := 40) hx hb dX7_sheet_31 (by decide) (by omega) (fun c_31 => ?_) (fun c_31 => absurd c_31 (by omega))
  refine lv_aload_n hx hb dX7_sheet_40 rfl (lv_at hl 0 rfl) ?_
  refine xk_get hx hb hts (inX7_sheet_X7) hown hK hP 0 (by omega) (ci := 7) e2_obj rfl 2 (by decide) (flX7_sheet_9 hts) rfl (.ref (ad 1)) rfl dX7_sheet_41 ?_
  refine lv_iload_n hx hb dX7_sheet_44 rfl (lv_at hl 1 rfl) ?_
  refine lv_iload_n hx hb dX7_sheet_45 rfl (lv_at hl 2 rfl) ?_
  refine xk_iast hx hb hK hI hP hS 1 (by omega) (n := 4) (fun τ => (e2_row 4 (by decide) rfl)) rfl k (by omega) (by decide) e2_loc dX7_sheet_46 (fun H locs hP hS => ?_)
  refine lv_aload_n hx hb dX7_sheet_47 rfl (lv_at hl 0 rfl) ?_
  refine xk_get hx hb hts (inX7_sheet_X7) hown hK hP 0 (by omega) (ci := 7) e2_obj rfl 3 (by decide) (flX7_sheet_13 hts) rfl (.ref (ad 2)) rfl dX7_sheet_48 ?_
  refine lv_iload_n hx hb dX7_sheet_51 rfl (lv_at hl 1 rfl) ?_
  refine lv_iload_n hx hb dX7_sheet_52 rfl (lv_at hl 3 rfl) ?_
  refine xk_iast hx hb hK hI hP hS 2 (by omega) (n := 4) (fun τ => (e2_row 4 (by decide) rfl)) rfl k (by omega) (by decide) e2_loc dX7_sheet_53 (fun H locs hP hS => ?_)
  refine lv_iconst (v := nI 0) hx hb dX7_sheet_54 (by decide) ?_
  refine lv_istore (lv' := [(4, .int (nI 0)), (0, .ref (ad 0)), (1, .int (nI k)), (2, .int (nI w)), (3, .int (nI m))]) hx hb dX7_sheet_55 hl (by decide) rfl (fun ls hl => ?_)
  have LP_57 : ∀ (n_57 : Nat) (q : Nat) (τ : Sg), (q ≤ 60) → (∀ i, i ≠ 3 → τ i = up (up σ0 1 k (nI w)) 2 k (nI m) i) → (∀ j, j < 60 * k ∨ 60 * k + 60 ≤ j → τ 3 j = σ0 3 j) → (∀ j, j < q → τ 3 (60 * k + j) = nI 0) → (60 - q) < n_57 → ∀ (H : Heap) (locs : List Loc) (ls : Array Slot), va_P D vwCl (wl ad 18 (en2 ad ca τ)) H → va_S (AA ad 18) sS.heap H locs → lv_has ls 5 [(0, .ref (ad 0)), (1, .int (nI k)), (4, .int (nI q))] → Wwi2 pP l eE { frames := 2, cells := 0, slots := 0, locals := 42 } sS mM [.ref (ad 0), .int (nI k), .int (nI w), .int (nI m)] below meth cC D ca ad (fun r σ' => r = nI 1 ∧ I2 n p g rn d th rd (us sl k w) (us sn k m) (us sc k (fun _ => nI 0)) (nI 0) tr σ') H locs (F0 mM 57 ls []) := by
    intro n_57
    induction n_57 with
    | zero =>
      intro q τ hq hfr hot hin hn_57
      exact absurd hn_57 (Nat.not_lt_zero _)
    | succ n_57 ih_57 =>
      intro q τ hq hfr hot hin hn_57 H locs ls hP hS hl
      refine lv_iload hx hb dX7_sheet_57 (lv_at hl 2 rfl) ?_
      refine lv_bipush (v := nI 60) hx hb dX7_sheet_59 (by decide) ?_
      refine xn_ige (tgt := 83) hx hb dX7_sheet_61 (by decide) (by omega) (by omega) (fun c_61 => ?_) (fun c_61 => ?_)
      · refine lv_iconst (v := nI 1) hx hb dX7_sheet_83 (by decide) ?_
        exact xk_iret hx hb hr (vp_nar_int _) X2_ok hK hX hP hS hlk dX7_sheet_84 (⟨rfl, I2_sh hJ0 hk4 (fun i a b c => by rw [hfr i c, up_r b, up_r a]) (fun j a => ⟨by rw [hfr 1 (by omega), up_n (by omega), up_n (by omega)], by rw [hfr 2 (by omega), up_n (by omega), up_n (by omega)]⟩) hot ⟨by rw [hfr 1 (by omega), up_n (by omega), up_s, lz_lt (by omega)], by omega, fun _ => ⟨by rw [hfr 2 (by omega), up_s], hm6, fun i hi => hin i (by omega)⟩⟩⟩)
      · refine lv_aload_n hx hb dX7_sheet_64 rfl (lv_at hl 0 rfl) ?_
        refine xk_get hx hb hts (inX7_sheet_X7) hown hK hP 0 (by omega) (ci := 7) e2_obj rfl 4 (by decide) (flX7_sheet_16 hts) rfl (.ref (ad 3)) rfl dX7_sheet_65 ?_
        refine lv_bipush (v := nI 60) hx hb dX7_sheet_68 (by decide) ?_
        refine lv_iload_n hx hb dX7_sheet_70 rfl (lv_at hl 1 rfl) ?_
        refine xn_imul hx hb dX7_sheet_71 ?_
        refine lv_iload hx hb dX7_sheet_72 (lv_at hl 2 rfl) ?_
        refine xn_iadd hx hb dX7_sheet_74 ?_
        refine lv_iconst (v := nI 0) hx hb dX7_sheet_75 (by decide) ?_
        refine xk_iast hx hb hK hI hP hS 3 (by omega) (n := 240) (fun τ => (e2_row 240 (by decide) rfl)) rfl ((60 * k) + q) (by omega) (by decide) e2_loc dX7_sheet_76 (fun H locs hP hS => ?_)
        refine lv_iinc (v := nI (q + 1)) (lv' := [(4, .int (nI (q + 1))), (0, .ref (ad 0)), (1, .int (nI k))]) hx hb dX7_sheet_77 hl (k := 2) rfl (xn_inc _ 1) (by decide) rfl (fun ls hl => ?_)
        refine lv_goto (tgt := 57) hx hb dX7_sheet_80 (by decide) ?_
        exact ih_57 (q + 1) (up τ 3 ((60 * k) + q) (nI 0)) (by omega) (fun i hi => by rw [up_r hi]; exact hfr i hi) (fun j hj => by rw [up_n (by omega)]; exact hot j hj) (fun j hj => by
          by_cases hjq : j = q
          · rw [hjq, up_s]
          · rw [up_n (by omega)]; exact hin j (by omega)) (by omega) _ _ _ hP hS (lv_sub hl [1, 2, 0] rfl)
  exact LP_57 _ 0 (up (up σ0 1 k (nI w)) 2 k (nI m)) (by omega) (fun _ _ => rfl) (fun j _ => by rw [up_r (by omega), up_r (by omega)]) (fun j hj => absurd hj (Nat.not_lt_zero _)) (Nat.lt_succ_self _) _ _ _ hP hS (lv_sub hl [1, 2, 0] rfl)

set_option maxHeartbeats 4000000 in
set_option maxRecDepth 100000 in
theorem a2_lose_so (l : Launch) {D : va_G} {ca : Nat → ClassId} {ad : Nat → Nat} (hI : Ij ad 18) {σ : Sg} {n p g rn : Nat} {d : Nat → Nat} {th rd : Nat → Nat → Nat} {sl sn : Nat → Nat} {sc : Nat → Nat → Int32} {ft tr : Int32} {k : Int32} (hJ : I2 n p g rn d th rd sl sn sc ft tr σ) (hko : ∀ j, j < 4 → k ≠ nI j) : C2i l D ca ad yX7_lose wsX7_lose { frames := 2, cells := 0, slots := 0, locals := 42 } [.ref (ad 0), .int k] σ (fun r σ' => r = -1 ∧ I2 n p g rn d th rd sl sn sc ft tr σ') := by
  refine xk_entry cX7_lose 3 (some .int) (by decide) rfl (Nat.le_of_ble_eq_true rfl) ?_
  intro pP eE sS mM below meth cC hx hb hml hr hts hown hlk hP hK hX hS ls hl
  have hl : lv_has ls 3 [(0, .ref (ad 0)), (1, .int k)] := hl
  obtain ⟨hT, hR, hRd, hSh, hnp, hft, htr⟩ := id hJ
  have hn5 := hT.2.2.1
  have hg9 := hT.2.2.2.1
  have hp6 := hR.2.1
  have hrn8 := hRd.2.1
  refine lv_iload_n hx hb dX7_lose_0 rfl (lv_at hl 1 rfl) ?_
  refine xk_fi (va_runS (As := [.int k]) (rest := []) ⟨hx, hb, hml, hown, hts⟩ (k2_isSheet_f l hI k (fun q => by obtain ⟨w, h1, h2, h3⟩ := xn_rng (by omega) q; exact hko w (by omega) h3)) (va_cwS 1 hts gX7_lose_X7_isSheet rfl rfl rfl (by decide +kernel) ⟨Nat.le_of_ble_eq_true rfl, Nat.le_of_ble_eq_true rfl⟩) (xk_preS X2_ok hK hX hP) rfl rfl hl.1 rfl (lv_room (Nat.le_of_ble_eq_true rfl)) dX7_lose_1 ⟨Nat.le_of_ble_eq_true rfl, Nat.le_of_ble_eq_true rfl⟩) hS (fun H locs hP hS => ?_)
  refine xn_zne (tgt := 9) hx hb dX7_lose_4 (by decide) (by omega) (fun c_4 => absurd c_4 (by omega)) (fun c_4 => ?_)
  refine lv_iconst (v := (-1)) hx hb dX7_lose_7 (by decide) ?_
  exact xk_iret hx hb hr (vp_nar_int _) X2_ok hK hX hP hS hlk dX7_lose_8 (⟨rfl, hJ⟩)

set_option maxRecDepth 20000 in
theorem flX7_lose_9 {s : State} {av : Array Value} (hts : ∀ w ∈ wsX7_lose, w.before av s = true) : (Cond.fieldLink RX7 9 "WellBackModel" "sorts" "[I").before av s = true := hts _ (by decide +kernel)
set_option maxRecDepth 20000 in
theorem inX7_lose_X7 : ∀ w ∈ u_ws RX7 TX7 30, w ∈ wsX7_lose := by decide +kernel
set_option maxHeartbeats 4000000 in
set_option maxRecDepth 100000 in
theorem a2_lose_y (l : Launch) {D : va_G} {ca : Nat → ClassId} {ad : Nat → Nat} (hI : Ij ad 18) {σ : Sg} {n p g rn : Nat} {d : Nat → Nat} {th rd : Nat → Nat → Nat} {sl sn : Nat → Nat} {sc : Nat → Nat → Int32} {ft tr : Int32} {k : Nat} (hJ : I2 n p g rn d th rd sl sn sc ft tr σ) (hk4 : k < 4) (hL : sl k < 3) : C2i l D ca ad yX7_lose wsX7_lose { frames := 2, cells := 0, slots := 0, locals := 42 } [.ref (ad 0), .int (nI k)] σ (fun r σ' => r = nI 1 ∧ I2 n p g rn d th rd (us sl k 3) sn sc ft tr σ') := by
  refine xk_entry cX7_lose 3 (some .int) (by decide) rfl (Nat.le_of_ble_eq_true rfl) ?_
  intro pP eE sS mM below meth cC hx hb hml hr hts hown hlk hP hK hX hS ls hl
  have hl : lv_has ls 3 [(0, .ref (ad 0)), (1, .int (nI k))] := hl
  obtain ⟨hT, hR, hRd, hSh, hnp, hft, htr⟩ := id hJ
  have hn5 := hT.2.2.1
  have hg9 := hT.2.2.2.1
  have hp6 := hR.2.1
  have hrn8 := hRd.2.1
  have hZ := hSh k hk4
  have hz60 : sl k < 3 → sn k ≤ 60 := fun q => (hZ.2.2 q).2.1
  refine lv_iload_n hx hb dX7_lose_0 rfl (lv_at hl 1 rfl) ?_
  refine xk_fi (va_runS (As := [.int (nI k)]) (rest := []) ⟨hx, hb, hml, hown, hts⟩ (k2_isSheet_t l hI (nI k) (xn_in (by omega) (by omega) (by omega))) (va_cwS 1 hts gX7_lose_X7_isSheet rfl rfl rfl (by decide +kernel) ⟨Nat.le_of_ble_eq_true rfl, Nat.le_of_ble_eq_true rfl⟩) (xk_preS X2_ok hK hX hP) rfl rfl hl.1 rfl (lv_room (Nat.le_of_ble_eq_true rfl)) dX7_lose_1 ⟨Nat.le_of_ble_eq_true rfl, Nat.le_of_ble_eq_true rfl⟩) hS (fun H locs hP hS => ?_)
  refine xn_zne (tgt := 9) hx hb dX7_lose_4 (by decide) (by omega) (fun c_4 => ?_) (fun c_4 => absurd c_4 (by omega))
  refine lv_aload_n hx hb dX7_lose_9 rfl (lv_at hl 0 rfl) ?_
  refine xk_get hx hb hts (inX7_lose_X7) hown hK hP 0 (by omega) (ci := 7) e2_obj rfl 2 (by decide) (flX7_lose_9 hts) rfl (.ref (ad 1)) rfl dX7_lose_10 ?_
  refine lv_iload_n hx hb dX7_lose_13 rfl (lv_at hl 1 rfl) ?_
  refine xk_iald hx hb hK hP 1 (by omega) (n := 4) (e2_row 4 (by decide) rfl) rfl k (by omega) (by decide) dX7_lose_14 ?_
  refine xn_eqi (y := nI (sl k)) (hZ.1.trans (lz_lt hL)) ?_
  refine lv_bipush (v := (-9)) hx hb dX7_lose_15 (by decide) ?_
  refine lv_icmp_ne (tgt := 24) hx hb dX7_lose_17 (by decide) (fun c_17 => ?_) (fun c_17 => absurd c_17 (lz_ne hL))
  refine lv_iconst (v := nI 1) hx hb dX7_lose_24 (by decide) ?_
  refine lv_istore_n (lv' := [(2, .int (nI 1)), (0, .ref (ad 0)), (1, .int (nI k))]) hx hb dX7_lose_25 rfl hl (by decide) rfl (fun ls hl => ?_)
  refine lv_aload_n hx hb dX7_lose_26 rfl (lv_at hl 1 rfl) ?_
  refine xk_get hx hb hts (inX7_lose_X7) hown hK hP 0 (by omega) (ci := 7) e2_obj rfl 2 (by decide) (flX7_lose_9 hts) rfl (.ref (ad 1)) rfl dX7_lose_27 ?_
  refine lv_iload_n hx hb dX7_lose_30 rfl (lv_at hl 2 rfl) ?_
  refine lv_bipush (v := (-9)) hx hb dX7_lose_31 (by decide) ?_
  refine xk_iast hx hb hK hI hP hS 1 (by omega) (n := 4) (fun τ => (e2_row 4 (by decide) rfl)) rfl k (by omega) (by decide) e2_loc dX7_lose_33 (fun H locs hP hS => ?_)
  refine lv_iload_n hx hb dX7_lose_34 rfl (lv_at hl 0 rfl) ?_
  exact xk_iret hx hb hr (vp_nar_int _) X2_ok hK hX hP hS hlk dX7_lose_35 (⟨rfl, by have h := I2_sh (τ := up σ 1 k (-9)) (L := 3) (m := sn k) (cc := sc k) hJ hk4 (fun i a b c => up_r a) (fun j a => ⟨up_n (by omega), by rw [up_r (by omega)]⟩) (fun j _ => by rw [up_r (by omega)]) ⟨up_s, by omega, fun q => absurd q (by omega)⟩; rw [us_id, us_id] at h; exact h⟩)

set_option maxHeartbeats 4000000 in
set_option maxRecDepth 100000 in
theorem a2_lose_no (l : Launch) {D : va_G} {ca : Nat → ClassId} {ad : Nat → Nat} (hI : Ij ad 18) {σ : Sg} {n p g rn : Nat} {d : Nat → Nat} {th rd : Nat → Nat → Nat} {sl sn : Nat → Nat} {sc : Nat → Nat → Int32} {ft tr : Int32} {k : Nat} (hJ : I2 n p g rn d th rd sl sn sc ft tr σ) (hk4 : k < 4) (hL3 : sl k = 3) : C2i l D ca ad yX7_lose wsX7_lose { frames := 2, cells := 0, slots := 0, locals := 42 } [.ref (ad 0), .int (nI k)] σ (fun r σ' => r = nI 0 ∧ I2 n p g rn d th rd (us sl k 3) sn sc ft tr σ') := by
  refine xk_entry cX7_lose 3 (some .int) (by decide) rfl (Nat.le_of_ble_eq_true rfl) ?_
  intro pP eE sS mM below meth cC hx hb hml hr hts hown hlk hP hK hX hS ls hl
  have hl : lv_has ls 3 [(0, .ref (ad 0)), (1, .int (nI k))] := hl
  obtain ⟨hT, hR, hRd, hSh, hnp, hft, htr⟩ := id hJ
  have hn5 := hT.2.2.1
  have hg9 := hT.2.2.2.1
  have hp6 := hR.2.1
  have hrn8 := hRd.2.1
  have hZ := hSh k hk4
  have hz60 : sl k < 3 → sn k ≤ 60 := fun q => (hZ.2.2 q).2.1
  refine lv_iload_n hx hb dX7_lose_0 rfl (lv_at hl 1 rfl) ?_
  refine xk_fi (va_runS (As := [.int (nI k)]) (rest := []) ⟨hx, hb, hml, hown, hts⟩ (k2_isSheet_t l hI (nI k) (xn_in (by omega) (by omega) (by omega))) (va_cwS 1 hts gX7_lose_X7_isSheet rfl rfl rfl (by decide +kernel) ⟨Nat.le_of_ble_eq_true rfl, Nat.le_of_ble_eq_true rfl⟩) (xk_preS X2_ok hK hX hP) rfl rfl hl.1 rfl (lv_room (Nat.le_of_ble_eq_true rfl)) dX7_lose_1 ⟨Nat.le_of_ble_eq_true rfl, Nat.le_of_ble_eq_true rfl⟩) hS (fun H locs hP hS => ?_)
  refine xn_zne (tgt := 9) hx hb dX7_lose_4 (by decide) (by omega) (fun c_4 => ?_) (fun c_4 => absurd c_4 (by omega))
  refine lv_aload_n hx hb dX7_lose_9 rfl (lv_at hl 0 rfl) ?_
  refine xk_get hx hb hts (inX7_lose_X7) hown hK hP 0 (by omega) (ci := 7) e2_obj rfl 2 (by decide) (flX7_lose_9 hts) rfl (.ref (ad 1)) rfl dX7_lose_10 ?_
  refine lv_iload_n hx hb dX7_lose_13 rfl (lv_at hl 1 rfl) ?_
  refine xk_iald hx hb hK hP 1 (by omega) (n := 4) (e2_row 4 (by decide) rfl) rfl k (by omega) (by decide) dX7_lose_14 ?_
  refine xn_eqi (y := (-9)) (hZ.1.trans (by rw [hL3]; rfl)) ?_
  refine lv_bipush (v := (-9)) hx hb dX7_lose_15 (by decide) ?_
  refine lv_icmp_ne (tgt := 24) hx hb dX7_lose_17 (by decide) (fun c_17 => absurd rfl c_17) (fun c_17 => ?_)
  refine lv_iconst (v := nI 0) hx hb dX7_lose_20 (by decide) ?_
  refine lv_goto (tgt := 25) hx hb dX7_lose_21 (by decide) ?_
  refine lv_istore_n (lv' := [(2, .int (nI 0)), (0, .ref (ad 0)), (1, .int (nI k))]) hx hb dX7_lose_25 rfl hl (by decide) rfl (fun ls hl => ?_)
  refine lv_aload_n hx hb dX7_lose_26 rfl (lv_at hl 1 rfl) ?_
  refine xk_get hx hb hts (inX7_lose_X7) hown hK hP 0 (by omega) (ci := 7) e2_obj rfl 2 (by decide) (flX7_lose_9 hts) rfl (.ref (ad 1)) rfl dX7_lose_27 ?_
  refine lv_iload_n hx hb dX7_lose_30 rfl (lv_at hl 2 rfl) ?_
  refine lv_bipush (v := (-9)) hx hb dX7_lose_31 (by decide) ?_
  refine xk_iast hx hb hK hI hP hS 1 (by omega) (n := 4) (fun τ => (e2_row 4 (by decide) rfl)) rfl k (by omega) (by decide) e2_loc dX7_lose_33 (fun H locs hP hS => ?_)
  refine lv_iload_n hx hb dX7_lose_34 rfl (lv_at hl 0 rfl) ?_
  exact xk_iret hx hb hr (vp_nar_int _) X2_ok hK hX hP hS hlk dX7_lose_35 (⟨rfl, by have h := I2_sh (τ := up σ 1 k (-9)) (L := 3) (m := sn k) (cc := sc k) hJ hk4 (fun i a b c => up_r a) (fun j a => ⟨up_n (by omega), by rw [up_r (by omega)]⟩) (fun j _ => by rw [up_r (by omega)]) ⟨up_s, by omega, fun q => absurd q (by omega)⟩; rw [us_id, us_id] at h; exact h⟩)

set_option maxRecDepth 20000 in
theorem flX7_put_61 {s : State} {av : Array Value} (hts : ∀ w ∈ wsX7_put, w.before av s = true) : (Cond.fieldLink RX7 61 "WellBackModel" "fault" "I").before av s = true := hts _ (by decide +kernel)
set_option maxRecDepth 20000 in
theorem inX7_put_X7 : ∀ w ∈ u_ws RX7 TX7 30, w ∈ wsX7_put := by decide +kernel
set_option maxHeartbeats 4000000 in
set_option maxRecDepth 100000 in
theorem a2_put_so (l : Launch) {D : va_G} {ca : Nat → ClassId} {ad : Nat → Nat} (hI : Ij ad 18) {σ : Sg} {n p g rn : Nat} {d : Nat → Nat} {th rd : Nat → Nat → Nat} {sl sn : Nat → Nat} {sc : Nat → Nat → Int32} {ft tr : Int32} {k : Int32} {j v : Int32} (hJ : I2 n p g rn d th rd sl sn sc ft tr σ) (hko : ∀ j, j < 4 → k ≠ nI j) : C2i l D ca ad yX7_put wsX7_put { frames := 2, cells := 0, slots := 0, locals := 42 } [.ref (ad 0), .int k, .int j, .int v] σ (fun r σ' => r = -1 ∧ I2 n p g rn d th rd sl sn sc (nI 0) tr σ') := by
  refine xk_entry cX7_put 4 (some .int) (by decide) rfl (Nat.le_of_ble_eq_true rfl) ?_
  intro pP eE sS mM below meth cC hx hb hml hr hts hown hlk hP hK hX hS ls hl
  have hl : lv_has ls 4 [(0, .ref (ad 0)), (1, .int k), (2, .int j), (3, .int v)] := hl
  obtain ⟨hT, hR, hRd, hSh, hnp, hft, htr⟩ := id hJ
  have hn5 := hT.2.2.1
  have hg9 := hT.2.2.2.1
  have hp6 := hR.2.1
  have hrn8 := hRd.2.1
  refine lv_aload_n hx hb dX7_put_0 rfl (lv_at hl 0 rfl) ?_
  refine lv_iconst (v := nI 0) hx hb dX7_put_1 (by decide) ?_
  refine xk_put hx hb hts (inX7_put_X7) tyX7 tyX7_ok nmX7 hown hK hI hP hS 0 (by omega) (ci := 7) e2_obj rfl 0 (by decide) (flX7_put_61 hts) rfl rfl (by decide +kernel) (Nat.le_of_ble_eq_true rfl) e2_loc (by rw [e2_obj]; simp [up]) dX7_put_2 (fun H locs hP hS => ?_)
  obtain ⟨σ0, hσ0⟩ : ∃ τ, τ = up σ 0 0 (nI 0) := ⟨_, rfl⟩
  rw [← hσ0] at hP
  have hJ0 : I2 n p g rn d th rd sl sn sc (nI 0) tr σ0 := by rw [hσ0]; exact I2_ft hJ
  obtain ⟨hT, hR, hRd, hSh, -, hft, htr⟩ := id hJ0
  refine lv_iload_n hx hb dX7_put_5 rfl (lv_at hl 1 rfl) ?_
  refine xk_fi (va_runS (As := [.int k]) (rest := []) ⟨hx, hb, hml, hown, hts⟩ (k2_isSheet_f l hI k (fun q => by obtain ⟨w, h1, h2, h3⟩ := xn_rng (by omega) q; exact hko w (by omega) h3)) (va_cwS 1 hts gX7_put_X7_isSheet rfl rfl rfl (by decide +kernel) ⟨Nat.le_of_ble_eq_true rfl, Nat.le_of_ble_eq_true rfl⟩) (xk_preS X2_ok hK hX hP) rfl rfl hl.1 rfl (lv_room (Nat.le_of_ble_eq_true rfl)) dX7_put_6 ⟨Nat.le_of_ble_eq_true rfl, Nat.le_of_ble_eq_true rfl⟩) hS (fun H locs hP hS => ?_)
  refine xn_zne (tgt := 14) hx hb dX7_put_9 (by decide) (by omega) (fun c_9 => absurd c_9 (by omega)) (fun c_9 => ?_)
  refine lv_iconst (v := (-1)) hx hb dX7_put_12 (by decide) ?_
  exact xk_iret hx hb hr (vp_nar_int _) X2_ok hK hX hP hS hlk dX7_put_13 (⟨rfl, hJ0⟩)

set_option maxRecDepth 20000 in
theorem flX7_put_9 {s : State} {av : Array Value} (hts : ∀ w ∈ wsX7_put, w.before av s = true) : (Cond.fieldLink RX7 9 "WellBackModel" "sorts" "[I").before av s = true := hts _ (by decide +kernel)
set_option maxHeartbeats 4000000 in
set_option maxRecDepth 100000 in
theorem a2_put_nu (l : Launch) {D : va_G} {ca : Nat → ClassId} {ad : Nat → Nat} (hI : Ij ad 18) {σ : Sg} {n p g rn : Nat} {d : Nat → Nat} {th rd : Nat → Nat → Nat} {sl sn : Nat → Nat} {sc : Nat → Nat → Int32} {ft tr : Int32} {k : Nat} {j v : Int32} (hJ : I2 n p g rn d th rd sl sn sc ft tr σ) (hk4 : k < 4) (hL3 : sl k = 3) : C2i l D ca ad yX7_put wsX7_put { frames := 2, cells := 0, slots := 0, locals := 42 } [.ref (ad 0), .int (nI k), .int j, .int v] σ (fun r σ' => r = (-10) - nI 1 ∧ I2 n p g rn d th rd sl sn sc (nI 1) tr σ') := by
  refine xk_entry cX7_put 4 (some .int) (by decide) rfl (Nat.le_of_ble_eq_true rfl) ?_
  intro pP eE sS mM below meth cC hx hb hml hr hts hown hlk hP hK hX hS ls hl
  have hl : lv_has ls 4 [(0, .ref (ad 0)), (1, .int (nI k)), (2, .int j), (3, .int v)] := hl
  obtain ⟨hT, hR, hRd, hSh, hnp, hft, htr⟩ := id hJ
  have hn5 := hT.2.2.1
  have hg9 := hT.2.2.2.1
  have hp6 := hR.2.1
  have hrn8 := hRd.2.1
  refine lv_aload_n hx hb dX7_put_0 rfl (lv_at hl 0 rfl) ?_
  refine lv_iconst (v := nI 0) hx hb dX7_put_1 (by decide) ?_
  refine xk_put hx hb hts (inX7_put_X7) tyX7 tyX7_ok nmX7 hown hK hI hP hS 0 (by omega) (ci := 7) e2_obj rfl 0 (by decide) (flX7_put_61 hts) rfl rfl (by decide +kernel) (Nat.le_of_ble_eq_true rfl) e2_loc (by rw [e2_obj]; simp [up]) dX7_put_2 (fun H locs hP hS => ?_)
  obtain ⟨σ0, hσ0⟩ : ∃ τ, τ = up σ 0 0 (nI 0) := ⟨_, rfl⟩
  rw [← hσ0] at hP
  have hJ0 : I2 n p g rn d th rd sl sn sc (nI 0) tr σ0 := by rw [hσ0]; exact I2_ft hJ
  obtain ⟨hT, hR, hRd, hSh, -, hft, htr⟩ := id hJ0
  have hZ := hSh k hk4
  have hz60 : sl k < 3 → sn k ≤ 60 := fun q => (hZ.2.2 q).2.1
  refine lv_iload_n hx hb dX7_put_5 rfl (lv_at hl 1 rfl) ?_
  refine xk_fi (va_runS (As := [.int (nI k)]) (rest := []) ⟨hx, hb, hml, hown, hts⟩ (k2_isSheet_t l hI (nI k) (xn_in (by omega) (by omega) (by omega))) (va_cwS 1 hts gX7_put_X7_isSheet rfl rfl rfl (by decide +kernel) ⟨Nat.le_of_ble_eq_true rfl, Nat.le_of_ble_eq_true rfl⟩) (xk_preS X2_ok hK hX hP) rfl rfl hl.1 rfl (lv_room (Nat.le_of_ble_eq_true rfl)) dX7_put_6 ⟨Nat.le_of_ble_eq_true rfl, Nat.le_of_ble_eq_true rfl⟩) hS (fun H locs hP hS => ?_)
  refine xn_zne (tgt := 14) hx hb dX7_put_9 (by decide) (by omega) (fun c_9 => ?_) (fun c_9 => absurd c_9 (by omega))
  refine lv_aload_n hx hb dX7_put_14 rfl (lv_at hl 0 rfl) ?_
  refine xk_get hx hb hts (inX7_put_X7) hown hK hP 0 (by omega) (ci := 7) e2_obj rfl 2 (by decide) (flX7_put_9 hts) rfl (.ref (ad 1)) rfl dX7_put_15 ?_
  refine lv_iload_n hx hb dX7_put_18 rfl (lv_at hl 1 rfl) ?_
  refine xk_iald hx hb hK hP 1 (by omega) (n := 4) (e2_row 4 (by decide) rfl) rfl k (by omega) (by decide) dX7_put_19 ?_
  refine xn_eqi (y := (-9)) (hZ.1.trans (by rw [hL3]; rfl)) ?_
  refine lv_bipush (v := (-9)) hx hb dX7_put_20 (by decide) ?_
  refine lv_icmp_ne (tgt := 31) hx hb dX7_put_22 (by decide) (fun c_22 => absurd rfl c_22) (fun c_22 => ?_)
  refine lv_aload_n hx hb dX7_put_25 rfl (lv_at hl 0 rfl) ?_
  refine lv_iconst (v := nI 1) hx hb dX7_put_26 (by decide) ?_
  refine xk_fi (va_runV (As := [.int (nI 1)]) (rest := []) ⟨hx, hb, hml, hown, hts⟩ (k2_fails l hI 1) (cwV 1 hts gX7_put_X7_fails rfl rfl rfl (by decide +kernel) ⟨Nat.le_of_ble_eq_true rfl, Nat.le_of_ble_eq_true rfl⟩) (xk_preV X2_ok hK hX hP (xk_recv hK hP 0 (by omega) (ci := 7) e2_obj rfl)) rfl rfl hl.1 rfl (lv_room (Nat.le_of_ble_eq_true rfl)) dX7_put_27 ⟨Nat.le_of_ble_eq_true rfl, Nat.le_of_ble_eq_true rfl⟩) hS (fun H locs hP hS => ?_)
  exact xk_iret hx hb hr (vp_nar_int _) X2_ok hK hX hP hS hlk dX7_put_30 (⟨rfl, I2_ft hJ0⟩)

set_option maxRecDepth 20000 in
theorem flX7_put_13 {s : State} {av : Array Value} (hts : ∀ w ∈ wsX7_put, w.before av s = true) : (Cond.fieldLink RX7 13 "WellBackModel" "sheetLong" "[I").before av s = true := hts _ (by decide +kernel)
set_option maxHeartbeats 4000000 in
set_option maxRecDepth 100000 in
theorem a2_put_io (l : Launch) {D : va_G} {ca : Nat → ClassId} {ad : Nat → Nat} (hI : Ij ad 18) {σ : Sg} {n p g rn : Nat} {d : Nat → Nat} {th rd : Nat → Nat → Nat} {sl sn : Nat → Nat} {sc : Nat → Nat → Int32} {ft tr : Int32} {k : Nat} {j v : Int32} (hJ : I2 n p g rn d th rd sl sn sc ft tr σ) (hk4 : k < 4) (hL : sl k < 3) (hjo : ∀ a, a < sn k → j ≠ nI a) : C2i l D ca ad yX7_put wsX7_put { frames := 2, cells := 0, slots := 0, locals := 42 } [.ref (ad 0), .int (nI k), .int j, .int v] σ (fun r σ' => r = (-10) - nI 3 ∧ I2 n p g rn d th rd sl sn sc (nI 3) tr σ') := by
  refine xk_entry cX7_put 4 (some .int) (by decide) rfl (Nat.le_of_ble_eq_true rfl) ?_
  intro pP eE sS mM below meth cC hx hb hml hr hts hown hlk hP hK hX hS ls hl
  have hl : lv_has ls 4 [(0, .ref (ad 0)), (1, .int (nI k)), (2, .int j), (3, .int v)] := hl
  obtain ⟨hT, hR, hRd, hSh, hnp, hft, htr⟩ := id hJ
  have hn5 := hT.2.2.1
  have hg9 := hT.2.2.2.1
  have hp6 := hR.2.1
  have hrn8 := hRd.2.1
  refine lv_aload_n hx hb dX7_put_0 rfl (lv_at hl 0 rfl) ?_
  refine lv_iconst (v := nI 0) hx hb dX7_put_1 (by decide) ?_
  refine xk_put hx hb hts (inX7_put_X7) tyX7 tyX7_ok nmX7 hown hK hI hP hS 0 (by omega) (ci := 7) e2_obj rfl 0 (by decide) (flX7_put_61 hts) rfl rfl (by decide +kernel) (Nat.le_of_ble_eq_true rfl) e2_loc (by rw [e2_obj]; simp [up]) dX7_put_2 (fun H locs hP hS => ?_)
  obtain ⟨σ0, hσ0⟩ : ∃ τ, τ = up σ 0 0 (nI 0) := ⟨_, rfl⟩
  rw [← hσ0] at hP
  have hJ0 : I2 n p g rn d th rd sl sn sc (nI 0) tr σ0 := by rw [hσ0]; exact I2_ft hJ
  obtain ⟨hT, hR, hRd, hSh, -, hft, htr⟩ := id hJ0
  have hZ := hSh k hk4
  have hz60 : sl k < 3 → sn k ≤ 60 := fun q => (hZ.2.2 q).2.1
  refine lv_iload_n hx hb dX7_put_5 rfl (lv_at hl 1 rfl) ?_
  refine xk_fi (va_runS (As := [.int (nI k)]) (rest := []) ⟨hx, hb, hml, hown, hts⟩ (k2_isSheet_t l hI (nI k) (xn_in (by omega) (by omega) (by omega))) (va_cwS 1 hts gX7_put_X7_isSheet rfl rfl rfl (by decide +kernel) ⟨Nat.le_of_ble_eq_true rfl, Nat.le_of_ble_eq_true rfl⟩) (xk_preS X2_ok hK hX hP) rfl rfl hl.1 rfl (lv_room (Nat.le_of_ble_eq_true rfl)) dX7_put_6 ⟨Nat.le_of_ble_eq_true rfl, Nat.le_of_ble_eq_true rfl⟩) hS (fun H locs hP hS => ?_)
  refine xn_zne (tgt := 14) hx hb dX7_put_9 (by decide) (by omega) (fun c_9 => ?_) (fun c_9 => absurd c_9 (by omega))
  refine lv_aload_n hx hb dX7_put_14 rfl (lv_at hl 0 rfl) ?_
  refine xk_get hx hb hts (inX7_put_X7) hown hK hP 0 (by omega) (ci := 7) e2_obj rfl 2 (by decide) (flX7_put_9 hts) rfl (.ref (ad 1)) rfl dX7_put_15 ?_
  refine lv_iload_n hx hb dX7_put_18 rfl (lv_at hl 1 rfl) ?_
  refine xk_iald hx hb hK hP 1 (by omega) (n := 4) (e2_row 4 (by decide) rfl) rfl k (by omega) (by decide) dX7_put_19 ?_
  refine xn_eqi (y := nI (sl k)) (hZ.1.trans (lz_lt hL)) ?_
  refine lv_bipush (v := (-9)) hx hb dX7_put_20 (by decide) ?_
  refine lv_icmp_ne (tgt := 31) hx hb dX7_put_22 (by decide) (fun c_22 => ?_) (fun c_22 => absurd c_22 (lz_ne hL))
  refine lv_iload_n hx hb dX7_put_31 rfl (lv_at hl 2 rfl) ?_
  refine lv_iconst (v := nI 0) hx hb dX7_put_32 (by decide) ?_
  refine lv_aload_n hx hb dX7_put_33 rfl (lv_at hl 0 rfl) ?_
  refine xk_get hx hb hts (inX7_put_X7) hown hK hP 0 (by omega) (ci := 7) e2_obj rfl 3 (by decide) (flX7_put_13 hts) rfl (.ref (ad 2)) rfl dX7_put_34 ?_
  refine lv_iload_n hx hb dX7_put_37 rfl (lv_at hl 1 rfl) ?_
  refine xk_iald hx hb hK hP 2 (by omega) (n := 4) (e2_row 4 (by decide) rfl) rfl k (by omega) (by decide) dX7_put_38 ?_
  refine xn_eqi (y := nI (sn k)) ((hZ.2.2 hL).1) ?_
  refine lv_iconst (v := nI 1) hx hb dX7_put_39 (by decide) ?_
  refine lv_isub hx hb dX7_put_40 ?_
  refine xk_fi (va_runS (As := [.int j, .int (nI 0), .int (nI (sn k) - nI 1)]) (rest := []) ⟨hx, hb, hml, hown, hts⟩ (k2_within_f l hI j (nI 0) (nI (sn k) - nI 1) (ix_no hjo (hz60 hL))) (va_cwS 3 hts gX7_put_X7_within rfl rfl rfl (by decide +kernel) ⟨Nat.le_of_ble_eq_true rfl, Nat.le_of_ble_eq_true rfl⟩) (xk_preS X2_ok hK hX hP) rfl rfl hl.1 rfl (lv_room (Nat.le_of_ble_eq_true rfl)) dX7_put_41 ⟨Nat.le_of_ble_eq_true rfl, Nat.le_of_ble_eq_true rfl⟩) hS (fun H locs hP hS => ?_)
  refine xn_zne (tgt := 53) hx hb dX7_put_44 (by decide) (by omega) (fun c_44 => absurd c_44 (by omega)) (fun c_44 => ?_)
  refine lv_aload_n hx hb dX7_put_47 rfl (lv_at hl 0 rfl) ?_
  refine lv_iconst (v := nI 3) hx hb dX7_put_48 (by decide) ?_
  refine xk_fi (va_runV (As := [.int (nI 3)]) (rest := []) ⟨hx, hb, hml, hown, hts⟩ (k2_fails l hI 3) (cwV 1 hts gX7_put_X7_fails rfl rfl rfl (by decide +kernel) ⟨Nat.le_of_ble_eq_true rfl, Nat.le_of_ble_eq_true rfl⟩) (xk_preV X2_ok hK hX hP (xk_recv hK hP 0 (by omega) (ci := 7) e2_obj rfl)) rfl rfl hl.1 rfl (lv_room (Nat.le_of_ble_eq_true rfl)) dX7_put_49 ⟨Nat.le_of_ble_eq_true rfl, Nat.le_of_ble_eq_true rfl⟩) hS (fun H locs hP hS => ?_)
  exact xk_iret hx hb hr (vp_nar_int _) X2_ok hK hX hP hS hlk dX7_put_52 (⟨rfl, I2_ft hJ0⟩)

set_option maxRecDepth 20000 in
theorem flX7_put_16 {s : State} {av : Array Value} (hts : ∀ w ∈ wsX7_put, w.before av s = true) : (Cond.fieldLink RX7 16 "WellBackModel" "cells" "[I").before av s = true := hts _ (by decide +kernel)
set_option maxHeartbeats 4000000 in
set_option maxRecDepth 100000 in
theorem a2_put_ok (l : Launch) {D : va_G} {ca : Nat → ClassId} {ad : Nat → Nat} (hI : Ij ad 18) {σ : Sg} {n p g rn : Nat} {d : Nat → Nat} {th rd : Nat → Nat → Nat} {sl sn : Nat → Nat} {sc : Nat → Nat → Int32} {ft tr : Int32} {k : Nat} {j : Nat} {v : Int32} (hJ : I2 n p g rn d th rd sl sn sc ft tr σ) (hk4 : k < 4) (hL : sl k < 3) (hjn : j < sn k) : C2i l D ca ad yX7_put wsX7_put { frames := 2, cells := 0, slots := 0, locals := 42 } [.ref (ad 0), .int (nI k), .int (nI j), .int v] σ (fun r σ' => r = nI 1 ∧ I2 n p g rn d th rd sl sn (us sc k (upd (sc k) j (cutI (sl k) v))) (nI 0) tr σ') := by
  refine xk_entry cX7_put 4 (some .int) (by decide) rfl (Nat.le_of_ble_eq_true rfl) ?_
  intro pP eE sS mM below meth cC hx hb hml hr hts hown hlk hP hK hX hS ls hl
  have hl : lv_has ls 4 [(0, .ref (ad 0)), (1, .int (nI k)), (2, .int (nI j)), (3, .int v)] := hl
  obtain ⟨hT, hR, hRd, hSh, hnp, hft, htr⟩ := id hJ
  have hn5 := hT.2.2.1
  have hg9 := hT.2.2.2.1
  have hp6 := hR.2.1
  have hrn8 := hRd.2.1
  refine lv_aload_n hx hb dX7_put_0 rfl (lv_at hl 0 rfl) ?_
  refine lv_iconst (v := nI 0) hx hb dX7_put_1 (by decide) ?_
  refine xk_put hx hb hts (inX7_put_X7) tyX7 tyX7_ok nmX7 hown hK hI hP hS 0 (by omega) (ci := 7) e2_obj rfl 0 (by decide) (flX7_put_61 hts) rfl rfl (by decide +kernel) (Nat.le_of_ble_eq_true rfl) e2_loc (by rw [e2_obj]; simp [up]) dX7_put_2 (fun H locs hP hS => ?_)
  obtain ⟨σ0, hσ0⟩ : ∃ τ, τ = up σ 0 0 (nI 0) := ⟨_, rfl⟩
  rw [← hσ0] at hP
  have hJ0 : I2 n p g rn d th rd sl sn sc (nI 0) tr σ0 := by rw [hσ0]; exact I2_ft hJ
  obtain ⟨hT, hR, hRd, hSh, -, hft, htr⟩ := id hJ0
  have hZ := hSh k hk4
  have hz60 : sl k < 3 → sn k ≤ 60 := fun q => (hZ.2.2 q).2.1
  refine lv_iload_n hx hb dX7_put_5 rfl (lv_at hl 1 rfl) ?_
  refine xk_fi (va_runS (As := [.int (nI k)]) (rest := []) ⟨hx, hb, hml, hown, hts⟩ (k2_isSheet_t l hI (nI k) (xn_in (by omega) (by omega) (by omega))) (va_cwS 1 hts gX7_put_X7_isSheet rfl rfl rfl (by decide +kernel) ⟨Nat.le_of_ble_eq_true rfl, Nat.le_of_ble_eq_true rfl⟩) (xk_preS X2_ok hK hX hP) rfl rfl hl.1 rfl (lv_room (Nat.le_of_ble_eq_true rfl)) dX7_put_6 ⟨Nat.le_of_ble_eq_true rfl, Nat.le_of_ble_eq_true rfl⟩) hS (fun H locs hP hS => ?_)
  refine xn_zne (tgt := 14) hx hb dX7_put_9 (by decide) (by omega) (fun c_9 => ?_) (fun c_9 => absurd c_9 (by omega))
  refine lv_aload_n hx hb dX7_put_14 rfl (lv_at hl 0 rfl) ?_
  refine xk_get hx hb hts (inX7_put_X7) hown hK hP 0 (by omega) (ci := 7) e2_obj rfl 2 (by decide) (flX7_put_9 hts) rfl (.ref (ad 1)) rfl dX7_put_15 ?_
  refine lv_iload_n hx hb dX7_put_18 rfl (lv_at hl 1 rfl) ?_
  refine xk_iald hx hb hK hP 1 (by omega) (n := 4) (e2_row 4 (by decide) rfl) rfl k (by omega) (by decide) dX7_put_19 ?_
  refine xn_eqi (y := nI (sl k)) (hZ.1.trans (lz_lt hL)) ?_
  refine lv_bipush (v := (-9)) hx hb dX7_put_20 (by decide) ?_
  refine lv_icmp_ne (tgt := 31) hx hb dX7_put_22 (by decide) (fun c_22 => ?_) (fun c_22 => absurd c_22 (lz_ne hL))
  refine lv_iload_n hx hb dX7_put_31 rfl (lv_at hl 2 rfl) ?_
  refine lv_iconst (v := nI 0) hx hb dX7_put_32 (by decide) ?_
  refine lv_aload_n hx hb dX7_put_33 rfl (lv_at hl 0 rfl) ?_
  refine xk_get hx hb hts (inX7_put_X7) hown hK hP 0 (by omega) (ci := 7) e2_obj rfl 3 (by decide) (flX7_put_13 hts) rfl (.ref (ad 2)) rfl dX7_put_34 ?_
  refine lv_iload_n hx hb dX7_put_37 rfl (lv_at hl 1 rfl) ?_
  refine xk_iald hx hb hK hP 2 (by omega) (n := 4) (e2_row 4 (by decide) rfl) rfl k (by omega) (by decide) dX7_put_38 ?_
  refine xn_eqi (y := nI (sn k)) ((hZ.2.2 hL).1) ?_
  refine lv_iconst (v := nI 1) hx hb dX7_put_39 (by decide) ?_
  refine lv_isub hx hb dX7_put_40 ?_
  refine xk_fi (va_runS (As := [.int (nI j), .int (nI 0), .int (nI (sn k) - nI 1)]) (rest := []) ⟨hx, hb, hml, hown, hts⟩ (k2_within_t l hI (nI j) (nI 0) (nI (sn k) - nI 1) (ix_yes hjn (hz60 hL))) (va_cwS 3 hts gX7_put_X7_within rfl rfl rfl (by decide +kernel) ⟨Nat.le_of_ble_eq_true rfl, Nat.le_of_ble_eq_true rfl⟩) (xk_preS X2_ok hK hX hP) rfl rfl hl.1 rfl (lv_room (Nat.le_of_ble_eq_true rfl)) dX7_put_41 ⟨Nat.le_of_ble_eq_true rfl, Nat.le_of_ble_eq_true rfl⟩) hS (fun H locs hP hS => ?_)
  refine xn_zne (tgt := 53) hx hb dX7_put_44 (by decide) (by omega) (fun c_44 => ?_) (fun c_44 => absurd c_44 (by omega))
  refine lv_aload_n hx hb dX7_put_53 rfl (lv_at hl 0 rfl) ?_
  refine xk_get hx hb hts (inX7_put_X7) hown hK hP 0 (by omega) (ci := 7) e2_obj rfl 4 (by decide) (flX7_put_16 hts) rfl (.ref (ad 3)) rfl dX7_put_54 ?_
  refine lv_bipush (v := nI 60) hx hb dX7_put_57 (by decide) ?_
  refine lv_iload_n hx hb dX7_put_59 rfl (lv_at hl 1 rfl) ?_
  refine xn_imul hx hb dX7_put_60 ?_
  refine lv_iload_n hx hb dX7_put_61 rfl (lv_at hl 2 rfl) ?_
  refine xn_iadd hx hb dX7_put_62 ?_
  refine lv_aload_n hx hb dX7_put_63 rfl (lv_at hl 0 rfl) ?_
  refine xk_get hx hb hts (inX7_put_X7) hown hK hP 0 (by omega) (ci := 7) e2_obj rfl 2 (by decide) (flX7_put_9 hts) rfl (.ref (ad 1)) rfl dX7_put_64 ?_
  refine lv_iload_n hx hb dX7_put_67 rfl (lv_at hl 1 rfl) ?_
  refine xk_iald hx hb hK hP 1 (by omega) (n := 4) (e2_row 4 (by decide) rfl) rfl k (by omega) (by decide) dX7_put_68 ?_
  refine xn_eqi (y := nI (sl k)) (hZ.1.trans (lz_lt hL)) ?_
  refine xn_zne (tgt := 77) hx hb dX7_put_69 (by decide) (by omega) (fun c_69 => ?_) (fun c_69 => ?_)
  · refine lv_aload_n hx hb dX7_put_77 rfl (lv_at hl 0 rfl) ?_
    refine xk_get hx hb hts (inX7_put_X7) hown hK hP 0 (by omega) (ci := 7) e2_obj rfl 2 (by decide) (flX7_put_9 hts) rfl (.ref (ad 1)) rfl dX7_put_78 ?_
    refine lv_iload_n hx hb dX7_put_81 rfl (lv_at hl 1 rfl) ?_
    refine xk_iald hx hb hK hP 1 (by omega) (n := 4) (e2_row 4 (by decide) rfl) rfl k (by omega) (by decide) dX7_put_82 ?_
    refine xn_eqi (y := nI (sl k)) (hZ.1.trans (lz_lt hL)) ?_
    refine lv_iconst (v := nI 1) hx hb dX7_put_83 (by decide) ?_
    refine xn_ine (tgt := 92) hx hb dX7_put_84 (by decide) (by omega) (by omega) (fun c_84 => ?_) (fun c_84 => ?_)
    · refine lv_iload_n hx hb dX7_put_92 rfl (lv_at hl 3 rfl) ?_
      refine xn_eqi (y := cutI (sl k) v) (by rw [cutI, if_neg c_69, if_neg c_84]) ?_
      refine xk_iast hx hb hK hI hP hS 3 (by omega) (n := 240) (fun τ => (e2_row 240 (by decide) rfl)) rfl ((60 * k) + j) (by omega) (by decide) e2_loc dX7_put_93 (fun H locs hP hS => ?_)
      refine lv_iconst (v := nI 1) hx hb dX7_put_94 (by decide) ?_
      exact xk_iret hx hb hr (vp_nar_int _) X2_ok hK hX hP hS hlk dX7_put_95 (⟨rfl, sh_put hJ0 hk4 hL hjn⟩)
    · refine lv_iload_n hx hb dX7_put_87 rfl (lv_at hl 3 rfl) ?_
      refine lv_i2s hx hb dX7_put_88 rfl ?_
      refine lv_goto (tgt := 93) hx hb dX7_put_89 (by decide) ?_
      refine xn_eqi (y := cutI (sl k) v) (by rw [cutI, if_neg c_69, if_pos c_84]) ?_
      refine xk_iast hx hb hK hI hP hS 3 (by omega) (n := 240) (fun τ => (e2_row 240 (by decide) rfl)) rfl ((60 * k) + j) (by omega) (by decide) e2_loc dX7_put_93 (fun H locs hP hS => ?_)
      refine lv_iconst (v := nI 1) hx hb dX7_put_94 (by decide) ?_
      exact xk_iret hx hb hr (vp_nar_int _) X2_ok hK hX hP hS hlk dX7_put_95 (⟨rfl, sh_put hJ0 hk4 hL hjn⟩)
  · refine lv_iload_n hx hb dX7_put_72 rfl (lv_at hl 3 rfl) ?_
    refine lv_i2b hx hb dX7_put_73 rfl ?_
    refine lv_goto (tgt := 93) hx hb dX7_put_74 (by decide) ?_
    refine xn_eqi (y := cutI (sl k) v) (by rw [cutI, if_pos c_69]) ?_
    refine xk_iast hx hb hK hI hP hS 3 (by omega) (n := 240) (fun τ => (e2_row 240 (by decide) rfl)) rfl ((60 * k) + j) (by omega) (by decide) e2_loc dX7_put_93 (fun H locs hP hS => ?_)
    refine lv_iconst (v := nI 1) hx hb dX7_put_94 (by decide) ?_
    exact xk_iret hx hb hr (vp_nar_int _) X2_ok hK hX hP hS hlk dX7_put_95 (⟨rfl, sh_put hJ0 hk4 hL hjn⟩)

set_option maxRecDepth 20000 in
theorem flX7_cell_61 {s : State} {av : Array Value} (hts : ∀ w ∈ wsX7_cell, w.before av s = true) : (Cond.fieldLink RX7 61 "WellBackModel" "fault" "I").before av s = true := hts _ (by decide +kernel)
set_option maxRecDepth 20000 in
theorem inX7_cell_X7 : ∀ w ∈ u_ws RX7 TX7 30, w ∈ wsX7_cell := by decide +kernel
set_option maxHeartbeats 4000000 in
set_option maxRecDepth 100000 in
theorem a2_cell_so (l : Launch) {D : va_G} {ca : Nat → ClassId} {ad : Nat → Nat} (hI : Ij ad 18) {σ : Sg} {n p g rn : Nat} {d : Nat → Nat} {th rd : Nat → Nat → Nat} {sl sn : Nat → Nat} {sc : Nat → Nat → Int32} {ft tr : Int32} {k : Int32} {j w : Int32} (hJ : I2 n p g rn d th rd sl sn sc ft tr σ) (hko : ∀ j, j < 4 → k ≠ nI j) : C2l l D ca ad yX7_cell wsX7_cell { frames := 2, cells := 0, slots := 0, locals := 42 } [.ref (ad 0), .int k, .int j, .int w] σ (fun r σ' => r = (-9223372036854775808) ∧ I2 n p g rn d th rd sl sn sc (nI 0) tr σ') := by
  refine xk_entry cX7_cell 4 (some .long) (by decide) rfl (Nat.le_of_ble_eq_true rfl) ?_
  intro pP eE sS mM below meth cC hx hb hml hr hts hown hlk hP hK hX hS ls hl
  have hl : lv_has ls 4 [(0, .ref (ad 0)), (1, .int k), (2, .int j), (3, .int w)] := hl
  obtain ⟨hT, hR, hRd, hSh, hnp, hft, htr⟩ := id hJ
  have hn5 := hT.2.2.1
  have hg9 := hT.2.2.2.1
  have hp6 := hR.2.1
  have hrn8 := hRd.2.1
  refine lv_aload_n hx hb dX7_cell_0 rfl (lv_at hl 0 rfl) ?_
  refine lv_iconst (v := nI 0) hx hb dX7_cell_1 (by decide) ?_
  refine xk_put hx hb hts (inX7_cell_X7) tyX7 tyX7_ok nmX7 hown hK hI hP hS 0 (by omega) (ci := 7) e2_obj rfl 0 (by decide) (flX7_cell_61 hts) rfl rfl (by decide +kernel) (Nat.le_of_ble_eq_true rfl) e2_loc (by rw [e2_obj]; simp [up]) dX7_cell_2 (fun H locs hP hS => ?_)
  obtain ⟨σ0, hσ0⟩ : ∃ τ, τ = up σ 0 0 (nI 0) := ⟨_, rfl⟩
  rw [← hσ0] at hP
  have hJ0 : I2 n p g rn d th rd sl sn sc (nI 0) tr σ0 := by rw [hσ0]; exact I2_ft hJ
  obtain ⟨hT, hR, hRd, hSh, -, hft, htr⟩ := id hJ0
  refine lv_iload_n hx hb dX7_cell_5 rfl (lv_at hl 1 rfl) ?_
  refine xk_fi (va_runS (As := [.int k]) (rest := []) ⟨hx, hb, hml, hown, hts⟩ (k2_isSheet_f l hI k (fun q => by obtain ⟨w, h1, h2, h3⟩ := xn_rng (by omega) q; exact hko w (by omega) h3)) (va_cwS 1 hts gX7_cell_X7_isSheet rfl rfl rfl (by decide +kernel) ⟨Nat.le_of_ble_eq_true rfl, Nat.le_of_ble_eq_true rfl⟩) (xk_preS X2_ok hK hX hP) rfl rfl hl.1 rfl (lv_room (Nat.le_of_ble_eq_true rfl)) dX7_cell_6 ⟨Nat.le_of_ble_eq_true rfl, Nat.le_of_ble_eq_true rfl⟩) hS (fun H locs hP hS => ?_)
  refine xn_zeq (tgt := 19) hx hb dX7_cell_9 (by decide) (by omega) (fun c_9 => ?_) (fun c_9 => absurd c_9 (by omega))
  refine lv_ldc2 (v := (-9223372036854775808)) hx hb hown (hts (.constantLong RX7 65 (-9223372036854775808)) (by decide +kernel)) dX7_cell_19 ?_
  exact xk_lret hx hb hr X2_ok hK hX hP hS hlk dX7_cell_22 (⟨rfl, hJ0⟩)

set_option maxHeartbeats 4000000 in
set_option maxRecDepth 100000 in
theorem a2_cell_lo (l : Launch) {D : va_G} {ca : Nat → ClassId} {ad : Nat → Nat} (hI : Ij ad 18) {σ : Sg} {n p g rn : Nat} {d : Nat → Nat} {th rd : Nat → Nat → Nat} {sl sn : Nat → Nat} {sc : Nat → Nat → Int32} {ft tr : Int32} {k : Nat} {j w : Int32} (hJ : I2 n p g rn d th rd sl sn sc ft tr σ) (hk4 : k < 4) (hwo : ¬ (nI 0 ≤ w ∧ w ≤ nI 2)) : C2l l D ca ad yX7_cell wsX7_cell { frames := 2, cells := 0, slots := 0, locals := 42 } [.ref (ad 0), .int (nI k), .int j, .int w] σ (fun r σ' => r = (-9223372036854775808) ∧ I2 n p g rn d th rd sl sn sc (nI 0) tr σ') := by
  refine xk_entry cX7_cell 4 (some .long) (by decide) rfl (Nat.le_of_ble_eq_true rfl) ?_
  intro pP eE sS mM below meth cC hx hb hml hr hts hown hlk hP hK hX hS ls hl
  have hl : lv_has ls 4 [(0, .ref (ad 0)), (1, .int (nI k)), (2, .int j), (3, .int w)] := hl
  obtain ⟨hT, hR, hRd, hSh, hnp, hft, htr⟩ := id hJ
  have hn5 := hT.2.2.1
  have hg9 := hT.2.2.2.1
  have hp6 := hR.2.1
  have hrn8 := hRd.2.1
  refine lv_aload_n hx hb dX7_cell_0 rfl (lv_at hl 0 rfl) ?_
  refine lv_iconst (v := nI 0) hx hb dX7_cell_1 (by decide) ?_
  refine xk_put hx hb hts (inX7_cell_X7) tyX7 tyX7_ok nmX7 hown hK hI hP hS 0 (by omega) (ci := 7) e2_obj rfl 0 (by decide) (flX7_cell_61 hts) rfl rfl (by decide +kernel) (Nat.le_of_ble_eq_true rfl) e2_loc (by rw [e2_obj]; simp [up]) dX7_cell_2 (fun H locs hP hS => ?_)
  obtain ⟨σ0, hσ0⟩ : ∃ τ, τ = up σ 0 0 (nI 0) := ⟨_, rfl⟩
  rw [← hσ0] at hP
  have hJ0 : I2 n p g rn d th rd sl sn sc (nI 0) tr σ0 := by rw [hσ0]; exact I2_ft hJ
  obtain ⟨hT, hR, hRd, hSh, -, hft, htr⟩ := id hJ0
  have hZ := hSh k hk4
  have hz60 : sl k < 3 → sn k ≤ 60 := fun q => (hZ.2.2 q).2.1
  refine lv_iload_n hx hb dX7_cell_5 rfl (lv_at hl 1 rfl) ?_
  refine xk_fi (va_runS (As := [.int (nI k)]) (rest := []) ⟨hx, hb, hml, hown, hts⟩ (k2_isSheet_t l hI (nI k) (xn_in (by omega) (by omega) (by omega))) (va_cwS 1 hts gX7_cell_X7_isSheet rfl rfl rfl (by decide +kernel) ⟨Nat.le_of_ble_eq_true rfl, Nat.le_of_ble_eq_true rfl⟩) (xk_preS X2_ok hK hX hP) rfl rfl hl.1 rfl (lv_room (Nat.le_of_ble_eq_true rfl)) dX7_cell_6 ⟨Nat.le_of_ble_eq_true rfl, Nat.le_of_ble_eq_true rfl⟩) hS (fun H locs hP hS => ?_)
  refine xn_zeq (tgt := 19) hx hb dX7_cell_9 (by decide) (by omega) (fun c_9 => absurd c_9 (by omega)) (fun c_9 => ?_)
  refine lv_iload_n hx hb dX7_cell_12 rfl (lv_at hl 3 rfl) ?_
  refine xk_fi (va_runS (As := [.int w]) (rest := []) ⟨hx, hb, hml, hown, hts⟩ (k2_isSort_f l hI w (by assumption)) (va_cwS 1 hts gX7_cell_X7_isSort rfl rfl rfl (by decide +kernel) ⟨Nat.le_of_ble_eq_true rfl, Nat.le_of_ble_eq_true rfl⟩) (xk_preS X2_ok hK hX hP) rfl rfl hl.1 rfl (lv_room (Nat.le_of_ble_eq_true rfl)) dX7_cell_13 ⟨Nat.le_of_ble_eq_true rfl, Nat.le_of_ble_eq_true rfl⟩) hS (fun H locs hP hS => ?_)
  refine xn_zne (tgt := 23) hx hb dX7_cell_16 (by decide) (by omega) (fun c_16 => absurd c_16 (by omega)) (fun c_16 => ?_)
  refine lv_ldc2 (v := (-9223372036854775808)) hx hb hown (hts (.constantLong RX7 65 (-9223372036854775808)) (by decide +kernel)) dX7_cell_19 ?_
  exact xk_lret hx hb hr X2_ok hK hX hP hS hlk dX7_cell_22 (⟨rfl, hJ0⟩)

set_option maxRecDepth 20000 in
theorem flX7_cell_9 {s : State} {av : Array Value} (hts : ∀ w ∈ wsX7_cell, w.before av s = true) : (Cond.fieldLink RX7 9 "WellBackModel" "sorts" "[I").before av s = true := hts _ (by decide +kernel)
set_option maxHeartbeats 4000000 in
set_option maxRecDepth 100000 in
theorem a2_cell_fl (l : Launch) {D : va_G} {ca : Nat → ClassId} {ad : Nat → Nat} (hI : Ij ad 18) {σ : Sg} {n p g rn : Nat} {d : Nat → Nat} {th rd : Nat → Nat → Nat} {sl sn : Nat → Nat} {sc : Nat → Nat → Int32} {ft tr : Int32} {k : Nat} {j : Int32} {w : Nat} (hJ : I2 n p g rn d th rd sl sn sc ft tr σ) (hk4 : k < 4) (hw2 : w ≤ 2) (hf : fL (sl k) w ≠ 0) : C2l l D ca ad yX7_cell wsX7_cell { frames := 2, cells := 0, slots := 0, locals := 42 } [.ref (ad 0), .int (nI k), .int j, .int (nI w)] σ (fun r σ' => r = (-9223372036854775808) ∧ I2 n p g rn d th rd sl sn sc (nI (fL (sl k) w)) tr σ') := by
  refine xk_entry cX7_cell 4 (some .long) (by decide) rfl (Nat.le_of_ble_eq_true rfl) ?_
  intro pP eE sS mM below meth cC hx hb hml hr hts hown hlk hP hK hX hS ls hl
  have hl : lv_has ls 4 [(0, .ref (ad 0)), (1, .int (nI k)), (2, .int j), (3, .int (nI w))] := hl
  obtain ⟨hT, hR, hRd, hSh, hnp, hft, htr⟩ := id hJ
  have hn5 := hT.2.2.1
  have hg9 := hT.2.2.2.1
  have hp6 := hR.2.1
  have hrn8 := hRd.2.1
  refine lv_aload_n hx hb dX7_cell_0 rfl (lv_at hl 0 rfl) ?_
  refine lv_iconst (v := nI 0) hx hb dX7_cell_1 (by decide) ?_
  refine xk_put hx hb hts (inX7_cell_X7) tyX7 tyX7_ok nmX7 hown hK hI hP hS 0 (by omega) (ci := 7) e2_obj rfl 0 (by decide) (flX7_cell_61 hts) rfl rfl (by decide +kernel) (Nat.le_of_ble_eq_true rfl) e2_loc (by rw [e2_obj]; simp [up]) dX7_cell_2 (fun H locs hP hS => ?_)
  obtain ⟨σ0, hσ0⟩ : ∃ τ, τ = up σ 0 0 (nI 0) := ⟨_, rfl⟩
  rw [← hσ0] at hP
  have hJ0 : I2 n p g rn d th rd sl sn sc (nI 0) tr σ0 := by rw [hσ0]; exact I2_ft hJ
  obtain ⟨hT, hR, hRd, hSh, -, hft, htr⟩ := id hJ0
  have hZ := hSh k hk4
  have hz60 : sl k < 3 → sn k ≤ 60 := fun q => (hZ.2.2 q).2.1
  refine lv_iload_n hx hb dX7_cell_5 rfl (lv_at hl 1 rfl) ?_
  refine xk_fi (va_runS (As := [.int (nI k)]) (rest := []) ⟨hx, hb, hml, hown, hts⟩ (k2_isSheet_t l hI (nI k) (xn_in (by omega) (by omega) (by omega))) (va_cwS 1 hts gX7_cell_X7_isSheet rfl rfl rfl (by decide +kernel) ⟨Nat.le_of_ble_eq_true rfl, Nat.le_of_ble_eq_true rfl⟩) (xk_preS X2_ok hK hX hP) rfl rfl hl.1 rfl (lv_room (Nat.le_of_ble_eq_true rfl)) dX7_cell_6 ⟨Nat.le_of_ble_eq_true rfl, Nat.le_of_ble_eq_true rfl⟩) hS (fun H locs hP hS => ?_)
  refine xn_zeq (tgt := 19) hx hb dX7_cell_9 (by decide) (by omega) (fun c_9 => absurd c_9 (by omega)) (fun c_9 => ?_)
  refine lv_iload_n hx hb dX7_cell_12 rfl (lv_at hl 3 rfl) ?_
  refine xk_fi (va_runS (As := [.int (nI w)]) (rest := []) ⟨hx, hb, hml, hown, hts⟩ (k2_isSort_t l hI (nI w) (xn_in (by omega) (by omega) (by omega))) (va_cwS 1 hts gX7_cell_X7_isSort rfl rfl rfl (by decide +kernel) ⟨Nat.le_of_ble_eq_true rfl, Nat.le_of_ble_eq_true rfl⟩) (xk_preS X2_ok hK hX hP) rfl rfl hl.1 rfl (lv_room (Nat.le_of_ble_eq_true rfl)) dX7_cell_13 ⟨Nat.le_of_ble_eq_true rfl, Nat.le_of_ble_eq_true rfl⟩) hS (fun H locs hP hS => ?_)
  refine xn_zne (tgt := 23) hx hb dX7_cell_16 (by decide) (by omega) (fun c_16 => ?_) (fun c_16 => absurd c_16 (by omega))
  by_cases q3 : sl k = 3
  · refine lv_aload_n hx hb dX7_cell_23 rfl (lv_at hl 0 rfl) ?_
    refine xk_get hx hb hts (inX7_cell_X7) hown hK hP 0 (by omega) (ci := 7) e2_obj rfl 2 (by decide) (flX7_cell_9 hts) rfl (.ref (ad 1)) rfl dX7_cell_24 ?_
    refine lv_iload_n hx hb dX7_cell_27 rfl (lv_at hl 1 rfl) ?_
    refine xk_iald hx hb hK hP 1 (by omega) (n := 4) (e2_row 4 (by decide) rfl) rfl k (by omega) (by decide) dX7_cell_28 ?_
    refine xn_eqi (y := (-9)) (hZ.1.trans (by rw [q3]; rfl)) ?_
    refine lv_bipush (v := (-9)) hx hb dX7_cell_29 (by decide) ?_
    refine lv_icmp_eq (tgt := 50) hx hb dX7_cell_31 (by decide) (fun c_31 => ?_) (fun c_31 => absurd rfl c_31)
    refine lv_aload_n hx hb dX7_cell_50 rfl (lv_at hl 0 rfl) ?_
    refine xk_get hx hb hts (inX7_cell_X7) hown hK hP 0 (by omega) (ci := 7) e2_obj rfl 2 (by decide) (flX7_cell_9 hts) rfl (.ref (ad 1)) rfl dX7_cell_51 ?_
    refine lv_iload_n hx hb dX7_cell_54 rfl (lv_at hl 1 rfl) ?_
    refine xk_iald hx hb hK hP 1 (by omega) (n := 4) (e2_row 4 (by decide) rfl) rfl k (by omega) (by decide) dX7_cell_55 ?_
    refine xn_eqi (y := (-9)) (hZ.1.trans (by rw [q3]; rfl)) ?_
    refine lv_bipush (v := (-9)) hx hb dX7_cell_56 (by decide) ?_
    refine lv_icmp_ne (tgt := 67) hx hb dX7_cell_58 (by decide) (fun c_58 => absurd rfl c_58) (fun c_58 => ?_)
    refine lv_aload_n hx hb dX7_cell_61 rfl (lv_at hl 0 rfl) ?_
    refine lv_iconst (v := nI 1) hx hb dX7_cell_62 (by decide) ?_
    refine xk_fl (va_runV (As := [.int (nI 1)]) (rest := []) ⟨hx, hb, hml, hown, hts⟩ (k2_lost l hI 1) (cwV 1 hts gX7_cell_X7_lost rfl rfl rfl (by decide +kernel) ⟨Nat.le_of_ble_eq_true rfl, Nat.le_of_ble_eq_true rfl⟩) (xk_preV X2_ok hK hX hP (xk_recv hK hP 0 (by omega) (ci := 7) e2_obj rfl)) rfl rfl hl.1 rfl (lv_room (Nat.le_of_ble_eq_true rfl)) dX7_cell_63 ⟨Nat.le_of_ble_eq_true rfl, Nat.le_of_ble_eq_true rfl⟩) hS (fun H locs hP hS => ?_)
    exact xk_lret hx hb hr X2_ok hK hX hP hS hlk dX7_cell_66 (⟨rfl, by rw [show fL (sl k) w = 1 by rw [fL, if_pos q3]]; exact I2_ft hJ0⟩)
  · have hL : sl k < 3 := by have := hZ.2.1; omega
    have hnw : ¬ sl k = w := fun z => hf (by rw [fL, if_neg q3, if_pos z])
    refine lv_aload_n hx hb dX7_cell_23 rfl (lv_at hl 0 rfl) ?_
    refine xk_get hx hb hts (inX7_cell_X7) hown hK hP 0 (by omega) (ci := 7) e2_obj rfl 2 (by decide) (flX7_cell_9 hts) rfl (.ref (ad 1)) rfl dX7_cell_24 ?_
    refine lv_iload_n hx hb dX7_cell_27 rfl (lv_at hl 1 rfl) ?_
    refine xk_iald hx hb hK hP 1 (by omega) (n := 4) (e2_row 4 (by decide) rfl) rfl k (by omega) (by decide) dX7_cell_28 ?_
    refine xn_eqi (y := nI (sl k)) (hZ.1.trans (lz_lt hL)) ?_
    refine lv_bipush (v := (-9)) hx hb dX7_cell_29 (by decide) ?_
    refine lv_icmp_eq (tgt := 50) hx hb dX7_cell_31 (by decide) (fun c_31 => absurd c_31 (lz_ne hL)) (fun c_31 => ?_)
    refine lv_aload_n hx hb dX7_cell_34 rfl (lv_at hl 0 rfl) ?_
    refine xk_get hx hb hts (inX7_cell_X7) hown hK hP 0 (by omega) (ci := 7) e2_obj rfl 2 (by decide) (flX7_cell_9 hts) rfl (.ref (ad 1)) rfl dX7_cell_35 ?_
    refine lv_iload_n hx hb dX7_cell_38 rfl (lv_at hl 1 rfl) ?_
    refine xk_iald hx hb hK hP 1 (by omega) (n := 4) (e2_row 4 (by decide) rfl) rfl k (by omega) (by decide) dX7_cell_39 ?_
    refine xn_eqi (y := nI (sl k)) (hZ.1.trans (lz_lt hL)) ?_
    refine lv_iload_n hx hb dX7_cell_40 rfl (lv_at hl 3 rfl) ?_
    refine xn_ieq (tgt := 50) hx hb dX7_cell_41 (by decide) (by omega) (by omega) (fun c_41 => absurd c_41 (by omega)) (fun c_41 => ?_)
    refine lv_aload_n hx hb dX7_cell_44 rfl (lv_at hl 0 rfl) ?_
    refine lv_iconst (v := nI 2) hx hb dX7_cell_45 (by decide) ?_
    refine xk_fl (va_runV (As := [.int (nI 2)]) (rest := []) ⟨hx, hb, hml, hown, hts⟩ (k2_lost l hI 2) (cwV 1 hts gX7_cell_X7_lost rfl rfl rfl (by decide +kernel) ⟨Nat.le_of_ble_eq_true rfl, Nat.le_of_ble_eq_true rfl⟩) (xk_preV X2_ok hK hX hP (xk_recv hK hP 0 (by omega) (ci := 7) e2_obj rfl)) rfl rfl hl.1 rfl (lv_room (Nat.le_of_ble_eq_true rfl)) dX7_cell_46 ⟨Nat.le_of_ble_eq_true rfl, Nat.le_of_ble_eq_true rfl⟩) hS (fun H locs hP hS => ?_)
    exact xk_lret hx hb hr X2_ok hK hX hP hS hlk dX7_cell_49 (⟨rfl, by rw [show fL (sl k) w = 2 by rw [fL, if_neg q3, if_neg hnw]]; exact I2_ft hJ0⟩)

set_option maxRecDepth 20000 in
theorem flX7_cell_13 {s : State} {av : Array Value} (hts : ∀ w ∈ wsX7_cell, w.before av s = true) : (Cond.fieldLink RX7 13 "WellBackModel" "sheetLong" "[I").before av s = true := hts _ (by decide +kernel)
set_option maxHeartbeats 4000000 in
set_option maxRecDepth 100000 in
theorem a2_cell_io (l : Launch) {D : va_G} {ca : Nat → ClassId} {ad : Nat → Nat} (hI : Ij ad 18) {σ : Sg} {n p g rn : Nat} {d : Nat → Nat} {th rd : Nat → Nat → Nat} {sl sn : Nat → Nat} {sc : Nat → Nat → Int32} {ft tr : Int32} {k : Nat} {j : Int32} {w : Nat} (hJ : I2 n p g rn d th rd sl sn sc ft tr σ) (hk4 : k < 4) (hw2 : w ≤ 2) (hLw : sl k = w) (hjo : ∀ a, a < sn k → j ≠ nI a) : C2l l D ca ad yX7_cell wsX7_cell { frames := 2, cells := 0, slots := 0, locals := 42 } [.ref (ad 0), .int (nI k), .int j, .int (nI w)] σ (fun r σ' => r = (-9223372036854775808) ∧ I2 n p g rn d th rd sl sn sc (nI 3) tr σ') := by
  refine xk_entry cX7_cell 4 (some .long) (by decide) rfl (Nat.le_of_ble_eq_true rfl) ?_
  intro pP eE sS mM below meth cC hx hb hml hr hts hown hlk hP hK hX hS ls hl
  have hl : lv_has ls 4 [(0, .ref (ad 0)), (1, .int (nI k)), (2, .int j), (3, .int (nI w))] := hl
  obtain ⟨hT, hR, hRd, hSh, hnp, hft, htr⟩ := id hJ
  have hn5 := hT.2.2.1
  have hg9 := hT.2.2.2.1
  have hp6 := hR.2.1
  have hrn8 := hRd.2.1
  refine lv_aload_n hx hb dX7_cell_0 rfl (lv_at hl 0 rfl) ?_
  refine lv_iconst (v := nI 0) hx hb dX7_cell_1 (by decide) ?_
  refine xk_put hx hb hts (inX7_cell_X7) tyX7 tyX7_ok nmX7 hown hK hI hP hS 0 (by omega) (ci := 7) e2_obj rfl 0 (by decide) (flX7_cell_61 hts) rfl rfl (by decide +kernel) (Nat.le_of_ble_eq_true rfl) e2_loc (by rw [e2_obj]; simp [up]) dX7_cell_2 (fun H locs hP hS => ?_)
  obtain ⟨σ0, hσ0⟩ : ∃ τ, τ = up σ 0 0 (nI 0) := ⟨_, rfl⟩
  rw [← hσ0] at hP
  have hJ0 : I2 n p g rn d th rd sl sn sc (nI 0) tr σ0 := by rw [hσ0]; exact I2_ft hJ
  obtain ⟨hT, hR, hRd, hSh, -, hft, htr⟩ := id hJ0
  have hZ := hSh k hk4
  have hz60 : sl k < 3 → sn k ≤ 60 := fun q => (hZ.2.2 q).2.1
  have hL : sl k < 3 := by omega
  have hL60 := hz60 hL
  refine lv_iload_n hx hb dX7_cell_5 rfl (lv_at hl 1 rfl) ?_
  refine xk_fi (va_runS (As := [.int (nI k)]) (rest := []) ⟨hx, hb, hml, hown, hts⟩ (k2_isSheet_t l hI (nI k) (xn_in (by omega) (by omega) (by omega))) (va_cwS 1 hts gX7_cell_X7_isSheet rfl rfl rfl (by decide +kernel) ⟨Nat.le_of_ble_eq_true rfl, Nat.le_of_ble_eq_true rfl⟩) (xk_preS X2_ok hK hX hP) rfl rfl hl.1 rfl (lv_room (Nat.le_of_ble_eq_true rfl)) dX7_cell_6 ⟨Nat.le_of_ble_eq_true rfl, Nat.le_of_ble_eq_true rfl⟩) hS (fun H locs hP hS => ?_)
  refine xn_zeq (tgt := 19) hx hb dX7_cell_9 (by decide) (by omega) (fun c_9 => absurd c_9 (by omega)) (fun c_9 => ?_)
  refine lv_iload_n hx hb dX7_cell_12 rfl (lv_at hl 3 rfl) ?_
  refine xk_fi (va_runS (As := [.int (nI w)]) (rest := []) ⟨hx, hb, hml, hown, hts⟩ (k2_isSort_t l hI (nI w) (xn_in (by omega) (by omega) (by omega))) (va_cwS 1 hts gX7_cell_X7_isSort rfl rfl rfl (by decide +kernel) ⟨Nat.le_of_ble_eq_true rfl, Nat.le_of_ble_eq_true rfl⟩) (xk_preS X2_ok hK hX hP) rfl rfl hl.1 rfl (lv_room (Nat.le_of_ble_eq_true rfl)) dX7_cell_13 ⟨Nat.le_of_ble_eq_true rfl, Nat.le_of_ble_eq_true rfl⟩) hS (fun H locs hP hS => ?_)
  refine xn_zne (tgt := 23) hx hb dX7_cell_16 (by decide) (by omega) (fun c_16 => ?_) (fun c_16 => absurd c_16 (by omega))
  refine lv_aload_n hx hb dX7_cell_23 rfl (lv_at hl 0 rfl) ?_
  refine xk_get hx hb hts (inX7_cell_X7) hown hK hP 0 (by omega) (ci := 7) e2_obj rfl 2 (by decide) (flX7_cell_9 hts) rfl (.ref (ad 1)) rfl dX7_cell_24 ?_
  refine lv_iload_n hx hb dX7_cell_27 rfl (lv_at hl 1 rfl) ?_
  refine xk_iald hx hb hK hP 1 (by omega) (n := 4) (e2_row 4 (by decide) rfl) rfl k (by omega) (by decide) dX7_cell_28 ?_
  refine xn_eqi (y := nI (sl k)) (hZ.1.trans (lz_lt hL)) ?_
  refine lv_bipush (v := (-9)) hx hb dX7_cell_29 (by decide) ?_
  refine lv_icmp_eq (tgt := 50) hx hb dX7_cell_31 (by decide) (fun c_31 => absurd c_31 (lz_ne hL)) (fun c_31 => ?_)
  refine lv_aload_n hx hb dX7_cell_34 rfl (lv_at hl 0 rfl) ?_
  refine xk_get hx hb hts (inX7_cell_X7) hown hK hP 0 (by omega) (ci := 7) e2_obj rfl 2 (by decide) (flX7_cell_9 hts) rfl (.ref (ad 1)) rfl dX7_cell_35 ?_
  refine lv_iload_n hx hb dX7_cell_38 rfl (lv_at hl 1 rfl) ?_
  refine xk_iald hx hb hK hP 1 (by omega) (n := 4) (e2_row 4 (by decide) rfl) rfl k (by omega) (by decide) dX7_cell_39 ?_
  refine xn_eqi (y := nI (sl k)) (hZ.1.trans (lz_lt hL)) ?_
  refine lv_iload_n hx hb dX7_cell_40 rfl (lv_at hl 3 rfl) ?_
  refine xn_ieq (tgt := 50) hx hb dX7_cell_41 (by decide) (by omega) (by omega) (fun c_41 => ?_) (fun c_41 => absurd c_41 (by omega))
  refine lv_aload_n hx hb dX7_cell_50 rfl (lv_at hl 0 rfl) ?_
  refine xk_get hx hb hts (inX7_cell_X7) hown hK hP 0 (by omega) (ci := 7) e2_obj rfl 2 (by decide) (flX7_cell_9 hts) rfl (.ref (ad 1)) rfl dX7_cell_51 ?_
  refine lv_iload_n hx hb dX7_cell_54 rfl (lv_at hl 1 rfl) ?_
  refine xk_iald hx hb hK hP 1 (by omega) (n := 4) (e2_row 4 (by decide) rfl) rfl k (by omega) (by decide) dX7_cell_55 ?_
  refine xn_eqi (y := nI (sl k)) (hZ.1.trans (lz_lt hL)) ?_
  refine lv_bipush (v := (-9)) hx hb dX7_cell_56 (by decide) ?_
  refine lv_icmp_ne (tgt := 67) hx hb dX7_cell_58 (by decide) (fun c_58 => ?_) (fun c_58 => absurd c_58 (lz_ne hL))
  refine lv_iload_n hx hb dX7_cell_67 rfl (lv_at hl 2 rfl) ?_
  refine lv_iconst (v := nI 0) hx hb dX7_cell_68 (by decide) ?_
  refine lv_aload_n hx hb dX7_cell_69 rfl (lv_at hl 0 rfl) ?_
  refine xk_get hx hb hts (inX7_cell_X7) hown hK hP 0 (by omega) (ci := 7) e2_obj rfl 3 (by decide) (flX7_cell_13 hts) rfl (.ref (ad 2)) rfl dX7_cell_70 ?_
  refine lv_iload_n hx hb dX7_cell_73 rfl (lv_at hl 1 rfl) ?_
  refine xk_iald hx hb hK hP 2 (by omega) (n := 4) (e2_row 4 (by decide) rfl) rfl k (by omega) (by decide) dX7_cell_74 ?_
  refine xn_eqi (y := nI (sn k)) ((hZ.2.2 hL).1) ?_
  refine lv_iconst (v := nI 1) hx hb dX7_cell_75 (by decide) ?_
  refine lv_isub hx hb dX7_cell_76 ?_
  refine xk_fi (va_runS (As := [.int j, .int (nI 0), .int (nI (sn k) - nI 1)]) (rest := []) ⟨hx, hb, hml, hown, hts⟩ (k2_within_f l hI j (nI 0) (nI (sn k) - nI 1) (ix_no hjo (hz60 hL))) (va_cwS 3 hts gX7_cell_X7_within rfl rfl rfl (by decide +kernel) ⟨Nat.le_of_ble_eq_true rfl, Nat.le_of_ble_eq_true rfl⟩) (xk_preS X2_ok hK hX hP) rfl rfl hl.1 rfl (lv_room (Nat.le_of_ble_eq_true rfl)) dX7_cell_77 ⟨Nat.le_of_ble_eq_true rfl, Nat.le_of_ble_eq_true rfl⟩) hS (fun H locs hP hS => ?_)
  refine xn_zne (tgt := 89) hx hb dX7_cell_80 (by decide) (by omega) (fun c_80 => absurd c_80 (by omega)) (fun c_80 => ?_)
  refine lv_aload_n hx hb dX7_cell_83 rfl (lv_at hl 0 rfl) ?_
  refine lv_iconst (v := nI 3) hx hb dX7_cell_84 (by decide) ?_
  refine xk_fl (va_runV (As := [.int (nI 3)]) (rest := []) ⟨hx, hb, hml, hown, hts⟩ (k2_lost l hI 3) (cwV 1 hts gX7_cell_X7_lost rfl rfl rfl (by decide +kernel) ⟨Nat.le_of_ble_eq_true rfl, Nat.le_of_ble_eq_true rfl⟩) (xk_preV X2_ok hK hX hP (xk_recv hK hP 0 (by omega) (ci := 7) e2_obj rfl)) rfl rfl hl.1 rfl (lv_room (Nat.le_of_ble_eq_true rfl)) dX7_cell_85 ⟨Nat.le_of_ble_eq_true rfl, Nat.le_of_ble_eq_true rfl⟩) hS (fun H locs hP hS => ?_)
  exact xk_lret hx hb hr X2_ok hK hX hP hS hlk dX7_cell_88 (⟨rfl, I2_ft hJ0⟩)

set_option maxRecDepth 20000 in
theorem flX7_cell_16 {s : State} {av : Array Value} (hts : ∀ w ∈ wsX7_cell, w.before av s = true) : (Cond.fieldLink RX7 16 "WellBackModel" "cells" "[I").before av s = true := hts _ (by decide +kernel)
set_option maxHeartbeats 4000000 in
set_option maxRecDepth 100000 in
theorem a2_cell_ok (l : Launch) {D : va_G} {ca : Nat → ClassId} {ad : Nat → Nat} (hI : Ij ad 18) {σ : Sg} {n p g rn : Nat} {d : Nat → Nat} {th rd : Nat → Nat → Nat} {sl sn : Nat → Nat} {sc : Nat → Nat → Int32} {ft tr : Int32} {k : Nat} {j : Nat} {w : Nat} (hJ : I2 n p g rn d th rd sl sn sc ft tr σ) (hk4 : k < 4) (hw2 : w ≤ 2) (hLw : sl k = w) (hjn : j < sn k) : C2l l D ca ad yX7_cell wsX7_cell { frames := 2, cells := 0, slots := 0, locals := 42 } [.ref (ad 0), .int (nI k), .int (nI j), .int (nI w)] σ (fun r σ' => r = (sc k j).toInt64 ∧ I2 n p g rn d th rd sl sn sc (nI 0) tr σ') := by
  refine xk_entry cX7_cell 4 (some .long) (by decide) rfl (Nat.le_of_ble_eq_true rfl) ?_
  intro pP eE sS mM below meth cC hx hb hml hr hts hown hlk hP hK hX hS ls hl
  have hl : lv_has ls 4 [(0, .ref (ad 0)), (1, .int (nI k)), (2, .int (nI j)), (3, .int (nI w))] := hl
  obtain ⟨hT, hR, hRd, hSh, hnp, hft, htr⟩ := id hJ
  have hn5 := hT.2.2.1
  have hg9 := hT.2.2.2.1
  have hp6 := hR.2.1
  have hrn8 := hRd.2.1
  refine lv_aload_n hx hb dX7_cell_0 rfl (lv_at hl 0 rfl) ?_
  refine lv_iconst (v := nI 0) hx hb dX7_cell_1 (by decide) ?_
  refine xk_put hx hb hts (inX7_cell_X7) tyX7 tyX7_ok nmX7 hown hK hI hP hS 0 (by omega) (ci := 7) e2_obj rfl 0 (by decide) (flX7_cell_61 hts) rfl rfl (by decide +kernel) (Nat.le_of_ble_eq_true rfl) e2_loc (by rw [e2_obj]; simp [up]) dX7_cell_2 (fun H locs hP hS => ?_)
  obtain ⟨σ0, hσ0⟩ : ∃ τ, τ = up σ 0 0 (nI 0) := ⟨_, rfl⟩
  rw [← hσ0] at hP
  have hJ0 : I2 n p g rn d th rd sl sn sc (nI 0) tr σ0 := by rw [hσ0]; exact I2_ft hJ
  obtain ⟨hT, hR, hRd, hSh, -, hft, htr⟩ := id hJ0
  have hZ := hSh k hk4
  have hz60 : sl k < 3 → sn k ≤ 60 := fun q => (hZ.2.2 q).2.1
  have hL : sl k < 3 := by omega
  have hL60 := hz60 hL
  refine lv_iload_n hx hb dX7_cell_5 rfl (lv_at hl 1 rfl) ?_
  refine xk_fi (va_runS (As := [.int (nI k)]) (rest := []) ⟨hx, hb, hml, hown, hts⟩ (k2_isSheet_t l hI (nI k) (xn_in (by omega) (by omega) (by omega))) (va_cwS 1 hts gX7_cell_X7_isSheet rfl rfl rfl (by decide +kernel) ⟨Nat.le_of_ble_eq_true rfl, Nat.le_of_ble_eq_true rfl⟩) (xk_preS X2_ok hK hX hP) rfl rfl hl.1 rfl (lv_room (Nat.le_of_ble_eq_true rfl)) dX7_cell_6 ⟨Nat.le_of_ble_eq_true rfl, Nat.le_of_ble_eq_true rfl⟩) hS (fun H locs hP hS => ?_)
  refine xn_zeq (tgt := 19) hx hb dX7_cell_9 (by decide) (by omega) (fun c_9 => absurd c_9 (by omega)) (fun c_9 => ?_)
  refine lv_iload_n hx hb dX7_cell_12 rfl (lv_at hl 3 rfl) ?_
  refine xk_fi (va_runS (As := [.int (nI w)]) (rest := []) ⟨hx, hb, hml, hown, hts⟩ (k2_isSort_t l hI (nI w) (xn_in (by omega) (by omega) (by omega))) (va_cwS 1 hts gX7_cell_X7_isSort rfl rfl rfl (by decide +kernel) ⟨Nat.le_of_ble_eq_true rfl, Nat.le_of_ble_eq_true rfl⟩) (xk_preS X2_ok hK hX hP) rfl rfl hl.1 rfl (lv_room (Nat.le_of_ble_eq_true rfl)) dX7_cell_13 ⟨Nat.le_of_ble_eq_true rfl, Nat.le_of_ble_eq_true rfl⟩) hS (fun H locs hP hS => ?_)
  refine xn_zne (tgt := 23) hx hb dX7_cell_16 (by decide) (by omega) (fun c_16 => ?_) (fun c_16 => absurd c_16 (by omega))
  refine lv_aload_n hx hb dX7_cell_23 rfl (lv_at hl 0 rfl) ?_
  refine xk_get hx hb hts (inX7_cell_X7) hown hK hP 0 (by omega) (ci := 7) e2_obj rfl 2 (by decide) (flX7_cell_9 hts) rfl (.ref (ad 1)) rfl dX7_cell_24 ?_
  refine lv_iload_n hx hb dX7_cell_27 rfl (lv_at hl 1 rfl) ?_
  refine xk_iald hx hb hK hP 1 (by omega) (n := 4) (e2_row 4 (by decide) rfl) rfl k (by omega) (by decide) dX7_cell_28 ?_
  refine xn_eqi (y := nI (sl k)) (hZ.1.trans (lz_lt hL)) ?_
  refine lv_bipush (v := (-9)) hx hb dX7_cell_29 (by decide) ?_
  refine lv_icmp_eq (tgt := 50) hx hb dX7_cell_31 (by decide) (fun c_31 => absurd c_31 (lz_ne hL)) (fun c_31 => ?_)
  refine lv_aload_n hx hb dX7_cell_34 rfl (lv_at hl 0 rfl) ?_
  refine xk_get hx hb hts (inX7_cell_X7) hown hK hP 0 (by omega) (ci := 7) e2_obj rfl 2 (by decide) (flX7_cell_9 hts) rfl (.ref (ad 1)) rfl dX7_cell_35 ?_
  refine lv_iload_n hx hb dX7_cell_38 rfl (lv_at hl 1 rfl) ?_
  refine xk_iald hx hb hK hP 1 (by omega) (n := 4) (e2_row 4 (by decide) rfl) rfl k (by omega) (by decide) dX7_cell_39 ?_
  refine xn_eqi (y := nI (sl k)) (hZ.1.trans (lz_lt hL)) ?_
  refine lv_iload_n hx hb dX7_cell_40 rfl (lv_at hl 3 rfl) ?_
  refine xn_ieq (tgt := 50) hx hb dX7_cell_41 (by decide) (by omega) (by omega) (fun c_41 => ?_) (fun c_41 => absurd c_41 (by omega))
  refine lv_aload_n hx hb dX7_cell_50 rfl (lv_at hl 0 rfl) ?_
  refine xk_get hx hb hts (inX7_cell_X7) hown hK hP 0 (by omega) (ci := 7) e2_obj rfl 2 (by decide) (flX7_cell_9 hts) rfl (.ref (ad 1)) rfl dX7_cell_51 ?_
  refine lv_iload_n hx hb dX7_cell_54 rfl (lv_at hl 1 rfl) ?_
  refine xk_iald hx hb hK hP 1 (by omega) (n := 4) (e2_row 4 (by decide) rfl) rfl k (by omega) (by decide) dX7_cell_55 ?_
  refine xn_eqi (y := nI (sl k)) (hZ.1.trans (lz_lt hL)) ?_
  refine lv_bipush (v := (-9)) hx hb dX7_cell_56 (by decide) ?_
  refine lv_icmp_ne (tgt := 67) hx hb dX7_cell_58 (by decide) (fun c_58 => ?_) (fun c_58 => absurd c_58 (lz_ne hL))
  refine lv_iload_n hx hb dX7_cell_67 rfl (lv_at hl 2 rfl) ?_
  refine lv_iconst (v := nI 0) hx hb dX7_cell_68 (by decide) ?_
  refine lv_aload_n hx hb dX7_cell_69 rfl (lv_at hl 0 rfl) ?_
  refine xk_get hx hb hts (inX7_cell_X7) hown hK hP 0 (by omega) (ci := 7) e2_obj rfl 3 (by decide) (flX7_cell_13 hts) rfl (.ref (ad 2)) rfl dX7_cell_70 ?_
  refine lv_iload_n hx hb dX7_cell_73 rfl (lv_at hl 1 rfl) ?_
  refine xk_iald hx hb hK hP 2 (by omega) (n := 4) (e2_row 4 (by decide) rfl) rfl k (by omega) (by decide) dX7_cell_74 ?_
  refine xn_eqi (y := nI (sn k)) ((hZ.2.2 hL).1) ?_
  refine lv_iconst (v := nI 1) hx hb dX7_cell_75 (by decide) ?_
  refine lv_isub hx hb dX7_cell_76 ?_
  refine xk_fi (va_runS (As := [.int (nI j), .int (nI 0), .int (nI (sn k) - nI 1)]) (rest := []) ⟨hx, hb, hml, hown, hts⟩ (k2_within_t l hI (nI j) (nI 0) (nI (sn k) - nI 1) (ix_yes hjn (hz60 hL))) (va_cwS 3 hts gX7_cell_X7_within rfl rfl rfl (by decide +kernel) ⟨Nat.le_of_ble_eq_true rfl, Nat.le_of_ble_eq_true rfl⟩) (xk_preS X2_ok hK hX hP) rfl rfl hl.1 rfl (lv_room (Nat.le_of_ble_eq_true rfl)) dX7_cell_77 ⟨Nat.le_of_ble_eq_true rfl, Nat.le_of_ble_eq_true rfl⟩) hS (fun H locs hP hS => ?_)
  refine xn_zne (tgt := 89) hx hb dX7_cell_80 (by decide) (by omega) (fun c_80 => ?_) (fun c_80 => absurd c_80 (by omega))
  refine lv_aload_n hx hb dX7_cell_89 rfl (lv_at hl 0 rfl) ?_
  refine xk_get hx hb hts (inX7_cell_X7) hown hK hP 0 (by omega) (ci := 7) e2_obj rfl 4 (by decide) (flX7_cell_16 hts) rfl (.ref (ad 3)) rfl dX7_cell_90 ?_
  refine lv_bipush (v := nI 60) hx hb dX7_cell_93 (by decide) ?_
  refine lv_iload_n hx hb dX7_cell_95 rfl (lv_at hl 1 rfl) ?_
  refine xn_imul hx hb dX7_cell_96 ?_
  refine lv_iload_n hx hb dX7_cell_97 rfl (lv_at hl 2 rfl) ?_
  refine xn_iadd hx hb dX7_cell_98 ?_
  refine xk_iald hx hb hK hP 3 (by omega) (n := 240) (e2_row 240 (by decide) rfl) rfl ((60 * k) + j) (by omega) (by decide) dX7_cell_99 ?_
  refine xn_eqi (y := sc k j) ((hZ.2.2 hL).2.2 j hjn) ?_
  refine lv_i2l hx hb dX7_cell_100 rfl ?_
  exact xk_lret hx hb hr X2_ok hK hX hP hS hlk dX7_cell_101 (⟨rfl, hJ0⟩)

set_option maxRecDepth 20000 in
theorem flX7_copy_61 {s : State} {av : Array Value} (hts : ∀ w ∈ wsX7_copy, w.before av s = true) : (Cond.fieldLink RX7 61 "WellBackModel" "fault" "I").before av s = true := hts _ (by decide +kernel)
set_option maxRecDepth 20000 in
theorem inX7_copy_X7 : ∀ w ∈ u_ws RX7 TX7 30, w ∈ wsX7_copy := by decide +kernel
set_option maxHeartbeats 4000000 in
set_option maxRecDepth 100000 in
theorem a2_copy_ko (l : Launch) {D : va_G} {ca : Nat → ClassId} {ad : Nat → Nat} (hI : Ij ad 18) {σ : Sg} {n p g rn : Nat} {d : Nat → Nat} {th rd : Nat → Nat → Nat} {sl sn : Nat → Nat} {sc : Nat → Nat → Int32} {ft tr : Int32} {k : Int32} {o : Int32} {a b m : Int32} (hJ : I2 n p g rn d th rd sl sn sc ft tr σ) (hko : ∀ j, j < 4 → k ≠ nI j) (hoo : ∀ j, j < 4 → o ≠ nI j) : C2i l D ca ad yX7_copy wsX7_copy { frames := 2, cells := 0, slots := 0, locals := 42 } [.ref (ad 0), .int k, .int a, .int o, .int b, .int m] σ (fun r σ' => r = -1 ∧ I2 n p g rn d th rd sl sn sc (nI 0) tr σ') := by
  refine xk_entry cX7_copy 10 (some .int) (by decide) rfl (Nat.le_of_ble_eq_true rfl) ?_
  intro pP eE sS mM below meth cC hx hb hml hr hts hown hlk hP hK hX hS ls hl
  have hl : lv_has ls 10 [(0, .ref (ad 0)), (1, .int k), (2, .int a), (3, .int o), (4, .int b), (5, .int m)] := hl
  obtain ⟨hT, hR, hRd, hSh, hnp, hft, htr⟩ := id hJ
  have hn5 := hT.2.2.1
  have hg9 := hT.2.2.2.1
  have hp6 := hR.2.1
  have hrn8 := hRd.2.1
  refine lv_aload_n hx hb dX7_copy_0 rfl (lv_at hl 0 rfl) ?_
  refine lv_iconst (v := nI 0) hx hb dX7_copy_1 (by decide) ?_
  refine xk_put hx hb hts (inX7_copy_X7) tyX7 tyX7_ok nmX7 hown hK hI hP hS 0 (by omega) (ci := 7) e2_obj rfl 0 (by decide) (flX7_copy_61 hts) rfl rfl (by decide +kernel) (Nat.le_of_ble_eq_true rfl) e2_loc (by rw [e2_obj]; simp [up]) dX7_copy_2 (fun H locs hP hS => ?_)
  obtain ⟨σ0, hσ0⟩ : ∃ τ, τ = up σ 0 0 (nI 0) := ⟨_, rfl⟩
  rw [← hσ0] at hP
  have hJ0 : I2 n p g rn d th rd sl sn sc (nI 0) tr σ0 := by rw [hσ0]; exact I2_ft hJ
  obtain ⟨hT, hR, hRd, hSh, -, hft, htr⟩ := id hJ0
  refine lv_iload_n hx hb dX7_copy_5 rfl (lv_at hl 1 rfl) ?_
  refine xk_fi (va_runS (As := [.int k]) (rest := []) ⟨hx, hb, hml, hown, hts⟩ (k2_isSheet_f l hI k (fun q => by obtain ⟨w, h1, h2, h3⟩ := xn_rng (by omega) q; exact hko w (by omega) h3)) (va_cwS 1 hts gX7_copy_X7_isSheet rfl rfl rfl (by decide +kernel) ⟨Nat.le_of_ble_eq_true rfl, Nat.le_of_ble_eq_true rfl⟩) (xk_preS X2_ok hK hX hP) rfl rfl hl.1 rfl (lv_room (Nat.le_of_ble_eq_true rfl)) dX7_copy_6 ⟨Nat.le_of_ble_eq_true rfl, Nat.le_of_ble_eq_true rfl⟩) hS (fun H locs hP hS => ?_)
  refine xn_zeq (tgt := 19) hx hb dX7_copy_9 (by decide) (by omega) (fun c_9 => ?_) (fun c_9 => absurd c_9 (by omega))
  refine lv_iconst (v := (-1)) hx hb dX7_copy_19 (by decide) ?_
  exact xk_iret hx hb hr (vp_nar_int _) X2_ok hK hX hP hS hlk dX7_copy_20 (⟨rfl, hJ0⟩)

set_option maxHeartbeats 4000000 in
set_option maxRecDepth 100000 in
theorem a2_copy_ki (l : Launch) {D : va_G} {ca : Nat → ClassId} {ad : Nat → Nat} (hI : Ij ad 18) {σ : Sg} {n p g rn : Nat} {d : Nat → Nat} {th rd : Nat → Nat → Nat} {sl sn : Nat → Nat} {sc : Nat → Nat → Int32} {ft tr : Int32} {k : Int32} {o : Nat} {a b m : Int32} (hJ : I2 n p g rn d th rd sl sn sc ft tr σ) (hko : ∀ j, j < 4 → k ≠ nI j) (ho4 : o < 4) : C2i l D ca ad yX7_copy wsX7_copy { frames := 2, cells := 0, slots := 0, locals := 42 } [.ref (ad 0), .int k, .int a, .int (nI o), .int b, .int m] σ (fun r σ' => r = -1 ∧ I2 n p g rn d th rd sl sn sc (nI 0) tr σ') := by
  refine xk_entry cX7_copy 10 (some .int) (by decide) rfl (Nat.le_of_ble_eq_true rfl) ?_
  intro pP eE sS mM below meth cC hx hb hml hr hts hown hlk hP hK hX hS ls hl
  have hl : lv_has ls 10 [(0, .ref (ad 0)), (1, .int k), (2, .int a), (3, .int (nI o)), (4, .int b), (5, .int m)] := hl
  obtain ⟨hT, hR, hRd, hSh, hnp, hft, htr⟩ := id hJ
  have hn5 := hT.2.2.1
  have hg9 := hT.2.2.2.1
  have hp6 := hR.2.1
  have hrn8 := hRd.2.1
  refine lv_aload_n hx hb dX7_copy_0 rfl (lv_at hl 0 rfl) ?_
  refine lv_iconst (v := nI 0) hx hb dX7_copy_1 (by decide) ?_
  refine xk_put hx hb hts (inX7_copy_X7) tyX7 tyX7_ok nmX7 hown hK hI hP hS 0 (by omega) (ci := 7) e2_obj rfl 0 (by decide) (flX7_copy_61 hts) rfl rfl (by decide +kernel) (Nat.le_of_ble_eq_true rfl) e2_loc (by rw [e2_obj]; simp [up]) dX7_copy_2 (fun H locs hP hS => ?_)
  obtain ⟨σ0, hσ0⟩ : ∃ τ, τ = up σ 0 0 (nI 0) := ⟨_, rfl⟩
  rw [← hσ0] at hP
  have hJ0 : I2 n p g rn d th rd sl sn sc (nI 0) tr σ0 := by rw [hσ0]; exact I2_ft hJ
  obtain ⟨hT, hR, hRd, hSh, -, hft, htr⟩ := id hJ0
  have hZo := hSh o ho4
  have ho60 : sl o < 3 → sn o ≤ 60 := fun q => (hZo.2.2 q).2.1
  refine lv_iload_n hx hb dX7_copy_5 rfl (lv_at hl 1 rfl) ?_
  refine xk_fi (va_runS (As := [.int k]) (rest := []) ⟨hx, hb, hml, hown, hts⟩ (k2_isSheet_f l hI k (fun q => by obtain ⟨w, h1, h2, h3⟩ := xn_rng (by omega) q; exact hko w (by omega) h3)) (va_cwS 1 hts gX7_copy_X7_isSheet rfl rfl rfl (by decide +kernel) ⟨Nat.le_of_ble_eq_true rfl, Nat.le_of_ble_eq_true rfl⟩) (xk_preS X2_ok hK hX hP) rfl rfl hl.1 rfl (lv_room (Nat.le_of_ble_eq_true rfl)) dX7_copy_6 ⟨Nat.le_of_ble_eq_true rfl, Nat.le_of_ble_eq_true rfl⟩) hS (fun H locs hP hS => ?_)
  refine xn_zeq (tgt := 19) hx hb dX7_copy_9 (by decide) (by omega) (fun c_9 => ?_) (fun c_9 => absurd c_9 (by omega))
  refine lv_iconst (v := (-1)) hx hb dX7_copy_19 (by decide) ?_
  exact xk_iret hx hb hr (vp_nar_int _) X2_ok hK hX hP hS hlk dX7_copy_20 (⟨rfl, hJ0⟩)

set_option maxHeartbeats 4000000 in
set_option maxRecDepth 100000 in
theorem a2_copy_oo (l : Launch) {D : va_G} {ca : Nat → ClassId} {ad : Nat → Nat} (hI : Ij ad 18) {σ : Sg} {n p g rn : Nat} {d : Nat → Nat} {th rd : Nat → Nat → Nat} {sl sn : Nat → Nat} {sc : Nat → Nat → Int32} {ft tr : Int32} {k : Nat} {o : Int32} {a b m : Int32} (hJ : I2 n p g rn d th rd sl sn sc ft tr σ) (hk4 : k < 4) (hoo : ∀ j, j < 4 → o ≠ nI j) : C2i l D ca ad yX7_copy wsX7_copy { frames := 2, cells := 0, slots := 0, locals := 42 } [.ref (ad 0), .int (nI k), .int a, .int o, .int b, .int m] σ (fun r σ' => r = -1 ∧ I2 n p g rn d th rd sl sn sc (nI 0) tr σ') := by
  refine xk_entry cX7_copy 10 (some .int) (by decide) rfl (Nat.le_of_ble_eq_true rfl) ?_
  intro pP eE sS mM below meth cC hx hb hml hr hts hown hlk hP hK hX hS ls hl
  have hl : lv_has ls 10 [(0, .ref (ad 0)), (1, .int (nI k)), (2, .int a), (3, .int o), (4, .int b), (5, .int m)] := hl
  obtain ⟨hT, hR, hRd, hSh, hnp, hft, htr⟩ := id hJ
  have hn5 := hT.2.2.1
  have hg9 := hT.2.2.2.1
  have hp6 := hR.2.1
  have hrn8 := hRd.2.1
  refine lv_aload_n hx hb dX7_copy_0 rfl (lv_at hl 0 rfl) ?_
  refine lv_iconst (v := nI 0) hx hb dX7_copy_1 (by decide) ?_
  refine xk_put hx hb hts (inX7_copy_X7) tyX7 tyX7_ok nmX7 hown hK hI hP hS 0 (by omega) (ci := 7) e2_obj rfl 0 (by decide) (flX7_copy_61 hts) rfl rfl (by decide +kernel) (Nat.le_of_ble_eq_true rfl) e2_loc (by rw [e2_obj]; simp [up]) dX7_copy_2 (fun H locs hP hS => ?_)
  obtain ⟨σ0, hσ0⟩ : ∃ τ, τ = up σ 0 0 (nI 0) := ⟨_, rfl⟩
  rw [← hσ0] at hP
  have hJ0 : I2 n p g rn d th rd sl sn sc (nI 0) tr σ0 := by rw [hσ0]; exact I2_ft hJ
  obtain ⟨hT, hR, hRd, hSh, -, hft, htr⟩ := id hJ0
  have hZ := hSh k hk4
  have hz60 : sl k < 3 → sn k ≤ 60 := fun q => (hZ.2.2 q).2.1
  refine lv_iload_n hx hb dX7_copy_5 rfl (lv_at hl 1 rfl) ?_
  refine xk_fi (va_runS (As := [.int (nI k)]) (rest := []) ⟨hx, hb, hml, hown, hts⟩ (k2_isSheet_t l hI (nI k) (xn_in (by omega) (by omega) (by omega))) (va_cwS 1 hts gX7_copy_X7_isSheet rfl rfl rfl (by decide +kernel) ⟨Nat.le_of_ble_eq_true rfl, Nat.le_of_ble_eq_true rfl⟩) (xk_preS X2_ok hK hX hP) rfl rfl hl.1 rfl (lv_room (Nat.le_of_ble_eq_true rfl)) dX7_copy_6 ⟨Nat.le_of_ble_eq_true rfl, Nat.le_of_ble_eq_true rfl⟩) hS (fun H locs hP hS => ?_)
  refine xn_zeq (tgt := 19) hx hb dX7_copy_9 (by decide) (by omega) (fun c_9 => absurd c_9 (by omega)) (fun c_9 => ?_)
  refine lv_iload_n hx hb dX7_copy_12 rfl (lv_at hl 3 rfl) ?_
  refine xk_fi (va_runS (As := [.int o]) (rest := []) ⟨hx, hb, hml, hown, hts⟩ (k2_isSheet_f l hI o (fun q => by obtain ⟨w, h1, h2, h3⟩ := xn_rng (by omega) q; exact hoo w (by omega) h3)) (va_cwS 1 hts gX7_copy_X7_isSheet rfl rfl rfl (by decide +kernel) ⟨Nat.le_of_ble_eq_true rfl, Nat.le_of_ble_eq_true rfl⟩) (xk_preS X2_ok hK hX hP) rfl rfl hl.1 rfl (lv_room (Nat.le_of_ble_eq_true rfl)) dX7_copy_13 ⟨Nat.le_of_ble_eq_true rfl, Nat.le_of_ble_eq_true rfl⟩) hS (fun H locs hP hS => ?_)
  refine xn_zne (tgt := 21) hx hb dX7_copy_16 (by decide) (by omega) (fun c_16 => absurd c_16 (by omega)) (fun c_16 => ?_)
  refine lv_iconst (v := (-1)) hx hb dX7_copy_19 (by decide) ?_
  exact xk_iret hx hb hr (vp_nar_int _) X2_ok hK hX hP hS hlk dX7_copy_20 (⟨rfl, hJ0⟩)

set_option maxRecDepth 20000 in
theorem flX7_copy_9 {s : State} {av : Array Value} (hts : ∀ w ∈ wsX7_copy, w.before av s = true) : (Cond.fieldLink RX7 9 "WellBackModel" "sorts" "[I").before av s = true := hts _ (by decide +kernel)
set_option maxHeartbeats 4000000 in
set_option maxRecDepth 100000 in
theorem a2_copy_kn (l : Launch) {D : va_G} {ca : Nat → ClassId} {ad : Nat → Nat} (hI : Ij ad 18) {σ : Sg} {n p g rn : Nat} {d : Nat → Nat} {th rd : Nat → Nat → Nat} {sl sn : Nat → Nat} {sc : Nat → Nat → Int32} {ft tr : Int32} {k : Nat} {o : Nat} {a b m : Int32} (hJ : I2 n p g rn d th rd sl sn sc ft tr σ) (hk4 : k < 4) (ho4 : o < 4) (hL3 : sl k = 3) : C2i l D ca ad yX7_copy wsX7_copy { frames := 2, cells := 0, slots := 0, locals := 42 } [.ref (ad 0), .int (nI k), .int a, .int (nI o), .int b, .int m] σ (fun r σ' => r = (-10) - nI 1 ∧ I2 n p g rn d th rd sl sn sc (nI 1) tr σ') := by
  refine xk_entry cX7_copy 10 (some .int) (by decide) rfl (Nat.le_of_ble_eq_true rfl) ?_
  intro pP eE sS mM below meth cC hx hb hml hr hts hown hlk hP hK hX hS ls hl
  have hl : lv_has ls 10 [(0, .ref (ad 0)), (1, .int (nI k)), (2, .int a), (3, .int (nI o)), (4, .int b), (5, .int m)] := hl
  obtain ⟨hT, hR, hRd, hSh, hnp, hft, htr⟩ := id hJ
  have hn5 := hT.2.2.1
  have hg9 := hT.2.2.2.1
  have hp6 := hR.2.1
  have hrn8 := hRd.2.1
  refine lv_aload_n hx hb dX7_copy_0 rfl (lv_at hl 0 rfl) ?_
  refine lv_iconst (v := nI 0) hx hb dX7_copy_1 (by decide) ?_
  refine xk_put hx hb hts (inX7_copy_X7) tyX7 tyX7_ok nmX7 hown hK hI hP hS 0 (by omega) (ci := 7) e2_obj rfl 0 (by decide) (flX7_copy_61 hts) rfl rfl (by decide +kernel) (Nat.le_of_ble_eq_true rfl) e2_loc (by rw [e2_obj]; simp [up]) dX7_copy_2 (fun H locs hP hS => ?_)
  obtain ⟨σ0, hσ0⟩ : ∃ τ, τ = up σ 0 0 (nI 0) := ⟨_, rfl⟩
  rw [← hσ0] at hP
  have hJ0 : I2 n p g rn d th rd sl sn sc (nI 0) tr σ0 := by rw [hσ0]; exact I2_ft hJ
  obtain ⟨hT, hR, hRd, hSh, -, hft, htr⟩ := id hJ0
  have hZ := hSh k hk4
  have hz60 : sl k < 3 → sn k ≤ 60 := fun q => (hZ.2.2 q).2.1
  have hZo := hSh o ho4
  have ho60 : sl o < 3 → sn o ≤ 60 := fun q => (hZo.2.2 q).2.1
  refine lv_iload_n hx hb dX7_copy_5 rfl (lv_at hl 1 rfl) ?_
  refine xk_fi (va_runS (As := [.int (nI k)]) (rest := []) ⟨hx, hb, hml, hown, hts⟩ (k2_isSheet_t l hI (nI k) (xn_in (by omega) (by omega) (by omega))) (va_cwS 1 hts gX7_copy_X7_isSheet rfl rfl rfl (by decide +kernel) ⟨Nat.le_of_ble_eq_true rfl, Nat.le_of_ble_eq_true rfl⟩) (xk_preS X2_ok hK hX hP) rfl rfl hl.1 rfl (lv_room (Nat.le_of_ble_eq_true rfl)) dX7_copy_6 ⟨Nat.le_of_ble_eq_true rfl, Nat.le_of_ble_eq_true rfl⟩) hS (fun H locs hP hS => ?_)
  refine xn_zeq (tgt := 19) hx hb dX7_copy_9 (by decide) (by omega) (fun c_9 => absurd c_9 (by omega)) (fun c_9 => ?_)
  refine lv_iload_n hx hb dX7_copy_12 rfl (lv_at hl 3 rfl) ?_
  refine xk_fi (va_runS (As := [.int (nI o)]) (rest := []) ⟨hx, hb, hml, hown, hts⟩ (k2_isSheet_t l hI (nI o) (xn_in (by omega) (by omega) (by omega))) (va_cwS 1 hts gX7_copy_X7_isSheet rfl rfl rfl (by decide +kernel) ⟨Nat.le_of_ble_eq_true rfl, Nat.le_of_ble_eq_true rfl⟩) (xk_preS X2_ok hK hX hP) rfl rfl hl.1 rfl (lv_room (Nat.le_of_ble_eq_true rfl)) dX7_copy_13 ⟨Nat.le_of_ble_eq_true rfl, Nat.le_of_ble_eq_true rfl⟩) hS (fun H locs hP hS => ?_)
  refine xn_zne (tgt := 21) hx hb dX7_copy_16 (by decide) (by omega) (fun c_16 => ?_) (fun c_16 => absurd c_16 (by omega))
  refine lv_aload_n hx hb dX7_copy_21 rfl (lv_at hl 0 rfl) ?_
  refine xk_get hx hb hts (inX7_copy_X7) hown hK hP 0 (by omega) (ci := 7) e2_obj rfl 2 (by decide) (flX7_copy_9 hts) rfl (.ref (ad 1)) rfl dX7_copy_22 ?_
  refine lv_iload_n hx hb dX7_copy_25 rfl (lv_at hl 1 rfl) ?_
  refine xk_iald hx hb hK hP 1 (by omega) (n := 4) (e2_row 4 (by decide) rfl) rfl k (by omega) (by decide) dX7_copy_26 ?_
  refine xn_eqi (y := (-9)) (hZ.1.trans (by rw [hL3]; rfl)) ?_
  refine lv_bipush (v := (-9)) hx hb dX7_copy_27 (by decide) ?_
  refine lv_icmp_eq (tgt := 43) hx hb dX7_copy_29 (by decide) (fun c_29 => ?_) (fun c_29 => absurd rfl c_29)
  refine lv_aload_n hx hb dX7_copy_43 rfl (lv_at hl 0 rfl) ?_
  refine lv_iconst (v := nI 1) hx hb dX7_copy_44 (by decide) ?_
  refine xk_fi (va_runV (As := [.int (nI 1)]) (rest := []) ⟨hx, hb, hml, hown, hts⟩ (k2_fails l hI 1) (cwV 1 hts gX7_copy_X7_fails rfl rfl rfl (by decide +kernel) ⟨Nat.le_of_ble_eq_true rfl, Nat.le_of_ble_eq_true rfl⟩) (xk_preV X2_ok hK hX hP (xk_recv hK hP 0 (by omega) (ci := 7) e2_obj rfl)) rfl rfl hl.1 rfl (lv_room (Nat.le_of_ble_eq_true rfl)) dX7_copy_45 ⟨Nat.le_of_ble_eq_true rfl, Nat.le_of_ble_eq_true rfl⟩) hS (fun H locs hP hS => ?_)
  exact xk_iret hx hb hr (vp_nar_int _) X2_ok hK hX hP hS hlk dX7_copy_48 (⟨rfl, I2_ft hJ0⟩)

set_option maxHeartbeats 4000000 in
set_option maxRecDepth 100000 in
theorem a2_copy_on (l : Launch) {D : va_G} {ca : Nat → ClassId} {ad : Nat → Nat} (hI : Ij ad 18) {σ : Sg} {n p g rn : Nat} {d : Nat → Nat} {th rd : Nat → Nat → Nat} {sl sn : Nat → Nat} {sc : Nat → Nat → Int32} {ft tr : Int32} {k : Nat} {o : Nat} {a b m : Int32} (hJ : I2 n p g rn d th rd sl sn sc ft tr σ) (hk4 : k < 4) (ho4 : o < 4) (hL : sl k < 3) (hM3 : sl o = 3) : C2i l D ca ad yX7_copy wsX7_copy { frames := 2, cells := 0, slots := 0, locals := 42 } [.ref (ad 0), .int (nI k), .int a, .int (nI o), .int b, .int m] σ (fun r σ' => r = (-10) - nI 1 ∧ I2 n p g rn d th rd sl sn sc (nI 1) tr σ') := by
  refine xk_entry cX7_copy 10 (some .int) (by decide) rfl (Nat.le_of_ble_eq_true rfl) ?_
  intro pP eE sS mM below meth cC hx hb hml hr hts hown hlk hP hK hX hS ls hl
  have hl : lv_has ls 10 [(0, .ref (ad 0)), (1, .int (nI k)), (2, .int a), (3, .int (nI o)), (4, .int b), (5, .int m)] := hl
  obtain ⟨hT, hR, hRd, hSh, hnp, hft, htr⟩ := id hJ
  have hn5 := hT.2.2.1
  have hg9 := hT.2.2.2.1
  have hp6 := hR.2.1
  have hrn8 := hRd.2.1
  refine lv_aload_n hx hb dX7_copy_0 rfl (lv_at hl 0 rfl) ?_
  refine lv_iconst (v := nI 0) hx hb dX7_copy_1 (by decide) ?_
  refine xk_put hx hb hts (inX7_copy_X7) tyX7 tyX7_ok nmX7 hown hK hI hP hS 0 (by omega) (ci := 7) e2_obj rfl 0 (by decide) (flX7_copy_61 hts) rfl rfl (by decide +kernel) (Nat.le_of_ble_eq_true rfl) e2_loc (by rw [e2_obj]; simp [up]) dX7_copy_2 (fun H locs hP hS => ?_)
  obtain ⟨σ0, hσ0⟩ : ∃ τ, τ = up σ 0 0 (nI 0) := ⟨_, rfl⟩
  rw [← hσ0] at hP
  have hJ0 : I2 n p g rn d th rd sl sn sc (nI 0) tr σ0 := by rw [hσ0]; exact I2_ft hJ
  obtain ⟨hT, hR, hRd, hSh, -, hft, htr⟩ := id hJ0
  have hZ := hSh k hk4
  have hz60 : sl k < 3 → sn k ≤ 60 := fun q => (hZ.2.2 q).2.1
  have hZo := hSh o ho4
  have ho60 : sl o < 3 → sn o ≤ 60 := fun q => (hZo.2.2 q).2.1
  refine lv_iload_n hx hb dX7_copy_5 rfl (lv_at hl 1 rfl) ?_
  refine xk_fi (va_runS (As := [.int (nI k)]) (rest := []) ⟨hx, hb, hml, hown, hts⟩ (k2_isSheet_t l hI (nI k) (xn_in (by omega) (by omega) (by omega))) (va_cwS 1 hts gX7_copy_X7_isSheet rfl rfl rfl (by decide +kernel) ⟨Nat.le_of_ble_eq_true rfl, Nat.le_of_ble_eq_true rfl⟩) (xk_preS X2_ok hK hX hP) rfl rfl hl.1 rfl (lv_room (Nat.le_of_ble_eq_true rfl)) dX7_copy_6 ⟨Nat.le_of_ble_eq_true rfl, Nat.le_of_ble_eq_true rfl⟩) hS (fun H locs hP hS => ?_)
  refine xn_zeq (tgt := 19) hx hb dX7_copy_9 (by decide) (by omega) (fun c_9 => absurd c_9 (by omega)) (fun c_9 => ?_)
  refine lv_iload_n hx hb dX7_copy_12 rfl (lv_at hl 3 rfl) ?_
  refine xk_fi (va_runS (As := [.int (nI o)]) (rest := []) ⟨hx, hb, hml, hown, hts⟩ (k2_isSheet_t l hI (nI o) (xn_in (by omega) (by omega) (by omega))) (va_cwS 1 hts gX7_copy_X7_isSheet rfl rfl rfl (by decide +kernel) ⟨Nat.le_of_ble_eq_true rfl, Nat.le_of_ble_eq_true rfl⟩) (xk_preS X2_ok hK hX hP) rfl rfl hl.1 rfl (lv_room (Nat.le_of_ble_eq_true rfl)) dX7_copy_13 ⟨Nat.le_of_ble_eq_true rfl, Nat.le_of_ble_eq_true rfl⟩) hS (fun H locs hP hS => ?_)
  refine xn_zne (tgt := 21) hx hb dX7_copy_16 (by decide) (by omega) (fun c_16 => ?_) (fun c_16 => absurd c_16 (by omega))
  refine lv_aload_n hx hb dX7_copy_21 rfl (lv_at hl 0 rfl) ?_
  refine xk_get hx hb hts (inX7_copy_X7) hown hK hP 0 (by omega) (ci := 7) e2_obj rfl 2 (by decide) (flX7_copy_9 hts) rfl (.ref (ad 1)) rfl dX7_copy_22 ?_
  refine lv_iload_n hx hb dX7_copy_25 rfl (lv_at hl 1 rfl) ?_
  refine xk_iald hx hb hK hP 1 (by omega) (n := 4) (e2_row 4 (by decide) rfl) rfl k (by omega) (by decide) dX7_copy_26 ?_
  refine xn_eqi (y := nI (sl k)) (hZ.1.trans (lz_lt hL)) ?_
  refine lv_bipush (v := (-9)) hx hb dX7_copy_27 (by decide) ?_
  refine lv_icmp_eq (tgt := 43) hx hb dX7_copy_29 (by decide) (fun c_29 => absurd c_29 (lz_ne hL)) (fun c_29 => ?_)
  refine lv_aload_n hx hb dX7_copy_32 rfl (lv_at hl 0 rfl) ?_
  refine xk_get hx hb hts (inX7_copy_X7) hown hK hP 0 (by omega) (ci := 7) e2_obj rfl 2 (by decide) (flX7_copy_9 hts) rfl (.ref (ad 1)) rfl dX7_copy_33 ?_
  refine lv_iload_n hx hb dX7_copy_36 rfl (lv_at hl 3 rfl) ?_
  refine xk_iald hx hb hK hP 1 (by omega) (n := 4) (e2_row 4 (by decide) rfl) rfl o (by omega) (by decide) dX7_copy_37 ?_
  refine xn_eqi (y := (-9)) (hZo.1.trans (by rw [hM3]; rfl)) ?_
  refine lv_bipush (v := (-9)) hx hb dX7_copy_38 (by decide) ?_
  refine lv_icmp_ne (tgt := 49) hx hb dX7_copy_40 (by decide) (fun c_40 => absurd rfl c_40) (fun c_40 => ?_)
  refine lv_aload_n hx hb dX7_copy_43 rfl (lv_at hl 0 rfl) ?_
  refine lv_iconst (v := nI 1) hx hb dX7_copy_44 (by decide) ?_
  refine xk_fi (va_runV (As := [.int (nI 1)]) (rest := []) ⟨hx, hb, hml, hown, hts⟩ (k2_fails l hI 1) (cwV 1 hts gX7_copy_X7_fails rfl rfl rfl (by decide +kernel) ⟨Nat.le_of_ble_eq_true rfl, Nat.le_of_ble_eq_true rfl⟩) (xk_preV X2_ok hK hX hP (xk_recv hK hP 0 (by omega) (ci := 7) e2_obj rfl)) rfl rfl hl.1 rfl (lv_room (Nat.le_of_ble_eq_true rfl)) dX7_copy_45 ⟨Nat.le_of_ble_eq_true rfl, Nat.le_of_ble_eq_true rfl⟩) hS (fun H locs hP hS => ?_)
  exact xk_iret hx hb hr (vp_nar_int _) X2_ok hK hX hP hS hlk dX7_copy_48 (⟨rfl, I2_ft hJ0⟩)

set_option maxHeartbeats 4000000 in
set_option maxRecDepth 100000 in
theorem a2_copy_un (l : Launch) {D : va_G} {ca : Nat → ClassId} {ad : Nat → Nat} (hI : Ij ad 18) {σ : Sg} {n p g rn : Nat} {d : Nat → Nat} {th rd : Nat → Nat → Nat} {sl sn : Nat → Nat} {sc : Nat → Nat → Int32} {ft tr : Int32} {k : Nat} {o : Nat} {a b m : Int32} (hJ : I2 n p g rn d th rd sl sn sc ft tr σ) (hk4 : k < 4) (ho4 : o < 4) (hL : sl k < 3) (hM : sl o < 3) (hun : ¬ sl k = sl o) : C2i l D ca ad yX7_copy wsX7_copy { frames := 2, cells := 0, slots := 0, locals := 42 } [.ref (ad 0), .int (nI k), .int a, .int (nI o), .int b, .int m] σ (fun r σ' => r = (-10) - nI 2 ∧ I2 n p g rn d th rd sl sn sc (nI 2) tr σ') := by
  refine xk_entry cX7_copy 10 (some .int) (by decide) rfl (Nat.le_of_ble_eq_true rfl) ?_
  intro pP eE sS mM below meth cC hx hb hml hr hts hown hlk hP hK hX hS ls hl
  have hl : lv_has ls 10 [(0, .ref (ad 0)), (1, .int (nI k)), (2, .int a), (3, .int (nI o)), (4, .int b), (5, .int m)] := hl
  obtain ⟨hT, hR, hRd, hSh, hnp, hft, htr⟩ := id hJ
  have hn5 := hT.2.2.1
  have hg9 := hT.2.2.2.1
  have hp6 := hR.2.1
  have hrn8 := hRd.2.1
  refine lv_aload_n hx hb dX7_copy_0 rfl (lv_at hl 0 rfl) ?_
  refine lv_iconst (v := nI 0) hx hb dX7_copy_1 (by decide) ?_
  refine xk_put hx hb hts (inX7_copy_X7) tyX7 tyX7_ok nmX7 hown hK hI hP hS 0 (by omega) (ci := 7) e2_obj rfl 0 (by decide) (flX7_copy_61 hts) rfl rfl (by decide +kernel) (Nat.le_of_ble_eq_true rfl) e2_loc (by rw [e2_obj]; simp [up]) dX7_copy_2 (fun H locs hP hS => ?_)
  obtain ⟨σ0, hσ0⟩ : ∃ τ, τ = up σ 0 0 (nI 0) := ⟨_, rfl⟩
  rw [← hσ0] at hP
  have hJ0 : I2 n p g rn d th rd sl sn sc (nI 0) tr σ0 := by rw [hσ0]; exact I2_ft hJ
  obtain ⟨hT, hR, hRd, hSh, -, hft, htr⟩ := id hJ0
  have hZ := hSh k hk4
  have hz60 : sl k < 3 → sn k ≤ 60 := fun q => (hZ.2.2 q).2.1
  have hZo := hSh o ho4
  have ho60 : sl o < 3 → sn o ≤ 60 := fun q => (hZo.2.2 q).2.1
  refine lv_iload_n hx hb dX7_copy_5 rfl (lv_at hl 1 rfl) ?_
  refine xk_fi (va_runS (As := [.int (nI k)]) (rest := []) ⟨hx, hb, hml, hown, hts⟩ (k2_isSheet_t l hI (nI k) (xn_in (by omega) (by omega) (by omega))) (va_cwS 1 hts gX7_copy_X7_isSheet rfl rfl rfl (by decide +kernel) ⟨Nat.le_of_ble_eq_true rfl, Nat.le_of_ble_eq_true rfl⟩) (xk_preS X2_ok hK hX hP) rfl rfl hl.1 rfl (lv_room (Nat.le_of_ble_eq_true rfl)) dX7_copy_6 ⟨Nat.le_of_ble_eq_true rfl, Nat.le_of_ble_eq_true rfl⟩) hS (fun H locs hP hS => ?_)
  refine xn_zeq (tgt := 19) hx hb dX7_copy_9 (by decide) (by omega) (fun c_9 => absurd c_9 (by omega)) (fun c_9 => ?_)
  refine lv_iload_n hx hb dX7_copy_12 rfl (lv_at hl 3 rfl) ?_
  refine xk_fi (va_runS (As := [.int (nI o)]) (rest := []) ⟨hx, hb, hml, hown, hts⟩ (k2_isSheet_t l hI (nI o) (xn_in (by omega) (by omega) (by omega))) (va_cwS 1 hts gX7_copy_X7_isSheet rfl rfl rfl (by decide +kernel) ⟨Nat.le_of_ble_eq_true rfl, Nat.le_of_ble_eq_true rfl⟩) (xk_preS X2_ok hK hX hP) rfl rfl hl.1 rfl (lv_room (Nat.le_of_ble_eq_true rfl)) dX7_copy_13 ⟨Nat.le_of_ble_eq_true rfl, Nat.le_of_ble_eq_true rfl⟩) hS (fun H locs hP hS => ?_)
  refine xn_zne (tgt := 21) hx hb dX7_copy_16 (by decide) (by omega) (fun c_16 => ?_) (fun c_16 => absurd c_16 (by omega))
  refine lv_aload_n hx hb dX7_copy_21 rfl (lv_at hl 0 rfl) ?_
  refine xk_get hx hb hts (inX7_copy_X7) hown hK hP 0 (by omega) (ci := 7) e2_obj rfl 2 (by decide) (flX7_copy_9 hts) rfl (.ref (ad 1)) rfl dX7_copy_22 ?_
  refine lv_iload_n hx hb dX7_copy_25 rfl (lv_at hl 1 rfl) ?_
  refine xk_iald hx hb hK hP 1 (by omega) (n := 4) (e2_row 4 (by decide) rfl) rfl k (by omega) (by decide) dX7_copy_26 ?_
  refine xn_eqi (y := nI (sl k)) (hZ.1.trans (lz_lt hL)) ?_
  refine lv_bipush (v := (-9)) hx hb dX7_copy_27 (by decide) ?_
  refine lv_icmp_eq (tgt := 43) hx hb dX7_copy_29 (by decide) (fun c_29 => absurd c_29 (lz_ne hL)) (fun c_29 => ?_)
  refine lv_aload_n hx hb dX7_copy_32 rfl (lv_at hl 0 rfl) ?_
  refine xk_get hx hb hts (inX7_copy_X7) hown hK hP 0 (by omega) (ci := 7) e2_obj rfl 2 (by decide) (flX7_copy_9 hts) rfl (.ref (ad 1)) rfl dX7_copy_33 ?_
  refine lv_iload_n hx hb dX7_copy_36 rfl (lv_at hl 3 rfl) ?_
  refine xk_iald hx hb hK hP 1 (by omega) (n := 4) (e2_row 4 (by decide) rfl) rfl o (by omega) (by decide) dX7_copy_37 ?_
  refine xn_eqi (y := nI (sl o)) (hZo.1.trans (lz_lt hM)) ?_
  refine lv_bipush (v := (-9)) hx hb dX7_copy_38 (by decide) ?_
  refine lv_icmp_ne (tgt := 49) hx hb dX7_copy_40 (by decide) (fun c_40 => ?_) (fun c_40 => absurd c_40 (lz_ne hM))
  refine lv_aload_n hx hb dX7_copy_49 rfl (lv_at hl 0 rfl) ?_
  refine xk_get hx hb hts (inX7_copy_X7) hown hK hP 0 (by omega) (ci := 7) e2_obj rfl 2 (by decide) (flX7_copy_9 hts) rfl (.ref (ad 1)) rfl dX7_copy_50 ?_
  refine lv_iload_n hx hb dX7_copy_53 rfl (lv_at hl 1 rfl) ?_
  refine xk_iald hx hb hK hP 1 (by omega) (n := 4) (e2_row 4 (by decide) rfl) rfl k (by omega) (by decide) dX7_copy_54 ?_
  refine xn_eqi (y := nI (sl k)) (hZ.1.trans (lz_lt hL)) ?_
  refine lv_aload_n hx hb dX7_copy_55 rfl (lv_at hl 0 rfl) ?_
  refine xk_get hx hb hts (inX7_copy_X7) hown hK hP 0 (by omega) (ci := 7) e2_obj rfl 2 (by decide) (flX7_copy_9 hts) rfl (.ref (ad 1)) rfl dX7_copy_56 ?_
  refine lv_iload_n hx hb dX7_copy_59 rfl (lv_at hl 3 rfl) ?_
  refine xk_iald hx hb hK hP 1 (by omega) (n := 4) (e2_row 4 (by decide) rfl) rfl o (by omega) (by decide) dX7_copy_60 ?_
  refine xn_eqi (y := nI (sl o)) (hZo.1.trans (lz_lt hM)) ?_
  refine xn_ieq (tgt := 70) hx hb dX7_copy_61 (by decide) (by omega) (by omega) (fun c_61 => absurd c_61 (by omega)) (fun c_61 => ?_)
  refine lv_aload_n hx hb dX7_copy_64 rfl (lv_at hl 0 rfl) ?_
  refine lv_iconst (v := nI 2) hx hb dX7_copy_65 (by decide) ?_
  refine xk_fi (va_runV (As := [.int (nI 2)]) (rest := []) ⟨hx, hb, hml, hown, hts⟩ (k2_fails l hI 2) (cwV 1 hts gX7_copy_X7_fails rfl rfl rfl (by decide +kernel) ⟨Nat.le_of_ble_eq_true rfl, Nat.le_of_ble_eq_true rfl⟩) (xk_preV X2_ok hK hX hP (xk_recv hK hP 0 (by omega) (ci := 7) e2_obj rfl)) rfl rfl hl.1 rfl (lv_room (Nat.le_of_ble_eq_true rfl)) dX7_copy_66 ⟨Nat.le_of_ble_eq_true rfl, Nat.le_of_ble_eq_true rfl⟩) hS (fun H locs hP hS => ?_)
  exact xk_iret hx hb hr (vp_nar_int _) X2_ok hK hX hP hS hlk dX7_copy_69 (⟨rfl, I2_ft hJ0⟩)

set_option maxRecDepth 20000 in
theorem flX7_copy_13 {s : State} {av : Array Value} (hts : ∀ w ∈ wsX7_copy, w.before av s = true) : (Cond.fieldLink RX7 13 "WellBackModel" "sheetLong" "[I").before av s = true := hts _ (by decide +kernel)
set_option maxHeartbeats 4000000 in
set_option maxRecDepth 100000 in
theorem a2_copy_i1 (l : Launch) {D : va_G} {ca : Nat → ClassId} {ad : Nat → Nat} (hI : Ij ad 18) {σ : Sg} {n p g rn : Nat} {d : Nat → Nat} {th rd : Nat → Nat → Nat} {sl sn : Nat → Nat} {sc : Nat → Nat → Int32} {ft tr : Int32} {k : Nat} {o : Nat} {a b m : Int32} (hJ : I2 n p g rn d th rd sl sn sc ft tr σ) (hk4 : k < 4) (ho4 : o < 4) (hL : sl k < 3) (hM : sl o < 3) (heq : sl k = sl o) (hxy : ∀ u v, u + v ≤ sn k → ¬ (a = nI u ∧ m = nI v)) : C2i l D ca ad yX7_copy wsX7_copy { frames := 2, cells := 0, slots := 0, locals := 42 } [.ref (ad 0), .int (nI k), .int a, .int (nI o), .int b, .int m] σ (fun r σ' => r = (-10) - nI 3 ∧ I2 n p g rn d th rd sl sn sc (nI 3) tr σ') := by
  refine xk_entry cX7_copy 10 (some .int) (by decide) rfl (Nat.le_of_ble_eq_true rfl) ?_
  intro pP eE sS mM below meth cC hx hb hml hr hts hown hlk hP hK hX hS ls hl
  have hl : lv_has ls 10 [(0, .ref (ad 0)), (1, .int (nI k)), (2, .int a), (3, .int (nI o)), (4, .int b), (5, .int m)] := hl
  obtain ⟨hT, hR, hRd, hSh, hnp, hft, htr⟩ := id hJ
  have hn5 := hT.2.2.1
  have hg9 := hT.2.2.2.1
  have hp6 := hR.2.1
  have hrn8 := hRd.2.1
  refine lv_aload_n hx hb dX7_copy_0 rfl (lv_at hl 0 rfl) ?_
  refine lv_iconst (v := nI 0) hx hb dX7_copy_1 (by decide) ?_
  refine xk_put hx hb hts (inX7_copy_X7) tyX7 tyX7_ok nmX7 hown hK hI hP hS 0 (by omega) (ci := 7) e2_obj rfl 0 (by decide) (flX7_copy_61 hts) rfl rfl (by decide +kernel) (Nat.le_of_ble_eq_true rfl) e2_loc (by rw [e2_obj]; simp [up]) dX7_copy_2 (fun H locs hP hS => ?_)
  obtain ⟨σ0, hσ0⟩ : ∃ τ, τ = up σ 0 0 (nI 0) := ⟨_, rfl⟩
  rw [← hσ0] at hP
  have hJ0 : I2 n p g rn d th rd sl sn sc (nI 0) tr σ0 := by rw [hσ0]; exact I2_ft hJ
  obtain ⟨hT, hR, hRd, hSh, -, hft, htr⟩ := id hJ0
  have hZ := hSh k hk4
  have hz60 : sl k < 3 → sn k ≤ 60 := fun q => (hZ.2.2 q).2.1
  have hZo := hSh o ho4
  have ho60 : sl o < 3 → sn o ≤ 60 := fun q => (hZo.2.2 q).2.1
  have hk60 := hz60 hL
  have hom60 := ho60 hM
  refine lv_iload_n hx hb dX7_copy_5 rfl (lv_at hl 1 rfl) ?_
  refine xk_fi (va_runS (As := [.int (nI k)]) (rest := []) ⟨hx, hb, hml, hown, hts⟩ (k2_isSheet_t l hI (nI k) (xn_in (by omega) (by omega) (by omega))) (va_cwS 1 hts gX7_copy_X7_isSheet rfl rfl rfl (by decide +kernel) ⟨Nat.le_of_ble_eq_true rfl, Nat.le_of_ble_eq_true rfl⟩) (xk_preS X2_ok hK hX hP) rfl rfl hl.1 rfl (lv_room (Nat.le_of_ble_eq_true rfl)) dX7_copy_6 ⟨Nat.le_of_ble_eq_true rfl, Nat.le_of_ble_eq_true rfl⟩) hS (fun H locs hP hS => ?_)
  refine xn_zeq (tgt := 19) hx hb dX7_copy_9 (by decide) (by omega) (fun c_9 => absurd c_9 (by omega)) (fun c_9 => ?_)
  refine lv_iload_n hx hb dX7_copy_12 rfl (lv_at hl 3 rfl) ?_
  refine xk_fi (va_runS (As := [.int (nI o)]) (rest := []) ⟨hx, hb, hml, hown, hts⟩ (k2_isSheet_t l hI (nI o) (xn_in (by omega) (by omega) (by omega))) (va_cwS 1 hts gX7_copy_X7_isSheet rfl rfl rfl (by decide +kernel) ⟨Nat.le_of_ble_eq_true rfl, Nat.le_of_ble_eq_true rfl⟩) (xk_preS X2_ok hK hX hP) rfl rfl hl.1 rfl (lv_room (Nat.le_of_ble_eq_true rfl)) dX7_copy_13 ⟨Nat.le_of_ble_eq_true rfl, Nat.le_of_ble_eq_true rfl⟩) hS (fun H locs hP hS => ?_)
  refine xn_zne (tgt := 21) hx hb dX7_copy_16 (by decide) (by omega) (fun c_16 => ?_) (fun c_16 => absurd c_16 (by omega))
  refine lv_aload_n hx hb dX7_copy_21 rfl (lv_at hl 0 rfl) ?_
  refine xk_get hx hb hts (inX7_copy_X7) hown hK hP 0 (by omega) (ci := 7) e2_obj rfl 2 (by decide) (flX7_copy_9 hts) rfl (.ref (ad 1)) rfl dX7_copy_22 ?_
  refine lv_iload_n hx hb dX7_copy_25 rfl (lv_at hl 1 rfl) ?_
  refine xk_iald hx hb hK hP 1 (by omega) (n := 4) (e2_row 4 (by decide) rfl) rfl k (by omega) (by decide) dX7_copy_26 ?_
  refine xn_eqi (y := nI (sl k)) (hZ.1.trans (lz_lt hL)) ?_
  refine lv_bipush (v := (-9)) hx hb dX7_copy_27 (by decide) ?_
  refine lv_icmp_eq (tgt := 43) hx hb dX7_copy_29 (by decide) (fun c_29 => absurd c_29 (lz_ne hL)) (fun c_29 => ?_)
  refine lv_aload_n hx hb dX7_copy_32 rfl (lv_at hl 0 rfl) ?_
  refine xk_get hx hb hts (inX7_copy_X7) hown hK hP 0 (by omega) (ci := 7) e2_obj rfl 2 (by decide) (flX7_copy_9 hts) rfl (.ref (ad 1)) rfl dX7_copy_33 ?_
  refine lv_iload_n hx hb dX7_copy_36 rfl (lv_at hl 3 rfl) ?_
  refine xk_iald hx hb hK hP 1 (by omega) (n := 4) (e2_row 4 (by decide) rfl) rfl o (by omega) (by decide) dX7_copy_37 ?_
  refine xn_eqi (y := nI (sl o)) (hZo.1.trans (lz_lt hM)) ?_
  refine lv_bipush (v := (-9)) hx hb dX7_copy_38 (by decide) ?_
  refine lv_icmp_ne (tgt := 49) hx hb dX7_copy_40 (by decide) (fun c_40 => ?_) (fun c_40 => absurd c_40 (lz_ne hM))
  refine lv_aload_n hx hb dX7_copy_49 rfl (lv_at hl 0 rfl) ?_
  refine xk_get hx hb hts (inX7_copy_X7) hown hK hP 0 (by omega) (ci := 7) e2_obj rfl 2 (by decide) (flX7_copy_9 hts) rfl (.ref (ad 1)) rfl dX7_copy_50 ?_
  refine lv_iload_n hx hb dX7_copy_53 rfl (lv_at hl 1 rfl) ?_
  refine xk_iald hx hb hK hP 1 (by omega) (n := 4) (e2_row 4 (by decide) rfl) rfl k (by omega) (by decide) dX7_copy_54 ?_
  refine xn_eqi (y := nI (sl k)) (hZ.1.trans (lz_lt hL)) ?_
  refine lv_aload_n hx hb dX7_copy_55 rfl (lv_at hl 0 rfl) ?_
  refine xk_get hx hb hts (inX7_copy_X7) hown hK hP 0 (by omega) (ci := 7) e2_obj rfl 2 (by decide) (flX7_copy_9 hts) rfl (.ref (ad 1)) rfl dX7_copy_56 ?_
  refine lv_iload_n hx hb dX7_copy_59 rfl (lv_at hl 3 rfl) ?_
  refine xk_iald hx hb hK hP 1 (by omega) (n := 4) (e2_row 4 (by decide) rfl) rfl o (by omega) (by decide) dX7_copy_60 ?_
  refine xn_eqi (y := nI (sl o)) (hZo.1.trans (lz_lt hM)) ?_
  refine xn_ieq (tgt := 70) hx hb dX7_copy_61 (by decide) (by omega) (by omega) (fun c_61 => ?_) (fun c_61 => absurd c_61 (by omega))
  refine lv_iload_n hx hb dX7_copy_70 rfl (lv_at hl 2 rfl) ?_
  refine lv_if_lt (tgt := 109) hx hb dX7_copy_71 (by decide) (fun c_71 => ?_) (fun c_71 => ?_)
  · refine lv_iconst (v := nI 0) hx hb dX7_copy_109 (by decide) ?_
    refine lv_istore (lv' := [(6, .int (nI 0)), (0, .ref (ad 0)), (1, .int (nI k)), (2, .int a), (3, .int (nI o)), (4, .int b), (5, .int m)]) hx hb dX7_copy_110 hl (by decide) rfl (fun ls hl => ?_)
    refine lv_iload hx hb dX7_copy_112 (lv_at hl 0 rfl) ?_
    refine xn_zeq (tgt := 144) hx hb dX7_copy_114 (by decide) (by omega) (fun c_114 => ?_) (fun c_114 => absurd c_114 (by omega))
    refine lv_aload_n hx hb dX7_copy_144 rfl (lv_at hl 1 rfl) ?_
    refine lv_iconst (v := nI 3) hx hb dX7_copy_145 (by decide) ?_
    refine xk_fi (va_runV (As := [.int (nI 3)]) (rest := []) ⟨hx, hb, hml, hown, hts⟩ (k2_fails l hI 3) (cwV 1 hts gX7_copy_X7_fails rfl rfl rfl (by decide +kernel) ⟨Nat.le_of_ble_eq_true rfl, Nat.le_of_ble_eq_true rfl⟩) (xk_preV X2_ok hK hX hP (xk_recv hK hP 0 (by omega) (ci := 7) e2_obj rfl)) rfl rfl hl.1 rfl (lv_room (Nat.le_of_ble_eq_true rfl)) dX7_copy_146 ⟨Nat.le_of_ble_eq_true rfl, Nat.le_of_ble_eq_true rfl⟩) hS (fun H locs hP hS => ?_)
    exact xk_iret hx hb hr (vp_nar_int _) X2_ok hK hX hP hS hlk dX7_copy_149 (⟨rfl, I2_ft hJ0⟩)
  · obtain ⟨u, hu, rfl⟩ := nI_of c_71
    refine lv_iload hx hb dX7_copy_74 (lv_at hl 4 rfl) ?_
    refine lv_if_lt (tgt := 109) hx hb dX7_copy_76 (by decide) (fun c_76 => ?_) (fun c_76 => ?_)
    · refine lv_iconst (v := nI 0) hx hb dX7_copy_109 (by decide) ?_
      refine lv_istore (lv' := [(6, .int (nI 0)), (0, .ref (ad 0)), (1, .int (nI k)), (2, .int (nI u)), (3, .int (nI o)), (4, .int b), (5, .int m)]) hx hb dX7_copy_110 hl (by decide) rfl (fun ls hl => ?_)
      refine lv_iload hx hb dX7_copy_112 (lv_at hl 0 rfl) ?_
      refine xn_zeq (tgt := 144) hx hb dX7_copy_114 (by decide) (by omega) (fun c_114 => ?_) (fun c_114 => absurd c_114 (by omega))
      refine lv_aload_n hx hb dX7_copy_144 rfl (lv_at hl 1 rfl) ?_
      refine lv_iconst (v := nI 3) hx hb dX7_copy_145 (by decide) ?_
      refine xk_fi (va_runV (As := [.int (nI 3)]) (rest := []) ⟨hx, hb, hml, hown, hts⟩ (k2_fails l hI 3) (cwV 1 hts gX7_copy_X7_fails rfl rfl rfl (by decide +kernel) ⟨Nat.le_of_ble_eq_true rfl, Nat.le_of_ble_eq_true rfl⟩) (xk_preV X2_ok hK hX hP (xk_recv hK hP 0 (by omega) (ci := 7) e2_obj rfl)) rfl rfl hl.1 rfl (lv_room (Nat.le_of_ble_eq_true rfl)) dX7_copy_146 ⟨Nat.le_of_ble_eq_true rfl, Nat.le_of_ble_eq_true rfl⟩) hS (fun H locs hP hS => ?_)
      exact xk_iret hx hb hr (vp_nar_int _) X2_ok hK hX hP hS hlk dX7_copy_149 (⟨rfl, I2_ft hJ0⟩)
    · obtain ⟨u1, hu1, rfl⟩ := nI_of c_76
      refine lv_iload hx hb dX7_copy_79 (lv_at hl 5 rfl) ?_
      refine lv_if_lt (tgt := 109) hx hb dX7_copy_81 (by decide) (fun c_81 => ?_) (fun c_81 => ?_)
      · refine lv_iconst (v := nI 0) hx hb dX7_copy_109 (by decide) ?_
        refine lv_istore (lv' := [(6, .int (nI 0)), (0, .ref (ad 0)), (1, .int (nI k)), (2, .int (nI u)), (3, .int (nI o)), (4, .int (nI u1)), (5, .int m)]) hx hb dX7_copy_110 hl (by decide) rfl (fun ls hl => ?_)
        refine lv_iload hx hb dX7_copy_112 (lv_at hl 0 rfl) ?_
        refine xn_zeq (tgt := 144) hx hb dX7_copy_114 (by decide) (by omega) (fun c_114 => ?_) (fun c_114 => absurd c_114 (by omega))
        refine lv_aload_n hx hb dX7_copy_144 rfl (lv_at hl 1 rfl) ?_
        refine lv_iconst (v := nI 3) hx hb dX7_copy_145 (by decide) ?_
        refine xk_fi (va_runV (As := [.int (nI 3)]) (rest := []) ⟨hx, hb, hml, hown, hts⟩ (k2_fails l hI 3) (cwV 1 hts gX7_copy_X7_fails rfl rfl rfl (by decide +kernel) ⟨Nat.le_of_ble_eq_true rfl, Nat.le_of_ble_eq_true rfl⟩) (xk_preV X2_ok hK hX hP (xk_recv hK hP 0 (by omega) (ci := 7) e2_obj rfl)) rfl rfl hl.1 rfl (lv_room (Nat.le_of_ble_eq_true rfl)) dX7_copy_146 ⟨Nat.le_of_ble_eq_true rfl, Nat.le_of_ble_eq_true rfl⟩) hS (fun H locs hP hS => ?_)
        exact xk_iret hx hb hr (vp_nar_int _) X2_ok hK hX hP hS hlk dX7_copy_149 (⟨rfl, I2_ft hJ0⟩)
      · obtain ⟨v, hv, rfl⟩ := nI_of c_81
        refine lv_iload_n hx hb dX7_copy_84 rfl (lv_at hl 2 rfl) ?_
        refine lv_aload_n hx hb dX7_copy_85 rfl (lv_at hl 0 rfl) ?_
        refine xk_get hx hb hts (inX7_copy_X7) hown hK hP 0 (by omega) (ci := 7) e2_obj rfl 3 (by decide) (flX7_copy_13 hts) rfl (.ref (ad 2)) rfl dX7_copy_86 ?_
        refine lv_iload_n hx hb dX7_copy_89 rfl (lv_at hl 1 rfl) ?_
        refine xk_iald hx hb hK hP 2 (by omega) (n := 4) (e2_row 4 (by decide) rfl) rfl k (by omega) (by decide) dX7_copy_90 ?_
        refine xn_eqi (y := nI (sn k)) ((hZ.2.2 hL).1) ?_
        refine xn_igt (tgt := 109) hx hb dX7_copy_91 (by decide) (by omega) (by omega) (fun c_91 => ?_) (fun c_91 => ?_)
        · refine lv_iconst (v := nI 0) hx hb dX7_copy_109 (by decide) ?_
          refine lv_istore (lv' := [(6, .int (nI 0)), (0, .ref (ad 0)), (1, .int (nI k)), (2, .int (nI u)), (3, .int (nI o)), (4, .int (nI u1)), (5, .int (nI v))]) hx hb dX7_copy_110 hl (by decide) rfl (fun ls hl => ?_)
          refine lv_iload hx hb dX7_copy_112 (lv_at hl 0 rfl) ?_
          refine xn_zeq (tgt := 144) hx hb dX7_copy_114 (by decide) (by omega) (fun c_114 => ?_) (fun c_114 => absurd c_114 (by omega))
          refine lv_aload_n hx hb dX7_copy_144 rfl (lv_at hl 1 rfl) ?_
          refine lv_iconst (v := nI 3) hx hb dX7_copy_145 (by decide) ?_
          refine xk_fi (va_runV (As := [.int (nI 3)]) (rest := []) ⟨hx, hb, hml, hown, hts⟩ (k2_fails l hI 3) (cwV 1 hts gX7_copy_X7_fails rfl rfl rfl (by decide +kernel) ⟨Nat.le_of_ble_eq_true rfl, Nat.le_of_ble_eq_true rfl⟩) (xk_preV X2_ok hK hX hP (xk_recv hK hP 0 (by omega) (ci := 7) e2_obj rfl)) rfl rfl hl.1 rfl (lv_room (Nat.le_of_ble_eq_true rfl)) dX7_copy_146 ⟨Nat.le_of_ble_eq_true rfl, Nat.le_of_ble_eq_true rfl⟩) hS (fun H locs hP hS => ?_)
          exact xk_iret hx hb hr (vp_nar_int _) X2_ok hK hX hP hS hlk dX7_copy_149 (⟨rfl, I2_ft hJ0⟩)
        · refine lv_iload hx hb dX7_copy_94 (lv_at hl 4 rfl) ?_
          refine lv_aload_n hx hb dX7_copy_96 rfl (lv_at hl 0 rfl) ?_
          refine xk_get hx hb hts (inX7_copy_X7) hown hK hP 0 (by omega) (ci := 7) e2_obj rfl 3 (by decide) (flX7_copy_13 hts) rfl (.ref (ad 2)) rfl dX7_copy_97 ?_
          refine lv_iload_n hx hb dX7_copy_100 rfl (lv_at hl 3 rfl) ?_
          refine xk_iald hx hb hK hP 2 (by omega) (n := 4) (e2_row 4 (by decide) rfl) rfl o (by omega) (by decide) dX7_copy_101 ?_
          refine xn_eqi (y := nI (sn o)) ((hZo.2.2 hM).1) ?_
          refine xn_igt (tgt := 109) hx hb dX7_copy_102 (by decide) (by omega) (by omega) (fun c_102 => ?_) (fun c_102 => ?_)
          · refine lv_iconst (v := nI 0) hx hb dX7_copy_109 (by decide) ?_
            refine lv_istore (lv' := [(6, .int (nI 0)), (0, .ref (ad 0)), (1, .int (nI k)), (2, .int (nI u)), (3, .int (nI o)), (4, .int (nI u1)), (5, .int (nI v))]) hx hb dX7_copy_110 hl (by decide) rfl (fun ls hl => ?_)
            refine lv_iload hx hb dX7_copy_112 (lv_at hl 0 rfl) ?_
            refine xn_zeq (tgt := 144) hx hb dX7_copy_114 (by decide) (by omega) (fun c_114 => ?_) (fun c_114 => absurd c_114 (by omega))
            refine lv_aload_n hx hb dX7_copy_144 rfl (lv_at hl 1 rfl) ?_
            refine lv_iconst (v := nI 3) hx hb dX7_copy_145 (by decide) ?_
            refine xk_fi (va_runV (As := [.int (nI 3)]) (rest := []) ⟨hx, hb, hml, hown, hts⟩ (k2_fails l hI 3) (cwV 1 hts gX7_copy_X7_fails rfl rfl rfl (by decide +kernel) ⟨Nat.le_of_ble_eq_true rfl, Nat.le_of_ble_eq_true rfl⟩) (xk_preV X2_ok hK hX hP (xk_recv hK hP 0 (by omega) (ci := 7) e2_obj rfl)) rfl rfl hl.1 rfl (lv_room (Nat.le_of_ble_eq_true rfl)) dX7_copy_146 ⟨Nat.le_of_ble_eq_true rfl, Nat.le_of_ble_eq_true rfl⟩) hS (fun H locs hP hS => ?_)
            exact xk_iret hx hb hr (vp_nar_int _) X2_ok hK hX hP hS hlk dX7_copy_149 (⟨rfl, I2_ft hJ0⟩)
          · refine lv_iconst (v := nI 1) hx hb dX7_copy_105 (by decide) ?_
            refine lv_goto (tgt := 110) hx hb dX7_copy_106 (by decide) ?_
            refine lv_istore (lv' := [(6, .int (nI 1)), (0, .ref (ad 0)), (1, .int (nI k)), (2, .int (nI u)), (3, .int (nI o)), (4, .int (nI u1)), (5, .int (nI v))]) hx hb dX7_copy_110 hl (by decide) rfl (fun ls hl => ?_)
            refine lv_iload hx hb dX7_copy_112 (lv_at hl 0 rfl) ?_
            refine xn_zeq (tgt := 144) hx hb dX7_copy_114 (by decide) (by omega) (fun c_114 => absurd c_114 (by omega)) (fun c_114 => ?_)
            refine lv_iload hx hb dX7_copy_117 (lv_at hl 6 rfl) ?_
            refine lv_aload_n hx hb dX7_copy_119 rfl (lv_at hl 1 rfl) ?_
            refine xk_get hx hb hts (inX7_copy_X7) hown hK hP 0 (by omega) (ci := 7) e2_obj rfl 3 (by decide) (flX7_copy_13 hts) rfl (.ref (ad 2)) rfl dX7_copy_120 ?_
            refine lv_iload_n hx hb dX7_copy_123 rfl (lv_at hl 2 rfl) ?_
            refine xk_iald hx hb hK hP 2 (by omega) (n := 4) (e2_row 4 (by decide) rfl) rfl k (by omega) (by decide) dX7_copy_124 ?_
            refine xn_eqi (y := nI (sn k)) ((hZ.2.2 hL).1) ?_
            refine lv_iload_n hx hb dX7_copy_125 rfl (lv_at hl 3 rfl) ?_
            refine xn_isub hx hb (by omega) dX7_copy_126 ?_
            refine xn_igt (tgt := 144) hx hb dX7_copy_127 (by decide) (by omega) (by omega) (fun c_127 => ?_) (fun c_127 => ?_)
            · refine lv_aload_n hx hb dX7_copy_144 rfl (lv_at hl 1 rfl) ?_
              refine lv_iconst (v := nI 3) hx hb dX7_copy_145 (by decide) ?_
              refine xk_fi (va_runV (As := [.int (nI 3)]) (rest := []) ⟨hx, hb, hml, hown, hts⟩ (k2_fails l hI 3) (cwV 1 hts gX7_copy_X7_fails rfl rfl rfl (by decide +kernel) ⟨Nat.le_of_ble_eq_true rfl, Nat.le_of_ble_eq_true rfl⟩) (xk_preV X2_ok hK hX hP (xk_recv hK hP 0 (by omega) (ci := 7) e2_obj rfl)) rfl rfl hl.1 rfl (lv_room (Nat.le_of_ble_eq_true rfl)) dX7_copy_146 ⟨Nat.le_of_ble_eq_true rfl, Nat.le_of_ble_eq_true rfl⟩) hS (fun H locs hP hS => ?_)
              exact xk_iret hx hb hr (vp_nar_int _) X2_ok hK hX hP hS hlk dX7_copy_149 (⟨rfl, I2_ft hJ0⟩)
            · exact absurd ⟨rfl, rfl⟩ (hxy u v (by omega))

set_option maxHeartbeats 4000000 in
set_option maxRecDepth 100000 in
theorem a2_copy_i2 (l : Launch) {D : va_G} {ca : Nat → ClassId} {ad : Nat → Nat} (hI : Ij ad 18) {σ : Sg} {n p g rn : Nat} {d : Nat → Nat} {th rd : Nat → Nat → Nat} {sl sn : Nat → Nat} {sc : Nat → Nat → Int32} {ft tr : Int32} {k : Nat} {o : Nat} {a m : Nat} {b : Int32} (hJ : I2 n p g rn d th rd sl sn sc ft tr σ) (hk4 : k < 4) (ho4 : o < 4) (hL : sl k < 3) (hM : sl o < 3) (heq : sl k = sl o) (ham : a + m ≤ sn k) (hxy : ∀ u v, u + v ≤ sn o → ¬ (b = nI u ∧ nI m = nI v)) : C2i l D ca ad yX7_copy wsX7_copy { frames := 2, cells := 0, slots := 0, locals := 42 } [.ref (ad 0), .int (nI k), .int (nI a), .int (nI o), .int b, .int (nI m)] σ (fun r σ' => r = (-10) - nI 3 ∧ I2 n p g rn d th rd sl sn sc (nI 3) tr σ') := by
  refine xk_entry cX7_copy 10 (some .int) (by decide) rfl (Nat.le_of_ble_eq_true rfl) ?_
  intro pP eE sS mM below meth cC hx hb hml hr hts hown hlk hP hK hX hS ls hl
  have hl : lv_has ls 10 [(0, .ref (ad 0)), (1, .int (nI k)), (2, .int (nI a)), (3, .int (nI o)), (4, .int b), (5, .int (nI m))] := hl
  obtain ⟨hT, hR, hRd, hSh, hnp, hft, htr⟩ := id hJ
  have hn5 := hT.2.2.1
  have hg9 := hT.2.2.2.1
  have hp6 := hR.2.1
  have hrn8 := hRd.2.1
  refine lv_aload_n hx hb dX7_copy_0 rfl (lv_at hl 0 rfl) ?_
  refine lv_iconst (v := nI 0) hx hb dX7_copy_1 (by decide) ?_
  refine xk_put hx hb hts (inX7_copy_X7) tyX7 tyX7_ok nmX7 hown hK hI hP hS 0 (by omega) (ci := 7) e2_obj rfl 0 (by decide) (flX7_copy_61 hts) rfl rfl (by decide +kernel) (Nat.le_of_ble_eq_true rfl) e2_loc (by rw [e2_obj]; simp [up]) dX7_copy_2 (fun H locs hP hS => ?_)
  obtain ⟨σ0, hσ0⟩ : ∃ τ, τ = up σ 0 0 (nI 0) := ⟨_, rfl⟩
  rw [← hσ0] at hP
  have hJ0 : I2 n p g rn d th rd sl sn sc (nI 0) tr σ0 := by rw [hσ0]; exact I2_ft hJ
  obtain ⟨hT, hR, hRd, hSh, -, hft, htr⟩ := id hJ0
  have hZ := hSh k hk4
  have hz60 : sl k < 3 → sn k ≤ 60 := fun q => (hZ.2.2 q).2.1
  have hZo := hSh o ho4
  have ho60 : sl o < 3 → sn o ≤ 60 := fun q => (hZo.2.2 q).2.1
  have hk60 := hz60 hL
  have hom60 := ho60 hM
  refine lv_iload_n hx hb dX7_copy_5 rfl (lv_at hl 1 rfl) ?_
  refine xk_fi (va_runS (As := [.int (nI k)]) (rest := []) ⟨hx, hb, hml, hown, hts⟩ (k2_isSheet_t l hI (nI k) (xn_in (by omega) (by omega) (by omega))) (va_cwS 1 hts gX7_copy_X7_isSheet rfl rfl rfl (by decide +kernel) ⟨Nat.le_of_ble_eq_true rfl, Nat.le_of_ble_eq_true rfl⟩) (xk_preS X2_ok hK hX hP) rfl rfl hl.1 rfl (lv_room (Nat.le_of_ble_eq_true rfl)) dX7_copy_6 ⟨Nat.le_of_ble_eq_true rfl, Nat.le_of_ble_eq_true rfl⟩) hS (fun H locs hP hS => ?_)
  refine xn_zeq (tgt := 19) hx hb dX7_copy_9 (by decide) (by omega) (fun c_9 => absurd c_9 (by omega)) (fun c_9 => ?_)
  refine lv_iload_n hx hb dX7_copy_12 rfl (lv_at hl 3 rfl) ?_
  refine xk_fi (va_runS (As := [.int (nI o)]) (rest := []) ⟨hx, hb, hml, hown, hts⟩ (k2_isSheet_t l hI (nI o) (xn_in (by omega) (by omega) (by omega))) (va_cwS 1 hts gX7_copy_X7_isSheet rfl rfl rfl (by decide +kernel) ⟨Nat.le_of_ble_eq_true rfl, Nat.le_of_ble_eq_true rfl⟩) (xk_preS X2_ok hK hX hP) rfl rfl hl.1 rfl (lv_room (Nat.le_of_ble_eq_true rfl)) dX7_copy_13 ⟨Nat.le_of_ble_eq_true rfl, Nat.le_of_ble_eq_true rfl⟩) hS (fun H locs hP hS => ?_)
  refine xn_zne (tgt := 21) hx hb dX7_copy_16 (by decide) (by omega) (fun c_16 => ?_) (fun c_16 => absurd c_16 (by omega))
  refine lv_aload_n hx hb dX7_copy_21 rfl (lv_at hl 0 rfl) ?_
  refine xk_get hx hb hts (inX7_copy_X7) hown hK hP 0 (by omega) (ci := 7) e2_obj rfl 2 (by decide) (flX7_copy_9 hts) rfl (.ref (ad 1)) rfl dX7_copy_22 ?_
  refine lv_iload_n hx hb dX7_copy_25 rfl (lv_at hl 1 rfl) ?_
  refine xk_iald hx hb hK hP 1 (by omega) (n := 4) (e2_row 4 (by decide) rfl) rfl k (by omega) (by decide) dX7_copy_26 ?_
  refine xn_eqi (y := nI (sl k)) (hZ.1.trans (lz_lt hL)) ?_
  refine lv_bipush (v := (-9)) hx hb dX7_copy_27 (by decide) ?_
  refine lv_icmp_eq (tgt := 43) hx hb dX7_copy_29 (by decide) (fun c_29 => absurd c_29 (lz_ne hL)) (fun c_29 => ?_)
  refine lv_aload_n hx hb dX7_copy_32 rfl (lv_at hl 0 rfl) ?_
  refine xk_get hx hb hts (inX7_copy_X7) hown hK hP 0 (by omega) (ci := 7) e2_obj rfl 2 (by decide) (flX7_copy_9 hts) rfl (.ref (ad 1)) rfl dX7_copy_33 ?_
  refine lv_iload_n hx hb dX7_copy_36 rfl (lv_at hl 3 rfl) ?_
  refine xk_iald hx hb hK hP 1 (by omega) (n := 4) (e2_row 4 (by decide) rfl) rfl o (by omega) (by decide) dX7_copy_37 ?_
  refine xn_eqi (y := nI (sl o)) (hZo.1.trans (lz_lt hM)) ?_
  refine lv_bipush (v := (-9)) hx hb dX7_copy_38 (by decide) ?_
  refine lv_icmp_ne (tgt := 49) hx hb dX7_copy_40 (by decide) (fun c_40 => ?_) (fun c_40 => absurd c_40 (lz_ne hM))
  refine lv_aload_n hx hb dX7_copy_49 rfl (lv_at hl 0 rfl) ?_
  refine xk_get hx hb hts (inX7_copy_X7) hown hK hP 0 (by omega) (ci := 7) e2_obj rfl 2 (by decide) (flX7_copy_9 hts) rfl (.ref (ad 1)) rfl dX7_copy_50 ?_
  refine lv_iload_n hx hb dX7_copy_53 rfl (lv_at hl 1 rfl) ?_
  refine xk_iald hx hb hK hP 1 (by omega) (n := 4) (e2_row 4 (by decide) rfl) rfl k (by omega) (by decide) dX7_copy_54 ?_
  refine xn_eqi (y := nI (sl k)) (hZ.1.trans (lz_lt hL)) ?_
  refine lv_aload_n hx hb dX7_copy_55 rfl (lv_at hl 0 rfl) ?_
  refine xk_get hx hb hts (inX7_copy_X7) hown hK hP 0 (by omega) (ci := 7) e2_obj rfl 2 (by decide) (flX7_copy_9 hts) rfl (.ref (ad 1)) rfl dX7_copy_56 ?_
  refine lv_iload_n hx hb dX7_copy_59 rfl (lv_at hl 3 rfl) ?_
  refine xk_iald hx hb hK hP 1 (by omega) (n := 4) (e2_row 4 (by decide) rfl) rfl o (by omega) (by decide) dX7_copy_60 ?_
  refine xn_eqi (y := nI (sl o)) (hZo.1.trans (lz_lt hM)) ?_
  refine xn_ieq (tgt := 70) hx hb dX7_copy_61 (by decide) (by omega) (by omega) (fun c_61 => ?_) (fun c_61 => absurd c_61 (by omega))
  refine lv_iload_n hx hb dX7_copy_70 rfl (lv_at hl 2 rfl) ?_
  refine xn_zlt (tgt := 109) hx hb dX7_copy_71 (by decide) (by omega) (fun c_71 => absurd c_71 (by omega)) (fun c_71 => ?_)
  refine lv_iload hx hb dX7_copy_74 (lv_at hl 4 rfl) ?_
  refine lv_if_lt (tgt := 109) hx hb dX7_copy_76 (by decide) (fun c_76 => ?_) (fun c_76 => ?_)
  · refine lv_iconst (v := nI 0) hx hb dX7_copy_109 (by decide) ?_
    refine lv_istore (lv' := [(6, .int (nI 0)), (0, .ref (ad 0)), (1, .int (nI k)), (2, .int (nI a)), (3, .int (nI o)), (4, .int b), (5, .int (nI m))]) hx hb dX7_copy_110 hl (by decide) rfl (fun ls hl => ?_)
    refine lv_iload hx hb dX7_copy_112 (lv_at hl 0 rfl) ?_
    refine xn_zeq (tgt := 144) hx hb dX7_copy_114 (by decide) (by omega) (fun c_114 => ?_) (fun c_114 => absurd c_114 (by omega))
    refine lv_aload_n hx hb dX7_copy_144 rfl (lv_at hl 1 rfl) ?_
    refine lv_iconst (v := nI 3) hx hb dX7_copy_145 (by decide) ?_
    refine xk_fi (va_runV (As := [.int (nI 3)]) (rest := []) ⟨hx, hb, hml, hown, hts⟩ (k2_fails l hI 3) (cwV 1 hts gX7_copy_X7_fails rfl rfl rfl (by decide +kernel) ⟨Nat.le_of_ble_eq_true rfl, Nat.le_of_ble_eq_true rfl⟩) (xk_preV X2_ok hK hX hP (xk_recv hK hP 0 (by omega) (ci := 7) e2_obj rfl)) rfl rfl hl.1 rfl (lv_room (Nat.le_of_ble_eq_true rfl)) dX7_copy_146 ⟨Nat.le_of_ble_eq_true rfl, Nat.le_of_ble_eq_true rfl⟩) hS (fun H locs hP hS => ?_)
    exact xk_iret hx hb hr (vp_nar_int _) X2_ok hK hX hP hS hlk dX7_copy_149 (⟨rfl, I2_ft hJ0⟩)
  · obtain ⟨u1, hu1, rfl⟩ := nI_of c_76
    refine lv_iload hx hb dX7_copy_79 (lv_at hl 5 rfl) ?_
    refine xn_zlt (tgt := 109) hx hb dX7_copy_81 (by decide) (by omega) (fun c_81 => absurd c_81 (by omega)) (fun c_81 => ?_)
    refine lv_iload_n hx hb dX7_copy_84 rfl (lv_at hl 2 rfl) ?_
    refine lv_aload_n hx hb dX7_copy_85 rfl (lv_at hl 0 rfl) ?_
    refine xk_get hx hb hts (inX7_copy_X7) hown hK hP 0 (by omega) (ci := 7) e2_obj rfl 3 (by decide) (flX7_copy_13 hts) rfl (.ref (ad 2)) rfl dX7_copy_86 ?_
    refine lv_iload_n hx hb dX7_copy_89 rfl (lv_at hl 1 rfl) ?_
    refine xk_iald hx hb hK hP 2 (by omega) (n := 4) (e2_row 4 (by decide) rfl) rfl k (by omega) (by decide) dX7_copy_90 ?_
    refine xn_eqi (y := nI (sn k)) ((hZ.2.2 hL).1) ?_
    refine xn_igt (tgt := 109) hx hb dX7_copy_91 (by decide) (by omega) (by omega) (fun c_91 => absurd c_91 (by omega)) (fun c_91 => ?_)
    refine lv_iload hx hb dX7_copy_94 (lv_at hl 4 rfl) ?_
    refine lv_aload_n hx hb dX7_copy_96 rfl (lv_at hl 0 rfl) ?_
    refine xk_get hx hb hts (inX7_copy_X7) hown hK hP 0 (by omega) (ci := 7) e2_obj rfl 3 (by decide) (flX7_copy_13 hts) rfl (.ref (ad 2)) rfl dX7_copy_97 ?_
    refine lv_iload_n hx hb dX7_copy_100 rfl (lv_at hl 3 rfl) ?_
    refine xk_iald hx hb hK hP 2 (by omega) (n := 4) (e2_row 4 (by decide) rfl) rfl o (by omega) (by decide) dX7_copy_101 ?_
    refine xn_eqi (y := nI (sn o)) ((hZo.2.2 hM).1) ?_
    refine xn_igt (tgt := 109) hx hb dX7_copy_102 (by decide) (by omega) (by omega) (fun c_102 => ?_) (fun c_102 => ?_)
    · refine lv_iconst (v := nI 0) hx hb dX7_copy_109 (by decide) ?_
      refine lv_istore (lv' := [(6, .int (nI 0)), (0, .ref (ad 0)), (1, .int (nI k)), (2, .int (nI a)), (3, .int (nI o)), (4, .int (nI u1)), (5, .int (nI m))]) hx hb dX7_copy_110 hl (by decide) rfl (fun ls hl => ?_)
      refine lv_iload hx hb dX7_copy_112 (lv_at hl 0 rfl) ?_
      refine xn_zeq (tgt := 144) hx hb dX7_copy_114 (by decide) (by omega) (fun c_114 => ?_) (fun c_114 => absurd c_114 (by omega))
      refine lv_aload_n hx hb dX7_copy_144 rfl (lv_at hl 1 rfl) ?_
      refine lv_iconst (v := nI 3) hx hb dX7_copy_145 (by decide) ?_
      refine xk_fi (va_runV (As := [.int (nI 3)]) (rest := []) ⟨hx, hb, hml, hown, hts⟩ (k2_fails l hI 3) (cwV 1 hts gX7_copy_X7_fails rfl rfl rfl (by decide +kernel) ⟨Nat.le_of_ble_eq_true rfl, Nat.le_of_ble_eq_true rfl⟩) (xk_preV X2_ok hK hX hP (xk_recv hK hP 0 (by omega) (ci := 7) e2_obj rfl)) rfl rfl hl.1 rfl (lv_room (Nat.le_of_ble_eq_true rfl)) dX7_copy_146 ⟨Nat.le_of_ble_eq_true rfl, Nat.le_of_ble_eq_true rfl⟩) hS (fun H locs hP hS => ?_)
      exact xk_iret hx hb hr (vp_nar_int _) X2_ok hK hX hP hS hlk dX7_copy_149 (⟨rfl, I2_ft hJ0⟩)
    · refine lv_iconst (v := nI 1) hx hb dX7_copy_105 (by decide) ?_
      refine lv_goto (tgt := 110) hx hb dX7_copy_106 (by decide) ?_
      refine lv_istore (lv' := [(6, .int (nI 1)), (0, .ref (ad 0)), (1, .int (nI k)), (2, .int (nI a)), (3, .int (nI o)), (4, .int (nI u1)), (5, .int (nI m))]) hx hb dX7_copy_110 hl (by decide) rfl (fun ls hl => ?_)
      refine lv_iload hx hb dX7_copy_112 (lv_at hl 0 rfl) ?_
      refine xn_zeq (tgt := 144) hx hb dX7_copy_114 (by decide) (by omega) (fun c_114 => absurd c_114 (by omega)) (fun c_114 => ?_)
      refine lv_iload hx hb dX7_copy_117 (lv_at hl 6 rfl) ?_
      refine lv_aload_n hx hb dX7_copy_119 rfl (lv_at hl 1 rfl) ?_
      refine xk_get hx hb hts (inX7_copy_X7) hown hK hP 0 (by omega) (ci := 7) e2_obj rfl 3 (by decide) (flX7_copy_13 hts) rfl (.ref (ad 2)) rfl dX7_copy_120 ?_
      refine lv_iload_n hx hb dX7_copy_123 rfl (lv_at hl 2 rfl) ?_
      refine xk_iald hx hb hK hP 2 (by omega) (n := 4) (e2_row 4 (by decide) rfl) rfl k (by omega) (by decide) dX7_copy_124 ?_
      refine xn_eqi (y := nI (sn k)) ((hZ.2.2 hL).1) ?_
      refine lv_iload_n hx hb dX7_copy_125 rfl (lv_at hl 3 rfl) ?_
      refine xn_isub hx hb (by omega) dX7_copy_126 ?_
      refine xn_igt (tgt := 144) hx hb dX7_copy_127 (by decide) (by omega) (by omega) (fun c_127 => absurd c_127 (by omega)) (fun c_127 => ?_)
      refine lv_iload hx hb dX7_copy_130 (lv_at hl 6 rfl) ?_
      refine lv_aload_n hx hb dX7_copy_132 rfl (lv_at hl 1 rfl) ?_
      refine xk_get hx hb hts (inX7_copy_X7) hown hK hP 0 (by omega) (ci := 7) e2_obj rfl 3 (by decide) (flX7_copy_13 hts) rfl (.ref (ad 2)) rfl dX7_copy_133 ?_
      refine lv_iload_n hx hb dX7_copy_136 rfl (lv_at hl 4 rfl) ?_
      refine xk_iald hx hb hK hP 2 (by omega) (n := 4) (e2_row 4 (by decide) rfl) rfl o (by omega) (by decide) dX7_copy_137 ?_
      refine xn_eqi (y := nI (sn o)) ((hZo.2.2 hM).1) ?_
      refine lv_iload hx hb dX7_copy_138 (lv_at hl 5 rfl) ?_
      refine xn_isub hx hb (by omega) dX7_copy_140 ?_
      refine xn_ile (tgt := 150) hx hb dX7_copy_141 (by decide) (by omega) (by omega) (fun c_141 => ?_) (fun c_141 => ?_)
      · exact absurd ⟨rfl, rfl⟩ (hxy u1 m (by omega))
      · refine lv_aload_n hx hb dX7_copy_144 rfl (lv_at hl 1 rfl) ?_
        refine lv_iconst (v := nI 3) hx hb dX7_copy_145 (by decide) ?_
        refine xk_fi (va_runV (As := [.int (nI 3)]) (rest := []) ⟨hx, hb, hml, hown, hts⟩ (k2_fails l hI 3) (cwV 1 hts gX7_copy_X7_fails rfl rfl rfl (by decide +kernel) ⟨Nat.le_of_ble_eq_true rfl, Nat.le_of_ble_eq_true rfl⟩) (xk_preV X2_ok hK hX hP (xk_recv hK hP 0 (by omega) (ci := 7) e2_obj rfl)) rfl rfl hl.1 rfl (lv_room (Nat.le_of_ble_eq_true rfl)) dX7_copy_146 ⟨Nat.le_of_ble_eq_true rfl, Nat.le_of_ble_eq_true rfl⟩) hS (fun H locs hP hS => ?_)
        exact xk_iret hx hb hr (vp_nar_int _) X2_ok hK hX hP hS hlk dX7_copy_149 (⟨rfl, I2_ft hJ0⟩)

set_option maxRecDepth 20000 in
theorem flX7_copy_16 {s : State} {av : Array Value} (hts : ∀ w ∈ wsX7_copy, w.before av s = true) : (Cond.fieldLink RX7 16 "WellBackModel" "cells" "[I").before av s = true := hts _ (by decide +kernel)
set_option maxHeartbeats 4000000 in
set_option maxRecDepth 100000 in
theorem a2_copy_ok (l : Launch) {D : va_G} {ca : Nat → ClassId} {ad : Nat → Nat} (hI : Ij ad 18) {σ : Sg} {n p g rn : Nat} {d : Nat → Nat} {th rd : Nat → Nat → Nat} {sl sn : Nat → Nat} {sc : Nat → Nat → Int32} {ft tr : Int32} {k : Nat} {o : Nat} {a m b : Nat} (hJ : I2 n p g rn d th rd sl sn sc ft tr σ) (hk4 : k < 4) (ho4 : o < 4) (hL : sl k < 3) (hM : sl o < 3) (heq : sl k = sl o) (ham : a + m ≤ sn k) (hbm : b + m ≤ sn o) : C2i l D ca ad yX7_copy wsX7_copy { frames := 2, cells := 0, slots := 0, locals := 42 } [.ref (ad 0), .int (nI k), .int (nI a), .int (nI o), .int (nI b), .int (nI m)] σ (fun r σ' => r = nI m ∧ I2 n p g rn d th rd sl sn (us sc o (va_cpy (sc k) (sc o) a b m)) (nI 0) tr σ') := by
  refine xk_entry cX7_copy 10 (some .int) (by decide) rfl (Nat.le_of_ble_eq_true rfl) ?_
  intro pP eE sS mM below meth cC hx hb hml hr hts hown hlk hP hK hX hS ls hl
  have hl : lv_has ls 10 [(0, .ref (ad 0)), (1, .int (nI k)), (2, .int (nI a)), (3, .int (nI o)), (4, .int (nI b)), (5, .int (nI m))] := hl
  obtain ⟨hT, hR, hRd, hSh, hnp, hft, htr⟩ := id hJ
  have hn5 := hT.2.2.1
  have hg9 := hT.2.2.2.1
  have hp6 := hR.2.1
  have hrn8 := hRd.2.1
  refine lv_aload_n hx hb dX7_copy_0 rfl (lv_at hl 0 rfl) ?_
  refine lv_iconst (v := nI 0) hx hb dX7_copy_1 (by decide) ?_
  refine xk_put hx hb hts (inX7_copy_X7) tyX7 tyX7_ok nmX7 hown hK hI hP hS 0 (by omega) (ci := 7) e2_obj rfl 0 (by decide) (flX7_copy_61 hts) rfl rfl (by decide +kernel) (Nat.le_of_ble_eq_true rfl) e2_loc (by rw [e2_obj]; simp [up]) dX7_copy_2 (fun H locs hP hS => ?_)
  obtain ⟨σ0, hσ0⟩ : ∃ τ, τ = up σ 0 0 (nI 0) := ⟨_, rfl⟩
  rw [← hσ0] at hP
  have hJ0 : I2 n p g rn d th rd sl sn sc (nI 0) tr σ0 := by rw [hσ0]; exact I2_ft hJ
  obtain ⟨hT, hR, hRd, hSh, -, hft, htr⟩ := id hJ0
  have hZ := hSh k hk4
  have hz60 : sl k < 3 → sn k ≤ 60 := fun q => (hZ.2.2 q).2.1
  have hZo := hSh o ho4
  have ho60 : sl o < 3 → sn o ≤ 60 := fun q => (hZo.2.2 q).2.1
  have hk60 := hz60 hL
  have hom60 := ho60 hM
  refine lv_iload_n hx hb dX7_copy_5 rfl (lv_at hl 1 rfl) ?_
  refine xk_fi (va_runS (As := [.int (nI k)]) (rest := []) ⟨hx, hb, hml, hown, hts⟩ (k2_isSheet_t l hI (nI k) (xn_in (by omega) (by omega) (by omega))) (va_cwS 1 hts gX7_copy_X7_isSheet rfl rfl rfl (by decide +kernel) ⟨Nat.le_of_ble_eq_true rfl, Nat.le_of_ble_eq_true rfl⟩) (xk_preS X2_ok hK hX hP) rfl rfl hl.1 rfl (lv_room (Nat.le_of_ble_eq_true rfl)) dX7_copy_6 ⟨Nat.le_of_ble_eq_true rfl, Nat.le_of_ble_eq_true rfl⟩) hS (fun H locs hP hS => ?_)
  refine xn_zeq (tgt := 19) hx hb dX7_copy_9 (by decide) (by omega) (fun c_9 => absurd c_9 (by omega)) (fun c_9 => ?_)
  refine lv_iload_n hx hb dX7_copy_12 rfl (lv_at hl 3 rfl) ?_
  refine xk_fi (va_runS (As := [.int (nI o)]) (rest := []) ⟨hx, hb, hml, hown, hts⟩ (k2_isSheet_t l hI (nI o) (xn_in (by omega) (by omega) (by omega))) (va_cwS 1 hts gX7_copy_X7_isSheet rfl rfl rfl (by decide +kernel) ⟨Nat.le_of_ble_eq_true rfl, Nat.le_of_ble_eq_true rfl⟩) (xk_preS X2_ok hK hX hP) rfl rfl hl.1 rfl (lv_room (Nat.le_of_ble_eq_true rfl)) dX7_copy_13 ⟨Nat.le_of_ble_eq_true rfl, Nat.le_of_ble_eq_true rfl⟩) hS (fun H locs hP hS => ?_)
  refine xn_zne (tgt := 21) hx hb dX7_copy_16 (by decide) (by omega) (fun c_16 => ?_) (fun c_16 => absurd c_16 (by omega))
  refine lv_aload_n hx hb dX7_copy_21 rfl (lv_at hl 0 rfl) ?_
  refine xk_get hx hb hts (inX7_copy_X7) hown hK hP 0 (by omega) (ci := 7) e2_obj rfl 2 (by decide) (flX7_copy_9 hts) rfl (.ref (ad 1)) rfl dX7_copy_22 ?_
  refine lv_iload_n hx hb dX7_copy_25 rfl (lv_at hl 1 rfl) ?_
  refine xk_iald hx hb hK hP 1 (by omega) (n := 4) (e2_row 4 (by decide) rfl) rfl k (by omega) (by decide) dX7_copy_26 ?_
  refine xn_eqi (y := nI (sl k)) (hZ.1.trans (lz_lt hL)) ?_
  refine lv_bipush (v := (-9)) hx hb dX7_copy_27 (by decide) ?_
  refine lv_icmp_eq (tgt := 43) hx hb dX7_copy_29 (by decide) (fun c_29 => absurd c_29 (lz_ne hL)) (fun c_29 => ?_)
  refine lv_aload_n hx hb dX7_copy_32 rfl (lv_at hl 0 rfl) ?_
  refine xk_get hx hb hts (inX7_copy_X7) hown hK hP 0 (by omega) (ci := 7) e2_obj rfl 2 (by decide) (flX7_copy_9 hts) rfl (.ref (ad 1)) rfl dX7_copy_33 ?_
  refine lv_iload_n hx hb dX7_copy_36 rfl (lv_at hl 3 rfl) ?_
  refine xk_iald hx hb hK hP 1 (by omega) (n := 4) (e2_row 4 (by decide) rfl) rfl o (by omega) (by decide) dX7_copy_37 ?_
  refine xn_eqi (y := nI (sl o)) (hZo.1.trans (lz_lt hM)) ?_
  refine lv_bipush (v := (-9)) hx hb dX7_copy_38 (by decide) ?_
  refine lv_icmp_ne (tgt := 49) hx hb dX7_copy_40 (by decide) (fun c_40 => ?_) (fun c_40 => absurd c_40 (lz_ne hM))
  refine lv_aload_n hx hb dX7_copy_49 rfl (lv_at hl 0 rfl) ?_
  refine xk_get hx hb hts (inX7_copy_X7) hown hK hP 0 (by omega) (ci := 7) e2_obj rfl 2 (by decide) (flX7_copy_9 hts) rfl (.ref (ad 1)) rfl dX7_copy_50 ?_
  refine lv_iload_n hx hb dX7_copy_53 rfl (lv_at hl 1 rfl) ?_
  refine xk_iald hx hb hK hP 1 (by omega) (n := 4) (e2_row 4 (by decide) rfl) rfl k (by omega) (by decide) dX7_copy_54 ?_
  refine xn_eqi (y := nI (sl k)) (hZ.1.trans (lz_lt hL)) ?_
  refine lv_aload_n hx hb dX7_copy_55 rfl (lv_at hl 0 rfl) ?_
  refine xk_get hx hb hts (inX7_copy_X7) hown hK hP 0 (by omega) (ci := 7) e2_obj rfl 2 (by decide) (flX7_copy_9 hts) rfl (.ref (ad 1)) rfl dX7_copy_56 ?_
  refine lv_iload_n hx hb dX7_copy_59 rfl (lv_at hl 3 rfl) ?_
  refine xk_iald hx hb hK hP 1 (by omega) (n := 4) (e2_row 4 (by decide) rfl) rfl o (by omega) (by decide) dX7_copy_60 ?_
  refine xn_eqi (y := nI (sl o)) (hZo.1.trans (lz_lt hM)) ?_
  refine xn_ieq (tgt := 70) hx hb dX7_copy_61 (by decide) (by omega) (by omega) (fun c_61 => ?_) (fun c_61 => absurd c_61 (by omega))
  refine lv_iload_n hx hb dX7_copy_70 rfl (lv_at hl 2 rfl) ?_
  refine xn_zlt (tgt := 109) hx hb dX7_copy_71 (by decide) (by omega) (fun c_71 => absurd c_71 (by omega)) (fun c_71 => ?_)
  refine lv_iload hx hb dX7_copy_74 (lv_at hl 4 rfl) ?_
  refine xn_zlt (tgt := 109) hx hb dX7_copy_76 (by decide) (by omega) (fun c_76 => absurd c_76 (by omega)) (fun c_76 => ?_)
  refine lv_iload hx hb dX7_copy_79 (lv_at hl 5 rfl) ?_
  refine xn_zlt (tgt := 109) hx hb dX7_copy_81 (by decide) (by omega) (fun c_81 => absurd c_81 (by omega)) (fun c_81 => ?_)
  refine lv_iload_n hx hb dX7_copy_84 rfl (lv_at hl 2 rfl) ?_
  refine lv_aload_n hx hb dX7_copy_85 rfl (lv_at hl 0 rfl) ?_
  refine xk_get hx hb hts (inX7_copy_X7) hown hK hP 0 (by omega) (ci := 7) e2_obj rfl 3 (by decide) (flX7_copy_13 hts) rfl (.ref (ad 2)) rfl dX7_copy_86 ?_
  refine lv_iload_n hx hb dX7_copy_89 rfl (lv_at hl 1 rfl) ?_
  refine xk_iald hx hb hK hP 2 (by omega) (n := 4) (e2_row 4 (by decide) rfl) rfl k (by omega) (by decide) dX7_copy_90 ?_
  refine xn_eqi (y := nI (sn k)) ((hZ.2.2 hL).1) ?_
  refine xn_igt (tgt := 109) hx hb dX7_copy_91 (by decide) (by omega) (by omega) (fun c_91 => absurd c_91 (by omega)) (fun c_91 => ?_)
  refine lv_iload hx hb dX7_copy_94 (lv_at hl 4 rfl) ?_
  refine lv_aload_n hx hb dX7_copy_96 rfl (lv_at hl 0 rfl) ?_
  refine xk_get hx hb hts (inX7_copy_X7) hown hK hP 0 (by omega) (ci := 7) e2_obj rfl 3 (by decide) (flX7_copy_13 hts) rfl (.ref (ad 2)) rfl dX7_copy_97 ?_
  refine lv_iload_n hx hb dX7_copy_100 rfl (lv_at hl 3 rfl) ?_
  refine xk_iald hx hb hK hP 2 (by omega) (n := 4) (e2_row 4 (by decide) rfl) rfl o (by omega) (by decide) dX7_copy_101 ?_
  refine xn_eqi (y := nI (sn o)) ((hZo.2.2 hM).1) ?_
  refine xn_igt (tgt := 109) hx hb dX7_copy_102 (by decide) (by omega) (by omega) (fun c_102 => absurd c_102 (by omega)) (fun c_102 => ?_)
  refine lv_iconst (v := nI 1) hx hb dX7_copy_105 (by decide) ?_
  refine lv_goto (tgt := 110) hx hb dX7_copy_106 (by decide) ?_
  refine lv_istore (lv' := [(6, .int (nI 1)), (0, .ref (ad 0)), (1, .int (nI k)), (2, .int (nI a)), (3, .int (nI o)), (4, .int (nI b)), (5, .int (nI m))]) hx hb dX7_copy_110 hl (by decide) rfl (fun ls hl => ?_)
  refine lv_iload hx hb dX7_copy_112 (lv_at hl 0 rfl) ?_
  refine xn_zeq (tgt := 144) hx hb dX7_copy_114 (by decide) (by omega) (fun c_114 => absurd c_114 (by omega)) (fun c_114 => ?_)
  refine lv_iload hx hb dX7_copy_117 (lv_at hl 6 rfl) ?_
  refine lv_aload_n hx hb dX7_copy_119 rfl (lv_at hl 1 rfl) ?_
  refine xk_get hx hb hts (inX7_copy_X7) hown hK hP 0 (by omega) (ci := 7) e2_obj rfl 3 (by decide) (flX7_copy_13 hts) rfl (.ref (ad 2)) rfl dX7_copy_120 ?_
  refine lv_iload_n hx hb dX7_copy_123 rfl (lv_at hl 2 rfl) ?_
  refine xk_iald hx hb hK hP 2 (by omega) (n := 4) (e2_row 4 (by decide) rfl) rfl k (by omega) (by decide) dX7_copy_124 ?_
  refine xn_eqi (y := nI (sn k)) ((hZ.2.2 hL).1) ?_
  refine lv_iload_n hx hb dX7_copy_125 rfl (lv_at hl 3 rfl) ?_
  refine xn_isub hx hb (by omega) dX7_copy_126 ?_
  refine xn_igt (tgt := 144) hx hb dX7_copy_127 (by decide) (by omega) (by omega) (fun c_127 => absurd c_127 (by omega)) (fun c_127 => ?_)
  refine lv_iload hx hb dX7_copy_130 (lv_at hl 6 rfl) ?_
  refine lv_aload_n hx hb dX7_copy_132 rfl (lv_at hl 1 rfl) ?_
  refine xk_get hx hb hts (inX7_copy_X7) hown hK hP 0 (by omega) (ci := 7) e2_obj rfl 3 (by decide) (flX7_copy_13 hts) rfl (.ref (ad 2)) rfl dX7_copy_133 ?_
  refine lv_iload_n hx hb dX7_copy_136 rfl (lv_at hl 4 rfl) ?_
  refine xk_iald hx hb hK hP 2 (by omega) (n := 4) (e2_row 4 (by decide) rfl) rfl o (by omega) (by decide) dX7_copy_137 ?_
  refine xn_eqi (y := nI (sn o)) ((hZo.2.2 hM).1) ?_
  refine lv_iload hx hb dX7_copy_138 (lv_at hl 5 rfl) ?_
  refine xn_isub hx hb (by omega) dX7_copy_140 ?_
  refine xn_ile (tgt := 150) hx hb dX7_copy_141 (by decide) (by omega) (by omega) (fun c_141 => ?_) (fun c_141 => absurd c_141 (by omega))
  refine lv_iload_n hx hb dX7_copy_150 rfl (lv_at hl 3 rfl) ?_
  refine lv_iload hx hb dX7_copy_151 (lv_at hl 5 rfl) ?_
  refine xn_ige (tgt := 160) hx hb dX7_copy_153 (by decide) (by omega) (by omega) (fun c_153 => ?_) (fun c_153 => ?_)
  · refine lv_iconst (v := nI 0) hx hb dX7_copy_160 (by decide) ?_
    refine lv_istore (lv' := [(7, .int (nI 0)), (6, .int (nI 1)), (0, .ref (ad 0)), (1, .int (nI k)), (2, .int (nI a)), (3, .int (nI o)), (4, .int (nI b)), (5, .int (nI m))]) hx hb dX7_copy_161 hl (by decide) rfl (fun ls hl => ?_)
    refine lv_iconst (v := nI 0) hx hb dX7_copy_163 (by decide) ?_
    refine lv_istore (lv' := [(8, .int (nI 0)), (7, .int (nI 0)), (6, .int (nI 1)), (0, .ref (ad 0)), (1, .int (nI k)), (2, .int (nI a)), (3, .int (nI o)), (4, .int (nI b)), (5, .int (nI m))]) hx hb dX7_copy_164 hl (by decide) rfl (fun ls hl => ?_)
    have LP_166 : ∀ (n_166 : Nat) (q : Nat) (τ : Sg), (q ≤ m) → (∀ i, i ≠ 3 → τ i = σ0 i) → (∀ x, τ 3 x = cpr (σ0 3) (60 * k + a) (60 * o + b) (0) (q) x) → (m - q) < n_166 → ∀ (H : Heap) (locs : List Loc) (ls : Array Slot), va_P D vwCl (wl ad 18 (en2 ad ca τ)) H → va_S (AA ad 18) sS.heap H locs → lv_has ls 10 [(0, .ref (ad 0)), (1, .int (nI k)), (2, .int (nI a)), (3, .int (nI o)), (4, .int (nI b)), (5, .int (nI m)), (7, .int (nI 0)), (8, .int (nI q))] → Wwi2 pP l eE { frames := 2, cells := 0, slots := 0, locals := 42 } sS mM [.ref (ad 0), .int (nI k), .int (nI a), .int (nI o), .int (nI b), .int (nI m)] below meth cC D ca ad (fun r σ' => r = nI m ∧ I2 n p g rn d th rd sl sn (us sc o (va_cpy (sc k) (sc o) a b m)) (nI 0) tr σ') H locs (F0 mM 166 ls []) := by
      intro n_166
      induction n_166 with
      | zero =>
        intro q τ hq hfr hinv hn_166
        exact absurd hn_166 (Nat.not_lt_zero _)
      | succ n_166 ih_166 =>
        intro q τ hq hfr hinv hn_166 H locs ls hP hS hl
        refine lv_iload hx hb dX7_copy_166 (lv_at hl 7 rfl) ?_
        refine lv_iload hx hb dX7_copy_168 (lv_at hl 5 rfl) ?_
        refine xn_ige (tgt := 227) hx hb dX7_copy_170 (by decide) (by omega) (by omega) (fun c_170 => ?_) (fun c_170 => ?_)
        · refine lv_iload hx hb dX7_copy_227 (lv_at hl 5 rfl) ?_
          exact xk_iret hx hb hr (vp_nar_int _) X2_ok hK hX hP hS hlk dX7_copy_229 (⟨rfl, sh_cpy hJ0 hk4 ho4 hL hM ham hbm hfr (fun x => by rw [hinv x, show q = m by omega])⟩)
        · refine lv_iload hx hb dX7_copy_173 (lv_at hl 6 rfl) ?_
          refine xn_zeq (tgt := 188) hx hb dX7_copy_175 (by decide) (by omega) (fun c_175 => ?_) (fun c_175 => absurd c_175 (by omega))
          refine lv_iload hx hb dX7_copy_188 (lv_at hl 7 rfl) ?_
          refine lv_istore (lv' := [(9, .int (nI q)), (0, .ref (ad 0)), (1, .int (nI k)), (2, .int (nI a)), (3, .int (nI o)), (4, .int (nI b)), (5, .int (nI m)), (7, .int (nI 0)), (8, .int (nI q))]) hx hb dX7_copy_190 hl (by decide) rfl (fun ls hl => ?_)
          refine lv_aload_n hx hb dX7_copy_192 rfl (lv_at hl 1 rfl) ?_
          refine xk_get hx hb hts (inX7_copy_X7) hown hK hP 0 (by omega) (ci := 7) e2_obj rfl 4 (by decide) (flX7_copy_16 hts) rfl (.ref (ad 3)) rfl dX7_copy_193 ?_
          refine lv_bipush (v := nI 60) hx hb dX7_copy_196 (by decide) ?_
          refine lv_iload_n hx hb dX7_copy_198 rfl (lv_at hl 4 rfl) ?_
          refine xn_imul hx hb dX7_copy_199 ?_
          refine lv_iload hx hb dX7_copy_200 (lv_at hl 5 rfl) ?_
          refine xn_iadd hx hb dX7_copy_202 ?_
          refine lv_iload hx hb dX7_copy_203 (lv_at hl 0 rfl) ?_
          refine xn_iadd hx hb dX7_copy_205 ?_
          refine lv_aload_n hx hb dX7_copy_206 rfl (lv_at hl 1 rfl) ?_
          refine xk_get hx hb hts (inX7_copy_X7) hown hK hP 0 (by omega) (ci := 7) e2_obj rfl 4 (by decide) (flX7_copy_16 hts) rfl (.ref (ad 3)) rfl dX7_copy_207 ?_
          refine lv_bipush (v := nI 60) hx hb dX7_copy_210 (by decide) ?_
          refine lv_iload_n hx hb dX7_copy_212 rfl (lv_at hl 2 rfl) ?_
          refine xn_imul hx hb dX7_copy_213 ?_
          refine lv_iload_n hx hb dX7_copy_214 rfl (lv_at hl 3 rfl) ?_
          refine xn_iadd hx hb dX7_copy_215 ?_
          refine lv_iload hx hb dX7_copy_216 (lv_at hl 0 rfl) ?_
          refine xn_iadd hx hb dX7_copy_218 ?_
          refine xk_iald hx hb hK hP 3 (by omega) (n := 240) (e2_row 240 (by decide) rfl) rfl (((60 * k) + a) + q) (by omega) (by decide) dX7_copy_219 ?_
          refine xn_eqi (y := σ0 3 (((60 * k) + a) + q)) ((hinv _).trans (if_neg (by omega))) ?_
          refine xk_iast hx hb hK hI hP hS 3 (by omega) (n := 240) (fun τ => (e2_row 240 (by decide) rfl)) rfl (((60 * o) + b) + q) (by omega) (by decide) e2_loc dX7_copy_220 (fun H locs hP hS => ?_)
          refine lv_iinc (v := nI (q + 1)) (lv' := [(8, .int (nI (q + 1))), (9, .int (nI q)), (0, .ref (ad 0)), (1, .int (nI k)), (2, .int (nI a)), (3, .int (nI o)), (4, .int (nI b)), (5, .int (nI m)), (7, .int (nI 0))]) hx hb dX7_copy_221 hl (k := 8) rfl (xn_inc _ 1) (by decide) rfl (fun ls hl => ?_)
          refine lv_goto (tgt := 166) hx hb dX7_copy_224 (by decide) ?_
          exact ih_166 (q + 1) (up τ 3 (((60 * o) + b) + q) (σ0 3 (((60 * k) + a) + q))) (by omega) (fun i hi => by rw [up_r hi]; exact hfr i hi) (fun x => by
          rw [← cpr_st (f := σ0 3) (S := 60 * k + a) (T := 60 * o + b) (lo := 0) (hi := q) (lo' := 0) (hi' := q + 1) (j := q) (.inl ⟨rfl, rfl, rfl, by omega⟩) x]
          by_cases e : x = 60 * o + b + (q)
          · rw [if_pos e, e, up_s]
          · rw [if_neg e, up_n (by omega)]; exact hinv x) (by omega) _ _ _ hP hS (lv_sub hl [2, 3, 4, 5, 6, 7, 8, 0] rfl)
    exact LP_166 _ 0 σ0 (by omega) (fun _ _ => rfl) (fun x => cpr_0 x) (Nat.lt_succ_self _) _ _ _ hP hS (lv_sub hl [3, 4, 5, 6, 7, 8, 1, 0] rfl)
  · refine lv_iconst (v := nI 1) hx hb dX7_copy_156 (by decide) ?_
    refine lv_goto (tgt := 161) hx hb dX7_copy_157 (by decide) ?_
    refine lv_istore (lv' := [(7, .int (nI 1)), (6, .int (nI 1)), (0, .ref (ad 0)), (1, .int (nI k)), (2, .int (nI a)), (3, .int (nI o)), (4, .int (nI b)), (5, .int (nI m))]) hx hb dX7_copy_161 hl (by decide) rfl (fun ls hl => ?_)
    refine lv_iconst (v := nI 0) hx hb dX7_copy_163 (by decide) ?_
    refine lv_istore (lv' := [(8, .int (nI 0)), (7, .int (nI 1)), (6, .int (nI 1)), (0, .ref (ad 0)), (1, .int (nI k)), (2, .int (nI a)), (3, .int (nI o)), (4, .int (nI b)), (5, .int (nI m))]) hx hb dX7_copy_164 hl (by decide) rfl (fun ls hl => ?_)
    have LP_166 : ∀ (n_166 : Nat) (q : Nat) (τ : Sg), (q ≤ m) → (∀ i, i ≠ 3 → τ i = σ0 i) → (∀ x, τ 3 x = cpr (σ0 3) (60 * k + a) (60 * o + b) (m - q) (m) x) → (m - q) < n_166 → ∀ (H : Heap) (locs : List Loc) (ls : Array Slot), va_P D vwCl (wl ad 18 (en2 ad ca τ)) H → va_S (AA ad 18) sS.heap H locs → lv_has ls 10 [(0, .ref (ad 0)), (1, .int (nI k)), (2, .int (nI a)), (3, .int (nI o)), (4, .int (nI b)), (5, .int (nI m)), (7, .int (nI 1)), (8, .int (nI q))] → Wwi2 pP l eE { frames := 2, cells := 0, slots := 0, locals := 42 } sS mM [.ref (ad 0), .int (nI k), .int (nI a), .int (nI o), .int (nI b), .int (nI m)] below meth cC D ca ad (fun r σ' => r = nI m ∧ I2 n p g rn d th rd sl sn (us sc o (va_cpy (sc k) (sc o) a b m)) (nI 0) tr σ') H locs (F0 mM 166 ls []) := by
      intro n_166
      induction n_166 with
      | zero =>
        intro q τ hq hfr hinv hn_166
        exact absurd hn_166 (Nat.not_lt_zero _)
      | succ n_166 ih_166 =>
        intro q τ hq hfr hinv hn_166 H locs ls hP hS hl
        refine lv_iload hx hb dX7_copy_166 (lv_at hl 7 rfl) ?_
        refine lv_iload hx hb dX7_copy_168 (lv_at hl 5 rfl) ?_
        refine xn_ige (tgt := 227) hx hb dX7_copy_170 (by decide) (by omega) (by omega) (fun c_170 => ?_) (fun c_170 => ?_)
        · refine lv_iload hx hb dX7_copy_227 (lv_at hl 5 rfl) ?_
          exact xk_iret hx hb hr (vp_nar_int _) X2_ok hK hX hP hS hlk dX7_copy_229 (⟨rfl, sh_cpy hJ0 hk4 ho4 hL hM ham hbm hfr (fun x => by rw [hinv x, show m - q = 0 by omega])⟩)
        · refine lv_iload hx hb dX7_copy_173 (lv_at hl 6 rfl) ?_
          refine xn_zeq (tgt := 188) hx hb dX7_copy_175 (by decide) (by omega) (fun c_175 => absurd c_175 (by omega)) (fun c_175 => ?_)
          refine lv_iload hx hb dX7_copy_178 (lv_at hl 5 rfl) ?_
          refine lv_iconst (v := nI 1) hx hb dX7_copy_180 (by decide) ?_
          refine xn_isub hx hb (by omega) dX7_copy_181 ?_
          refine lv_iload hx hb dX7_copy_182 (lv_at hl 7 rfl) ?_
          refine xn_isub hx hb (by omega) dX7_copy_184 ?_
          refine lv_goto (tgt := 190) hx hb dX7_copy_185 (by decide) ?_
          refine lv_istore (lv' := [(9, .int (nI ((m - 1) - q))), (0, .ref (ad 0)), (1, .int (nI k)), (2, .int (nI a)), (3, .int (nI o)), (4, .int (nI b)), (5, .int (nI m)), (7, .int (nI 1)), (8, .int (nI q))]) hx hb dX7_copy_190 hl (by decide) rfl (fun ls hl => ?_)
          refine lv_aload_n hx hb dX7_copy_192 rfl (lv_at hl 1 rfl) ?_
          refine xk_get hx hb hts (inX7_copy_X7) hown hK hP 0 (by omega) (ci := 7) e2_obj rfl 4 (by decide) (flX7_copy_16 hts) rfl (.ref (ad 3)) rfl dX7_copy_193 ?_
          refine lv_bipush (v := nI 60) hx hb dX7_copy_196 (by decide) ?_
          refine lv_iload_n hx hb dX7_copy_198 rfl (lv_at hl 4 rfl) ?_
          refine xn_imul hx hb dX7_copy_199 ?_
          refine lv_iload hx hb dX7_copy_200 (lv_at hl 5 rfl) ?_
          refine xn_iadd hx hb dX7_copy_202 ?_
          refine lv_iload hx hb dX7_copy_203 (lv_at hl 0 rfl) ?_
          refine xn_iadd hx hb dX7_copy_205 ?_
          refine lv_aload_n hx hb dX7_copy_206 rfl (lv_at hl 1 rfl) ?_
          refine xk_get hx hb hts (inX7_copy_X7) hown hK hP 0 (by omega) (ci := 7) e2_obj rfl 4 (by decide) (flX7_copy_16 hts) rfl (.ref (ad 3)) rfl dX7_copy_207 ?_
          refine lv_bipush (v := nI 60) hx hb dX7_copy_210 (by decide) ?_
          refine lv_iload_n hx hb dX7_copy_212 rfl (lv_at hl 2 rfl) ?_
          refine xn_imul hx hb dX7_copy_213 ?_
          refine lv_iload_n hx hb dX7_copy_214 rfl (lv_at hl 3 rfl) ?_
          refine xn_iadd hx hb dX7_copy_215 ?_
          refine lv_iload hx hb dX7_copy_216 (lv_at hl 0 rfl) ?_
          refine xn_iadd hx hb dX7_copy_218 ?_
          refine xk_iald hx hb hK hP 3 (by omega) (n := 240) (e2_row 240 (by decide) rfl) rfl (((60 * k) + a) + ((m - 1) - q)) (by omega) (by decide) dX7_copy_219 ?_
          refine xn_eqi (y := σ0 3 (((60 * k) + a) + ((m - 1) - q))) ((hinv _).trans (if_neg (by omega))) ?_
          refine xk_iast hx hb hK hI hP hS 3 (by omega) (n := 240) (fun τ => (e2_row 240 (by decide) rfl)) rfl (((60 * o) + b) + ((m - 1) - q)) (by omega) (by decide) e2_loc dX7_copy_220 (fun H locs hP hS => ?_)
          refine lv_iinc (v := nI (q + 1)) (lv' := [(8, .int (nI (q + 1))), (9, .int (nI ((m - 1) - q))), (0, .ref (ad 0)), (1, .int (nI k)), (2, .int (nI a)), (3, .int (nI o)), (4, .int (nI b)), (5, .int (nI m)), (7, .int (nI 1))]) hx hb dX7_copy_221 hl (k := 8) rfl (xn_inc _ 1) (by decide) rfl (fun ls hl => ?_)
          refine lv_goto (tgt := 166) hx hb dX7_copy_224 (by decide) ?_
          exact ih_166 (q + 1) (up τ 3 (((60 * o) + b) + ((m - 1) - q)) (σ0 3 (((60 * k) + a) + ((m - 1) - q)))) (by omega) (fun i hi => by rw [up_r hi]; exact hfr i hi) (fun x => by
          rw [← cpr_st (f := σ0 3) (S := 60 * k + a) (T := 60 * o + b) (lo := m - q) (hi := m) (lo' := m - (q + 1)) (hi' := m) (j := m - 1 - q) (.inr ⟨by omega, by omega, rfl, by omega⟩) x]
          by_cases e : x = 60 * o + b + (m - 1 - q)
          · rw [if_pos e, e, up_s]
          · rw [if_neg e, up_n (by omega)]; exact hinv x) (by omega) _ _ _ hP hS (lv_sub hl [2, 3, 4, 5, 6, 7, 8, 0] rfl)
    exact LP_166 _ 0 σ0 (by omega) (fun _ _ => rfl) (fun x => cpr_0 x) (Nat.lt_succ_self _) _ _ _ hP hS (lv_sub hl [3, 4, 5, 6, 7, 8, 1, 0] rfl)

set_option maxRecDepth 20000 in
theorem flX7_well_61 {s : State} {av : Array Value} (hts : ∀ w ∈ wsX7_well, w.before av s = true) : (Cond.fieldLink RX7 61 "WellBackModel" "fault" "I").before av s = true := hts _ (by decide +kernel)
set_option maxRecDepth 20000 in
theorem inX7_well_X7 : ∀ w ∈ u_ws RX7 TX7 30, w ∈ wsX7_well := by decide +kernel
set_option maxHeartbeats 4000000 in
set_option maxRecDepth 100000 in
theorem a2_well_so (l : Launch) {D : va_G} {ca : Nat → ClassId} {ad : Nat → Nat} (hI : Ij ad 18) {σ : Sg} {n p g rn : Nat} {d : Nat → Nat} {th rd : Nat → Nat → Nat} {sl sn : Nat → Nat} {sc : Nat → Nat → Int32} {ft tr : Int32} {k : Int32} {w a m : Int32} (hJ : I2 n p g rn d th rd sl sn sc ft tr σ) (hko : ∀ j, j < 4 → k ≠ nI j) : C2i l D ca ad yX7_well wsX7_well { frames := 4, cells := 0, slots := 0, locals := 89 } [.ref (ad 0), .int k, .int w, .int a, .int m] σ (fun r σ' => r = -1 ∧ I2 n p g rn d th rd sl sn sc (nI 0) tr σ') := by
  refine xk_entry cX7_well 7 (some .int) (by decide) rfl (Nat.le_of_ble_eq_true rfl) ?_
  intro pP eE sS mM below meth cC hx hb hml hr hts hown hlk hP hK hX hS ls hl
  have hl : lv_has ls 7 [(0, .ref (ad 0)), (1, .int k), (2, .int w), (3, .int a), (4, .int m)] := hl
  obtain ⟨hT, hR, hRd, hSh, hnp, hft, htr⟩ := id hJ
  have hn5 := hT.2.2.1
  have hg9 := hT.2.2.2.1
  have hp6 := hR.2.1
  have hrn8 := hRd.2.1
  refine lv_aload_n hx hb dX7_well_0 rfl (lv_at hl 0 rfl) ?_
  refine lv_iconst (v := nI 0) hx hb dX7_well_1 (by decide) ?_
  refine xk_put hx hb hts (inX7_well_X7) tyX7 tyX7_ok nmX7 hown hK hI hP hS 0 (by omega) (ci := 7) e2_obj rfl 0 (by decide) (flX7_well_61 hts) rfl rfl (by decide +kernel) (Nat.le_of_ble_eq_true rfl) e2_loc (by rw [e2_obj]; simp [up]) dX7_well_2 (fun H locs hP hS => ?_)
  obtain ⟨σ0, hσ0⟩ : ∃ τ, τ = up σ 0 0 (nI 0) := ⟨_, rfl⟩
  rw [← hσ0] at hP
  have hJ0 : I2 n p g rn d th rd sl sn sc (nI 0) tr σ0 := by rw [hσ0]; exact I2_ft hJ
  obtain ⟨hT, hR, hRd, hSh, -, hft, htr⟩ := id hJ0
  refine lv_iload_n hx hb dX7_well_5 rfl (lv_at hl 1 rfl) ?_
  refine xk_fi (va_runS (As := [.int k]) (rest := []) ⟨hx, hb, hml, hown, hts⟩ (k2_isSheet_f l hI k (fun q => by obtain ⟨w, h1, h2, h3⟩ := xn_rng (by omega) q; exact hko w (by omega) h3)) (va_cwS 1 hts gX7_well_X7_isSheet rfl rfl rfl (by decide +kernel) ⟨Nat.le_of_ble_eq_true rfl, Nat.le_of_ble_eq_true rfl⟩) (xk_preS X2_ok hK hX hP) rfl rfl hl.1 rfl (lv_room (Nat.le_of_ble_eq_true rfl)) dX7_well_6 ⟨Nat.le_of_ble_eq_true rfl, Nat.le_of_ble_eq_true rfl⟩) hS (fun H locs hP hS => ?_)
  refine xn_zne (tgt := 14) hx hb dX7_well_9 (by decide) (by omega) (fun c_9 => absurd c_9 (by omega)) (fun c_9 => ?_)
  refine lv_iconst (v := (-1)) hx hb dX7_well_12 (by decide) ?_
  exact xk_iret hx hb hr (vp_nar_int _) X2_ok hK hX hP hS hlk dX7_well_13 (⟨rfl, hJ0⟩)

set_option maxHeartbeats 4000000 in
set_option maxRecDepth 100000 in
theorem a2_well_lo (l : Launch) {D : va_G} {ca : Nat → ClassId} {ad : Nat → Nat} (hI : Ij ad 18) {σ : Sg} {n p g rn : Nat} {d : Nat → Nat} {th rd : Nat → Nat → Nat} {sl sn : Nat → Nat} {sc : Nat → Nat → Int32} {ft tr : Int32} {k : Nat} {w a m : Int32} (hJ : I2 n p g rn d th rd sl sn sc ft tr σ) (hk4 : k < 4) (hwo : ¬ (nI 0 ≤ w ∧ w ≤ nI 2)) : C2i l D ca ad yX7_well wsX7_well { frames := 4, cells := 0, slots := 0, locals := 89 } [.ref (ad 0), .int (nI k), .int w, .int a, .int m] σ (fun r σ' => r = -2 ∧ I2 n p g rn d th rd sl sn sc (nI 0) tr σ') := by
  refine xk_entry cX7_well 7 (some .int) (by decide) rfl (Nat.le_of_ble_eq_true rfl) ?_
  intro pP eE sS mM below meth cC hx hb hml hr hts hown hlk hP hK hX hS ls hl
  have hl : lv_has ls 7 [(0, .ref (ad 0)), (1, .int (nI k)), (2, .int w), (3, .int a), (4, .int m)] := hl
  obtain ⟨hT, hR, hRd, hSh, hnp, hft, htr⟩ := id hJ
  have hn5 := hT.2.2.1
  have hg9 := hT.2.2.2.1
  have hp6 := hR.2.1
  have hrn8 := hRd.2.1
  refine lv_aload_n hx hb dX7_well_0 rfl (lv_at hl 0 rfl) ?_
  refine lv_iconst (v := nI 0) hx hb dX7_well_1 (by decide) ?_
  refine xk_put hx hb hts (inX7_well_X7) tyX7 tyX7_ok nmX7 hown hK hI hP hS 0 (by omega) (ci := 7) e2_obj rfl 0 (by decide) (flX7_well_61 hts) rfl rfl (by decide +kernel) (Nat.le_of_ble_eq_true rfl) e2_loc (by rw [e2_obj]; simp [up]) dX7_well_2 (fun H locs hP hS => ?_)
  obtain ⟨σ0, hσ0⟩ : ∃ τ, τ = up σ 0 0 (nI 0) := ⟨_, rfl⟩
  rw [← hσ0] at hP
  have hJ0 : I2 n p g rn d th rd sl sn sc (nI 0) tr σ0 := by rw [hσ0]; exact I2_ft hJ
  obtain ⟨hT, hR, hRd, hSh, -, hft, htr⟩ := id hJ0
  have hZ := hSh k hk4
  have hz60 : sl k < 3 → sn k ≤ 60 := fun q => (hZ.2.2 q).2.1
  refine lv_iload_n hx hb dX7_well_5 rfl (lv_at hl 1 rfl) ?_
  refine xk_fi (va_runS (As := [.int (nI k)]) (rest := []) ⟨hx, hb, hml, hown, hts⟩ (k2_isSheet_t l hI (nI k) (xn_in (by omega) (by omega) (by omega))) (va_cwS 1 hts gX7_well_X7_isSheet rfl rfl rfl (by decide +kernel) ⟨Nat.le_of_ble_eq_true rfl, Nat.le_of_ble_eq_true rfl⟩) (xk_preS X2_ok hK hX hP) rfl rfl hl.1 rfl (lv_room (Nat.le_of_ble_eq_true rfl)) dX7_well_6 ⟨Nat.le_of_ble_eq_true rfl, Nat.le_of_ble_eq_true rfl⟩) hS (fun H locs hP hS => ?_)
  refine xn_zne (tgt := 14) hx hb dX7_well_9 (by decide) (by omega) (fun c_9 => ?_) (fun c_9 => absurd c_9 (by omega))
  refine lv_iload_n hx hb dX7_well_14 rfl (lv_at hl 2 rfl) ?_
  refine xk_fi (va_runS (As := [.int w]) (rest := []) ⟨hx, hb, hml, hown, hts⟩ (k2_isSort_f l hI w (by assumption)) (va_cwS 1 hts gX7_well_X7_isSort rfl rfl rfl (by decide +kernel) ⟨Nat.le_of_ble_eq_true rfl, Nat.le_of_ble_eq_true rfl⟩) (xk_preS X2_ok hK hX hP) rfl rfl hl.1 rfl (lv_room (Nat.le_of_ble_eq_true rfl)) dX7_well_15 ⟨Nat.le_of_ble_eq_true rfl, Nat.le_of_ble_eq_true rfl⟩) hS (fun H locs hP hS => ?_)
  refine xn_zne (tgt := 24) hx hb dX7_well_18 (by decide) (by omega) (fun c_18 => absurd c_18 (by omega)) (fun c_18 => ?_)
  refine lv_bipush (v := (-2)) hx hb dX7_well_21 (by decide) ?_
  exact xk_iret hx hb hr (vp_nar_int _) X2_ok hK hX hP hS hlk dX7_well_23 (⟨rfl, hJ0⟩)

set_option maxHeartbeats 4000000 in
set_option maxRecDepth 100000 in
theorem a2_well_fl (l : Launch) {D : va_G} {ca : Nat → ClassId} {ad : Nat → Nat} (hI : Ij ad 18) {σ : Sg} {n p g rn : Nat} {d : Nat → Nat} {th rd : Nat → Nat → Nat} {sl sn : Nat → Nat} {sc : Nat → Nat → Int32} {ft tr : Int32} {k : Nat} {w : Nat} {a m : Int32} (hJ : I2 n p g rn d th rd sl sn sc ft tr σ) (hk4 : k < 4) (hw2 : w ≤ 2) (hf : fL (sl k) w ≠ 0) : C2i l D ca ad yX7_well wsX7_well { frames := 4, cells := 0, slots := 0, locals := 89 } [.ref (ad 0), .int (nI k), .int (nI w), .int a, .int m] σ (fun r σ' => r = (-10) - nI (fL (sl k) w) ∧ I2 n p g rn d th rd sl sn sc (nI (fL (sl k) w)) tr σ') := by
  refine xk_entry cX7_well 7 (some .int) (by decide) rfl (Nat.le_of_ble_eq_true rfl) ?_
  intro pP eE sS mM below meth cC hx hb hml hr hts hown hlk hP hK hX hS ls hl
  have hl : lv_has ls 7 [(0, .ref (ad 0)), (1, .int (nI k)), (2, .int (nI w)), (3, .int a), (4, .int m)] := hl
  obtain ⟨hT, hR, hRd, hSh, hnp, hft, htr⟩ := id hJ
  have hn5 := hT.2.2.1
  have hg9 := hT.2.2.2.1
  have hp6 := hR.2.1
  have hrn8 := hRd.2.1
  refine lv_aload_n hx hb dX7_well_0 rfl (lv_at hl 0 rfl) ?_
  refine lv_iconst (v := nI 0) hx hb dX7_well_1 (by decide) ?_
  refine xk_put hx hb hts (inX7_well_X7) tyX7 tyX7_ok nmX7 hown hK hI hP hS 0 (by omega) (ci := 7) e2_obj rfl 0 (by decide) (flX7_well_61 hts) rfl rfl (by decide +kernel) (Nat.le_of_ble_eq_true rfl) e2_loc (by rw [e2_obj]; simp [up]) dX7_well_2 (fun H locs hP hS => ?_)
  obtain ⟨σ0, hσ0⟩ : ∃ τ, τ = up σ 0 0 (nI 0) := ⟨_, rfl⟩
  rw [← hσ0] at hP
  have hJ0 : I2 n p g rn d th rd sl sn sc (nI 0) tr σ0 := by rw [hσ0]; exact I2_ft hJ
  obtain ⟨hT, hR, hRd, hSh, -, hft, htr⟩ := id hJ0
  have hZ := hSh k hk4
  have hz60 : sl k < 3 → sn k ≤ 60 := fun q => (hZ.2.2 q).2.1
  have hfl : fL (sl k) w ≤ 2 := by unfold fL; split <;> (try split) <;> omega
  refine lv_iload_n hx hb dX7_well_5 rfl (lv_at hl 1 rfl) ?_
  refine xk_fi (va_runS (As := [.int (nI k)]) (rest := []) ⟨hx, hb, hml, hown, hts⟩ (k2_isSheet_t l hI (nI k) (xn_in (by omega) (by omega) (by omega))) (va_cwS 1 hts gX7_well_X7_isSheet rfl rfl rfl (by decide +kernel) ⟨Nat.le_of_ble_eq_true rfl, Nat.le_of_ble_eq_true rfl⟩) (xk_preS X2_ok hK hX hP) rfl rfl hl.1 rfl (lv_room (Nat.le_of_ble_eq_true rfl)) dX7_well_6 ⟨Nat.le_of_ble_eq_true rfl, Nat.le_of_ble_eq_true rfl⟩) hS (fun H locs hP hS => ?_)
  refine xn_zne (tgt := 14) hx hb dX7_well_9 (by decide) (by omega) (fun c_9 => ?_) (fun c_9 => absurd c_9 (by omega))
  refine lv_iload_n hx hb dX7_well_14 rfl (lv_at hl 2 rfl) ?_
  refine xk_fi (va_runS (As := [.int (nI w)]) (rest := []) ⟨hx, hb, hml, hown, hts⟩ (k2_isSort_t l hI (nI w) (xn_in (by omega) (by omega) (by omega))) (va_cwS 1 hts gX7_well_X7_isSort rfl rfl rfl (by decide +kernel) ⟨Nat.le_of_ble_eq_true rfl, Nat.le_of_ble_eq_true rfl⟩) (xk_preS X2_ok hK hX hP) rfl rfl hl.1 rfl (lv_room (Nat.le_of_ble_eq_true rfl)) dX7_well_15 ⟨Nat.le_of_ble_eq_true rfl, Nat.le_of_ble_eq_true rfl⟩) hS (fun H locs hP hS => ?_)
  refine xn_zne (tgt := 24) hx hb dX7_well_18 (by decide) (by omega) (fun c_18 => ?_) (fun c_18 => absurd c_18 (by omega))
  refine lv_aload_n hx hb dX7_well_24 rfl (lv_at hl 0 rfl) ?_
  refine lv_iload_n hx hb dX7_well_25 rfl (lv_at hl 1 rfl) ?_
  refine lv_iload_n hx hb dX7_well_26 rfl (lv_at hl 2 rfl) ?_
  refine lv_iload_n hx hb dX7_well_27 rfl (lv_at hl 3 rfl) ?_
  refine lv_iload hx hb dX7_well_28 (lv_at hl 4 rfl) ?_
  by_cases q3 : sl k = 3
  · refine xk_fi (va_runV (As := [.int (nI k), .int (nI w), .int a, .int m]) (rest := []) ⟨hx, hb, hml, hown, hts⟩ (k2_ag_none l hI (w := w) hk4 hZ hw2 q3) (cwV 4 hts gX7_well_X7_against rfl rfl rfl (by decide +kernel) ⟨Nat.le_of_ble_eq_true rfl, Nat.le_of_ble_eq_true rfl⟩) (xk_preV X2_ok hK hX hP (xk_recv hK hP 0 (by omega) (ci := 7) e2_obj rfl)) rfl rfl hl.1 rfl (lv_room (Nat.le_of_ble_eq_true rfl)) dX7_well_30 ⟨Nat.le_of_ble_eq_true rfl, Nat.le_of_ble_eq_true rfl⟩) hS (fun H locs hP hS => ?_)
    refine xn_eqi (y := nI (fL (sl k) w)) (by rw [fL, if_pos q3]) ?_
    refine lv_istore (lv' := [(5, .int (nI (fL (sl k) w))), (0, .ref (ad 0)), (1, .int (nI k)), (2, .int (nI w)), (3, .int a), (4, .int m)]) hx hb dX7_well_33 hl (by decide) rfl (fun ls hl => ?_)
    refine lv_iload hx hb dX7_well_35 (lv_at hl 0 rfl) ?_
    refine xn_zeq (tgt := 47) hx hb dX7_well_37 (by decide) (by omega) (fun c_37 => absurd c_37 (by omega)) (fun c_37 => ?_)
    refine lv_aload_n hx hb dX7_well_40 rfl (lv_at hl 1 rfl) ?_
    refine lv_iload hx hb dX7_well_41 (lv_at hl 0 rfl) ?_
    refine xk_fi (va_runV (As := [.int (nI (fL (sl k) w))]) (rest := []) ⟨hx, hb, hml, hown, hts⟩ (k2_fails l hI (fL (sl k) w)) (cwV 1 hts gX7_well_X7_fails rfl rfl rfl (by decide +kernel) ⟨Nat.le_of_ble_eq_true rfl, Nat.le_of_ble_eq_true rfl⟩) (xk_preV X2_ok hK hX hP (xk_recv hK hP 0 (by omega) (ci := 7) e2_obj rfl)) rfl rfl hl.1 rfl (lv_room (Nat.le_of_ble_eq_true rfl)) dX7_well_43 ⟨Nat.le_of_ble_eq_true rfl, Nat.le_of_ble_eq_true rfl⟩) hS (fun H locs hP hS => ?_)
    exact xk_iret hx hb hr (vp_nar_int _) X2_ok hK hX hP hS hlk dX7_well_46 (⟨rfl, I2_ft hJ0⟩)
  · refine xk_fi (va_runV (As := [.int (nI k), .int (nI w), .int a, .int m]) (rest := []) ⟨hx, hb, hml, hown, hts⟩ (k2_ag_cast l hI (w := w) hk4 hZ hw2 (by have := hZ.2.1; omega) (fun z => hf (by rw [fL, if_neg q3, if_pos z]))) (cwV 4 hts gX7_well_X7_against rfl rfl rfl (by decide +kernel) ⟨Nat.le_of_ble_eq_true rfl, Nat.le_of_ble_eq_true rfl⟩) (xk_preV X2_ok hK hX hP (xk_recv hK hP 0 (by omega) (ci := 7) e2_obj rfl)) rfl rfl hl.1 rfl (lv_room (Nat.le_of_ble_eq_true rfl)) dX7_well_30 ⟨Nat.le_of_ble_eq_true rfl, Nat.le_of_ble_eq_true rfl⟩) hS (fun H locs hP hS => ?_)
    refine xn_eqi (y := nI (fL (sl k) w)) (by rw [fL, if_neg q3, if_neg (fun z => hf (by rw [fL, if_neg q3, if_pos z]))]) ?_
    refine lv_istore (lv' := [(5, .int (nI (fL (sl k) w))), (0, .ref (ad 0)), (1, .int (nI k)), (2, .int (nI w)), (3, .int a), (4, .int m)]) hx hb dX7_well_33 hl (by decide) rfl (fun ls hl => ?_)
    refine lv_iload hx hb dX7_well_35 (lv_at hl 0 rfl) ?_
    refine xn_zeq (tgt := 47) hx hb dX7_well_37 (by decide) (by omega) (fun c_37 => absurd c_37 (by omega)) (fun c_37 => ?_)
    refine lv_aload_n hx hb dX7_well_40 rfl (lv_at hl 1 rfl) ?_
    refine lv_iload hx hb dX7_well_41 (lv_at hl 0 rfl) ?_
    refine xk_fi (va_runV (As := [.int (nI (fL (sl k) w))]) (rest := []) ⟨hx, hb, hml, hown, hts⟩ (k2_fails l hI (fL (sl k) w)) (cwV 1 hts gX7_well_X7_fails rfl rfl rfl (by decide +kernel) ⟨Nat.le_of_ble_eq_true rfl, Nat.le_of_ble_eq_true rfl⟩) (xk_preV X2_ok hK hX hP (xk_recv hK hP 0 (by omega) (ci := 7) e2_obj rfl)) rfl rfl hl.1 rfl (lv_room (Nat.le_of_ble_eq_true rfl)) dX7_well_43 ⟨Nat.le_of_ble_eq_true rfl, Nat.le_of_ble_eq_true rfl⟩) hS (fun H locs hP hS => ?_)
    exact xk_iret hx hb hr (vp_nar_int _) X2_ok hK hX hP hS hlk dX7_well_46 (⟨rfl, I2_ft hJ0⟩)

set_option maxHeartbeats 4000000 in
set_option maxRecDepth 100000 in
theorem a2_well_ne (l : Launch) {D : va_G} {ca : Nat → ClassId} {ad : Nat → Nat} (hI : Ij ad 18) {σ : Sg} {n p g rn : Nat} {d : Nat → Nat} {th rd : Nat → Nat → Nat} {sl sn : Nat → Nat} {sc : Nat → Nat → Int32} {ft tr : Int32} {k : Nat} {w : Nat} {a m : Int32} (hJ : I2 n p g rn d th rd sl sn sc ft tr σ) (hk4 : k < 4) (hw2 : w ≤ 2) (hLw : sl k = w) (hm0 : m < 0) : C2i l D ca ad yX7_well wsX7_well { frames := 4, cells := 0, slots := 0, locals := 89 } [.ref (ad 0), .int (nI k), .int (nI w), .int a, .int m] σ (fun r σ' => r = (-10) - nI 4 ∧ I2 n p g rn d th rd sl sn sc (nI 4) tr σ') := by
  refine xk_entry cX7_well 7 (some .int) (by decide) rfl (Nat.le_of_ble_eq_true rfl) ?_
  intro pP eE sS mM below meth cC hx hb hml hr hts hown hlk hP hK hX hS ls hl
  have hl : lv_has ls 7 [(0, .ref (ad 0)), (1, .int (nI k)), (2, .int (nI w)), (3, .int a), (4, .int m)] := hl
  obtain ⟨hT, hR, hRd, hSh, hnp, hft, htr⟩ := id hJ
  have hn5 := hT.2.2.1
  have hg9 := hT.2.2.2.1
  have hp6 := hR.2.1
  have hrn8 := hRd.2.1
  refine lv_aload_n hx hb dX7_well_0 rfl (lv_at hl 0 rfl) ?_
  refine lv_iconst (v := nI 0) hx hb dX7_well_1 (by decide) ?_
  refine xk_put hx hb hts (inX7_well_X7) tyX7 tyX7_ok nmX7 hown hK hI hP hS 0 (by omega) (ci := 7) e2_obj rfl 0 (by decide) (flX7_well_61 hts) rfl rfl (by decide +kernel) (Nat.le_of_ble_eq_true rfl) e2_loc (by rw [e2_obj]; simp [up]) dX7_well_2 (fun H locs hP hS => ?_)
  obtain ⟨σ0, hσ0⟩ : ∃ τ, τ = up σ 0 0 (nI 0) := ⟨_, rfl⟩
  rw [← hσ0] at hP
  have hJ0 : I2 n p g rn d th rd sl sn sc (nI 0) tr σ0 := by rw [hσ0]; exact I2_ft hJ
  obtain ⟨hT, hR, hRd, hSh, -, hft, htr⟩ := id hJ0
  have hZ := hSh k hk4
  have hz60 : sl k < 3 → sn k ≤ 60 := fun q => (hZ.2.2 q).2.1
  refine lv_iload_n hx hb dX7_well_5 rfl (lv_at hl 1 rfl) ?_
  refine xk_fi (va_runS (As := [.int (nI k)]) (rest := []) ⟨hx, hb, hml, hown, hts⟩ (k2_isSheet_t l hI (nI k) (xn_in (by omega) (by omega) (by omega))) (va_cwS 1 hts gX7_well_X7_isSheet rfl rfl rfl (by decide +kernel) ⟨Nat.le_of_ble_eq_true rfl, Nat.le_of_ble_eq_true rfl⟩) (xk_preS X2_ok hK hX hP) rfl rfl hl.1 rfl (lv_room (Nat.le_of_ble_eq_true rfl)) dX7_well_6 ⟨Nat.le_of_ble_eq_true rfl, Nat.le_of_ble_eq_true rfl⟩) hS (fun H locs hP hS => ?_)
  refine xn_zne (tgt := 14) hx hb dX7_well_9 (by decide) (by omega) (fun c_9 => ?_) (fun c_9 => absurd c_9 (by omega))
  refine lv_iload_n hx hb dX7_well_14 rfl (lv_at hl 2 rfl) ?_
  refine xk_fi (va_runS (As := [.int (nI w)]) (rest := []) ⟨hx, hb, hml, hown, hts⟩ (k2_isSort_t l hI (nI w) (xn_in (by omega) (by omega) (by omega))) (va_cwS 1 hts gX7_well_X7_isSort rfl rfl rfl (by decide +kernel) ⟨Nat.le_of_ble_eq_true rfl, Nat.le_of_ble_eq_true rfl⟩) (xk_preS X2_ok hK hX hP) rfl rfl hl.1 rfl (lv_room (Nat.le_of_ble_eq_true rfl)) dX7_well_15 ⟨Nat.le_of_ble_eq_true rfl, Nat.le_of_ble_eq_true rfl⟩) hS (fun H locs hP hS => ?_)
  refine xn_zne (tgt := 24) hx hb dX7_well_18 (by decide) (by omega) (fun c_18 => ?_) (fun c_18 => absurd c_18 (by omega))
  refine lv_aload_n hx hb dX7_well_24 rfl (lv_at hl 0 rfl) ?_
  refine lv_iload_n hx hb dX7_well_25 rfl (lv_at hl 1 rfl) ?_
  refine lv_iload_n hx hb dX7_well_26 rfl (lv_at hl 2 rfl) ?_
  refine lv_iload_n hx hb dX7_well_27 rfl (lv_at hl 3 rfl) ?_
  refine lv_iload hx hb dX7_well_28 (lv_at hl 4 rfl) ?_
  refine xk_fi (va_runV (As := [.int (nI k), .int (nI w), .int a, .int m]) (rest := []) ⟨hx, hb, hml, hown, hts⟩ (k2_ag_size l hI (w := w) hk4 hZ hw2 hLw hm0) (cwV 4 hts gX7_well_X7_against rfl rfl rfl (by decide +kernel) ⟨Nat.le_of_ble_eq_true rfl, Nat.le_of_ble_eq_true rfl⟩) (xk_preV X2_ok hK hX hP (xk_recv hK hP 0 (by omega) (ci := 7) e2_obj rfl)) rfl rfl hl.1 rfl (lv_room (Nat.le_of_ble_eq_true rfl)) dX7_well_30 ⟨Nat.le_of_ble_eq_true rfl, Nat.le_of_ble_eq_true rfl⟩) hS (fun H locs hP hS => ?_)
  refine lv_istore (lv' := [(5, .int (nI 4)), (0, .ref (ad 0)), (1, .int (nI k)), (2, .int (nI w)), (3, .int a), (4, .int m)]) hx hb dX7_well_33 hl (by decide) rfl (fun ls hl => ?_)
  refine lv_iload hx hb dX7_well_35 (lv_at hl 0 rfl) ?_
  refine xn_zeq (tgt := 47) hx hb dX7_well_37 (by decide) (by omega) (fun c_37 => absurd c_37 (by omega)) (fun c_37 => ?_)
  refine lv_aload_n hx hb dX7_well_40 rfl (lv_at hl 1 rfl) ?_
  refine lv_iload hx hb dX7_well_41 (lv_at hl 0 rfl) ?_
  refine xk_fi (va_runV (As := [.int (nI 4)]) (rest := []) ⟨hx, hb, hml, hown, hts⟩ (k2_fails l hI 4) (cwV 1 hts gX7_well_X7_fails rfl rfl rfl (by decide +kernel) ⟨Nat.le_of_ble_eq_true rfl, Nat.le_of_ble_eq_true rfl⟩) (xk_preV X2_ok hK hX hP (xk_recv hK hP 0 (by omega) (ci := 7) e2_obj rfl)) rfl rfl hl.1 rfl (lv_room (Nat.le_of_ble_eq_true rfl)) dX7_well_43 ⟨Nat.le_of_ble_eq_true rfl, Nat.le_of_ble_eq_true rfl⟩) hS (fun H locs hP hS => ?_)
  exact xk_iret hx hb hr (vp_nar_int _) X2_ok hK hX hP hS hlk dX7_well_46 (⟨rfl, I2_ft hJ0⟩)

set_option maxHeartbeats 4000000 in
set_option maxRecDepth 100000 in
theorem a2_well_io (l : Launch) {D : va_G} {ca : Nat → ClassId} {ad : Nat → Nat} (hI : Ij ad 18) {σ : Sg} {n p g rn : Nat} {d : Nat → Nat} {th rd : Nat → Nat → Nat} {sl sn : Nat → Nat} {sc : Nat → Nat → Int32} {ft tr : Int32} {k : Nat} {w : Nat} {a m : Int32} (hJ : I2 n p g rn d th rd sl sn sc ft tr σ) (hk4 : k < 4) (hw2 : w ≤ 2) (hLw : sl k = w) (hm0 : ¬ m < 0) (hxy : ∀ u v, u + v ≤ sn k → ¬ (a = nI u ∧ m = nI v)) : C2i l D ca ad yX7_well wsX7_well { frames := 4, cells := 0, slots := 0, locals := 89 } [.ref (ad 0), .int (nI k), .int (nI w), .int a, .int m] σ (fun r σ' => r = (-10) - nI 3 ∧ I2 n p g rn d th rd sl sn sc (nI 3) tr σ') := by
  refine xk_entry cX7_well 7 (some .int) (by decide) rfl (Nat.le_of_ble_eq_true rfl) ?_
  intro pP eE sS mM below meth cC hx hb hml hr hts hown hlk hP hK hX hS ls hl
  have hl : lv_has ls 7 [(0, .ref (ad 0)), (1, .int (nI k)), (2, .int (nI w)), (3, .int a), (4, .int m)] := hl
  obtain ⟨hT, hR, hRd, hSh, hnp, hft, htr⟩ := id hJ
  have hn5 := hT.2.2.1
  have hg9 := hT.2.2.2.1
  have hp6 := hR.2.1
  have hrn8 := hRd.2.1
  refine lv_aload_n hx hb dX7_well_0 rfl (lv_at hl 0 rfl) ?_
  refine lv_iconst (v := nI 0) hx hb dX7_well_1 (by decide) ?_
  refine xk_put hx hb hts (inX7_well_X7) tyX7 tyX7_ok nmX7 hown hK hI hP hS 0 (by omega) (ci := 7) e2_obj rfl 0 (by decide) (flX7_well_61 hts) rfl rfl (by decide +kernel) (Nat.le_of_ble_eq_true rfl) e2_loc (by rw [e2_obj]; simp [up]) dX7_well_2 (fun H locs hP hS => ?_)
  obtain ⟨σ0, hσ0⟩ : ∃ τ, τ = up σ 0 0 (nI 0) := ⟨_, rfl⟩
  rw [← hσ0] at hP
  have hJ0 : I2 n p g rn d th rd sl sn sc (nI 0) tr σ0 := by rw [hσ0]; exact I2_ft hJ
  obtain ⟨hT, hR, hRd, hSh, -, hft, htr⟩ := id hJ0
  have hZ := hSh k hk4
  have hz60 : sl k < 3 → sn k ≤ 60 := fun q => (hZ.2.2 q).2.1
  refine lv_iload_n hx hb dX7_well_5 rfl (lv_at hl 1 rfl) ?_
  refine xk_fi (va_runS (As := [.int (nI k)]) (rest := []) ⟨hx, hb, hml, hown, hts⟩ (k2_isSheet_t l hI (nI k) (xn_in (by omega) (by omega) (by omega))) (va_cwS 1 hts gX7_well_X7_isSheet rfl rfl rfl (by decide +kernel) ⟨Nat.le_of_ble_eq_true rfl, Nat.le_of_ble_eq_true rfl⟩) (xk_preS X2_ok hK hX hP) rfl rfl hl.1 rfl (lv_room (Nat.le_of_ble_eq_true rfl)) dX7_well_6 ⟨Nat.le_of_ble_eq_true rfl, Nat.le_of_ble_eq_true rfl⟩) hS (fun H locs hP hS => ?_)
  refine xn_zne (tgt := 14) hx hb dX7_well_9 (by decide) (by omega) (fun c_9 => ?_) (fun c_9 => absurd c_9 (by omega))
  refine lv_iload_n hx hb dX7_well_14 rfl (lv_at hl 2 rfl) ?_
  refine xk_fi (va_runS (As := [.int (nI w)]) (rest := []) ⟨hx, hb, hml, hown, hts⟩ (k2_isSort_t l hI (nI w) (xn_in (by omega) (by omega) (by omega))) (va_cwS 1 hts gX7_well_X7_isSort rfl rfl rfl (by decide +kernel) ⟨Nat.le_of_ble_eq_true rfl, Nat.le_of_ble_eq_true rfl⟩) (xk_preS X2_ok hK hX hP) rfl rfl hl.1 rfl (lv_room (Nat.le_of_ble_eq_true rfl)) dX7_well_15 ⟨Nat.le_of_ble_eq_true rfl, Nat.le_of_ble_eq_true rfl⟩) hS (fun H locs hP hS => ?_)
  refine xn_zne (tgt := 24) hx hb dX7_well_18 (by decide) (by omega) (fun c_18 => ?_) (fun c_18 => absurd c_18 (by omega))
  refine lv_aload_n hx hb dX7_well_24 rfl (lv_at hl 0 rfl) ?_
  refine lv_iload_n hx hb dX7_well_25 rfl (lv_at hl 1 rfl) ?_
  refine lv_iload_n hx hb dX7_well_26 rfl (lv_at hl 2 rfl) ?_
  refine lv_iload_n hx hb dX7_well_27 rfl (lv_at hl 3 rfl) ?_
  refine lv_iload hx hb dX7_well_28 (lv_at hl 4 rfl) ?_
  obtain ⟨b1, hb1, rfl⟩ := nI_of hm0
  refine xk_fi (va_runV (As := [.int (nI k), .int (nI w), .int a, .int (nI b1)]) (rest := []) ⟨hx, hb, hml, hown, hts⟩ (k2_ag_idx l hI (w := w) hk4 hZ hw2 hLw hb1 hxy) (cwV 4 hts gX7_well_X7_against rfl rfl rfl (by decide +kernel) ⟨Nat.le_of_ble_eq_true rfl, Nat.le_of_ble_eq_true rfl⟩) (xk_preV X2_ok hK hX hP (xk_recv hK hP 0 (by omega) (ci := 7) e2_obj rfl)) rfl rfl hl.1 rfl (lv_room (Nat.le_of_ble_eq_true rfl)) dX7_well_30 ⟨Nat.le_of_ble_eq_true rfl, Nat.le_of_ble_eq_true rfl⟩) hS (fun H locs hP hS => ?_)
  refine lv_istore (lv' := [(5, .int (nI 3)), (0, .ref (ad 0)), (1, .int (nI k)), (2, .int (nI w)), (3, .int a), (4, .int (nI b1))]) hx hb dX7_well_33 hl (by decide) rfl (fun ls hl => ?_)
  refine lv_iload hx hb dX7_well_35 (lv_at hl 0 rfl) ?_
  refine xn_zeq (tgt := 47) hx hb dX7_well_37 (by decide) (by omega) (fun c_37 => absurd c_37 (by omega)) (fun c_37 => ?_)
  refine lv_aload_n hx hb dX7_well_40 rfl (lv_at hl 1 rfl) ?_
  refine lv_iload hx hb dX7_well_41 (lv_at hl 0 rfl) ?_
  refine xk_fi (va_runV (As := [.int (nI 3)]) (rest := []) ⟨hx, hb, hml, hown, hts⟩ (k2_fails l hI 3) (cwV 1 hts gX7_well_X7_fails rfl rfl rfl (by decide +kernel) ⟨Nat.le_of_ble_eq_true rfl, Nat.le_of_ble_eq_true rfl⟩) (xk_preV X2_ok hK hX hP (xk_recv hK hP 0 (by omega) (ci := 7) e2_obj rfl)) rfl rfl hl.1 rfl (lv_room (Nat.le_of_ble_eq_true rfl)) dX7_well_43 ⟨Nat.le_of_ble_eq_true rfl, Nat.le_of_ble_eq_true rfl⟩) hS (fun H locs hP hS => ?_)
  exact xk_iret hx hb hr (vp_nar_int _) X2_ok hK hX hP hS hlk dX7_well_46 (⟨rfl, I2_ft hJ0⟩)

set_option maxRecDepth 20000 in
theorem flX7_well_74 {s : State} {av : Array Value} (hts : ∀ w ∈ wsX7_well, w.before av s = true) : (Cond.fieldLink RX7 74 "WellBackModel" "at" "I").before av s = true := hts _ (by decide +kernel)
set_option maxHeartbeats 4000000 in
set_option maxRecDepth 100000 in
theorem a2_well_bad (l : Launch) {D : va_G} {ca : Nat → ClassId} {ad : Nat → Nat} (hI : Ij ad 18) {σ : Sg} {n p g rn : Nat} {d : Nat → Nat} {th rd : Nat → Nat → Nat} {sl sn : Nat → Nat} {sc : Nat → Nat → Int32} {ft tr : Int32} {k : Nat} {w : Nat} {a m : Nat} {f : Nat} (hJ : I2 n p g rn d th rd sl sn sc ft tr σ) (hk4 : k < 4) (hw2 : w ≤ 2) (hLw : sl k = w) (ham : a + m ≤ sn k) (hpa : parse (cd (fun j => sc k (a + j)) m) m = .inl f) : C2i l D ca ad yX7_well wsX7_well { frames := 4, cells := 0, slots := 0, locals := 89 } [.ref (ad 0), .int (nI k), .int (nI w), .int (nI a), .int (nI m)] σ (fun r σ' => r = (-100) - nI f ∧ I2 n p g rn d th rd sl sn sc (nI 0) tr σ') := by
  refine xk_entry cX7_well 7 (some .int) (by decide) rfl (Nat.le_of_ble_eq_true rfl) ?_
  intro pP eE sS mM below meth cC hx hb hml hr hts hown hlk hP hK hX hS ls hl
  have hl : lv_has ls 7 [(0, .ref (ad 0)), (1, .int (nI k)), (2, .int (nI w)), (3, .int (nI a)), (4, .int (nI m))] := hl
  obtain ⟨hT, hR, hRd, hSh, hnp, hft, htr⟩ := id hJ
  have hn5 := hT.2.2.1
  have hg9 := hT.2.2.2.1
  have hp6 := hR.2.1
  have hrn8 := hRd.2.1
  refine lv_aload_n hx hb dX7_well_0 rfl (lv_at hl 0 rfl) ?_
  refine lv_iconst (v := nI 0) hx hb dX7_well_1 (by decide) ?_
  refine xk_put hx hb hts (inX7_well_X7) tyX7 tyX7_ok nmX7 hown hK hI hP hS 0 (by omega) (ci := 7) e2_obj rfl 0 (by decide) (flX7_well_61 hts) rfl rfl (by decide +kernel) (Nat.le_of_ble_eq_true rfl) e2_loc (by rw [e2_obj]; simp [up]) dX7_well_2 (fun H locs hP hS => ?_)
  obtain ⟨σ0, hσ0⟩ : ∃ τ, τ = up σ 0 0 (nI 0) := ⟨_, rfl⟩
  rw [← hσ0] at hP
  have hJ0 : I2 n p g rn d th rd sl sn sc (nI 0) tr σ0 := by rw [hσ0]; exact I2_ft hJ
  obtain ⟨hT, hR, hRd, hSh, -, hft, htr⟩ := id hJ0
  have hZ := hSh k hk4
  have hz60 : sl k < 3 → sn k ≤ 60 := fun q => (hZ.2.2 q).2.1
  have hL : sl k < 3 := by omega
  have hk60 := hz60 hL
  refine lv_iload_n hx hb dX7_well_5 rfl (lv_at hl 1 rfl) ?_
  refine xk_fi (va_runS (As := [.int (nI k)]) (rest := []) ⟨hx, hb, hml, hown, hts⟩ (k2_isSheet_t l hI (nI k) (xn_in (by omega) (by omega) (by omega))) (va_cwS 1 hts gX7_well_X7_isSheet rfl rfl rfl (by decide +kernel) ⟨Nat.le_of_ble_eq_true rfl, Nat.le_of_ble_eq_true rfl⟩) (xk_preS X2_ok hK hX hP) rfl rfl hl.1 rfl (lv_room (Nat.le_of_ble_eq_true rfl)) dX7_well_6 ⟨Nat.le_of_ble_eq_true rfl, Nat.le_of_ble_eq_true rfl⟩) hS (fun H locs hP hS => ?_)
  refine xn_zne (tgt := 14) hx hb dX7_well_9 (by decide) (by omega) (fun c_9 => ?_) (fun c_9 => absurd c_9 (by omega))
  refine lv_iload_n hx hb dX7_well_14 rfl (lv_at hl 2 rfl) ?_
  refine xk_fi (va_runS (As := [.int (nI w)]) (rest := []) ⟨hx, hb, hml, hown, hts⟩ (k2_isSort_t l hI (nI w) (xn_in (by omega) (by omega) (by omega))) (va_cwS 1 hts gX7_well_X7_isSort rfl rfl rfl (by decide +kernel) ⟨Nat.le_of_ble_eq_true rfl, Nat.le_of_ble_eq_true rfl⟩) (xk_preS X2_ok hK hX hP) rfl rfl hl.1 rfl (lv_room (Nat.le_of_ble_eq_true rfl)) dX7_well_15 ⟨Nat.le_of_ble_eq_true rfl, Nat.le_of_ble_eq_true rfl⟩) hS (fun H locs hP hS => ?_)
  refine xn_zne (tgt := 24) hx hb dX7_well_18 (by decide) (by omega) (fun c_18 => ?_) (fun c_18 => absurd c_18 (by omega))
  refine lv_aload_n hx hb dX7_well_24 rfl (lv_at hl 0 rfl) ?_
  refine lv_iload_n hx hb dX7_well_25 rfl (lv_at hl 1 rfl) ?_
  refine lv_iload_n hx hb dX7_well_26 rfl (lv_at hl 2 rfl) ?_
  refine lv_iload_n hx hb dX7_well_27 rfl (lv_at hl 3 rfl) ?_
  refine lv_iload hx hb dX7_well_28 (lv_at hl 4 rfl) ?_
  refine xk_fi (va_runV (As := [.int (nI k), .int (nI w), .int (nI a), .int (nI m)]) (rest := []) ⟨hx, hb, hml, hown, hts⟩ (k2_ag_ok l hI (w := w) hk4 hZ hw2 hLw ham) (cwV 4 hts gX7_well_X7_against rfl rfl rfl (by decide +kernel) ⟨Nat.le_of_ble_eq_true rfl, Nat.le_of_ble_eq_true rfl⟩) (xk_preV X2_ok hK hX hP (xk_recv hK hP 0 (by omega) (ci := 7) e2_obj rfl)) rfl rfl hl.1 rfl (lv_room (Nat.le_of_ble_eq_true rfl)) dX7_well_30 ⟨Nat.le_of_ble_eq_true rfl, Nat.le_of_ble_eq_true rfl⟩) hS (fun H locs hP hS => ?_)
  refine lv_istore (lv' := [(5, .int (nI 0)), (0, .ref (ad 0)), (1, .int (nI k)), (2, .int (nI w)), (3, .int (nI a)), (4, .int (nI m))]) hx hb dX7_well_33 hl (by decide) rfl (fun ls hl => ?_)
  refine lv_iload hx hb dX7_well_35 (lv_at hl 0 rfl) ?_
  refine xn_zeq (tgt := 47) hx hb dX7_well_37 (by decide) (by omega) (fun c_37 => ?_) (fun c_37 => absurd c_37 (by omega))
  refine lv_bipush (v := nI 60) hx hb dX7_well_47 (by decide) ?_
  refine lv_iload_n hx hb dX7_well_49 rfl (lv_at hl 2 rfl) ?_
  refine xn_imul hx hb dX7_well_50 ?_
  refine lv_iload_n hx hb dX7_well_51 rfl (lv_at hl 4 rfl) ?_
  refine xn_iadd hx hb dX7_well_52 ?_
  refine lv_istore (lv' := [(6, .int (nI ((60 * k) + a))), (5, .int (nI 0)), (0, .ref (ad 0)), (1, .int (nI k)), (2, .int (nI w)), (3, .int (nI a)), (4, .int (nI m))]) hx hb dX7_well_53 hl (by decide) rfl (fun ls hl => ?_)
  refine lv_aload_n hx hb dX7_well_55 rfl (lv_at hl 2 rfl) ?_
  refine lv_iload hx hb dX7_well_56 (lv_at hl 0 rfl) ?_
  refine xk_put hx hb hts (inX7_well_X7) tyX7 tyX7_ok nmX7 hown hK hI hP hS 0 (by omega) (ci := 7) e2_obj rfl 14 (by decide) (flX7_well_74 hts) rfl rfl (by decide +kernel) (Nat.le_of_ble_eq_true rfl) e2_loc (by rw [e2_obj]; simp [up]) dX7_well_58 (fun H locs hP hS => ?_)
  refine lv_aload_n hx hb dX7_well_61 rfl (lv_at hl 2 rfl) ?_
  refine lv_iload hx hb dX7_well_62 (lv_at hl 0 rfl) ?_
  refine lv_iload hx hb dX7_well_64 (lv_at hl 6 rfl) ?_
  refine xn_iadd hx hb dX7_well_66 ?_
  have hFa : FrM σ0 (up σ0 0 14 (nI ((60 * k) + a))) := FrM_up (by omega)
  refine xk_ci (va_runV (As := [.int (nI (((60 * k) + a) + m))]) (rest := []) ⟨hx, hb, hml, hown, hts⟩ (k2_well l hI (F := 60 * k + a) (m := m) (t := fun j => sc k (a + j)) (by omega) (fun j hj => by rw [up_r (by omega), Nat.add_assoc]; exact (hZ.2.2 hL).2.2 (a + j) (by omega)) up_s) (cwV 1 hts gX7_well_X7_readWell rfl rfl rfl (by decide +kernel) ⟨Nat.le_of_ble_eq_true rfl, Nat.le_of_ble_eq_true rfl⟩) (xk_preV X2_ok hK hX hP (xk_recv hK hP 0 (by omega) (ci := 7) e2_obj rfl)) rfl rfl hl.1 rfl (lv_room (Nat.le_of_ble_eq_true rfl)) dX7_well_67 ⟨Nat.le_of_ble_eq_true rfl, Nat.le_of_ble_eq_true rfl⟩) hS (fun r67 τ67 H locs hp hP hS => ?_)
  obtain ⟨hbad, hok, hFm⟩ := hp
  have hJt := I2_fr hJ0 (hFa.tr hFm)
  obtain ⟨rfl, hat⟩ := hbad f hpa
  refine xn_zne (tgt := 84) hx hb dX7_well_70 (by decide) (by omega) (fun c_70 => absurd c_70 (by omega)) (fun c_70 => ?_)
  refine lv_bipush (v := (-100)) hx hb dX7_well_73 (by decide) ?_
  refine lv_aload_n hx hb dX7_well_75 rfl (lv_at hl 2 rfl) ?_
  refine xk_get hx hb hts (inX7_well_X7) hown hK hP 0 (by omega) (ci := 7) e2_obj rfl 14 (by decide) (flX7_well_74 hts) rfl (.int (τ67 0 14)) rfl dX7_well_76 ?_
  refine xn_eqi (y := nI (60 * k + a + f)) hat ?_
  refine lv_iload hx hb dX7_well_79 (lv_at hl 0 rfl) ?_
  refine xn_isub hx hb (by omega) dX7_well_81 ?_
  refine xn_eqi (y := nI f) (by congr 1; omega) ?_
  refine lv_isub hx hb dX7_well_82 ?_
  exact xk_iret hx hb hr (vp_nar_int _) X2_ok hK hX hP hS hlk dX7_well_83 (⟨rfl, hJt⟩)

set_option maxRecDepth 20000 in
theorem flX7_well_71 {s : State} {av : Array Value} (hts : ∀ w ∈ wsX7_well, w.before av s = true) : (Cond.fieldLink RX7 71 "WellBackModel" "things" "I").before av s = true := hts _ (by decide +kernel)
set_option maxHeartbeats 4000000 in
set_option maxRecDepth 100000 in
theorem a2_well_ok (l : Launch) {D : va_G} {ca : Nat → ClassId} {ad : Nat → Nat} (hI : Ij ad 18) {σ : Sg} {n p g rn : Nat} {d : Nat → Nat} {th rd : Nat → Nat → Nat} {sl sn : Nat → Nat} {sc : Nat → Nat → Int32} {ft tr : Int32} {k : Nat} {w : Nat} {a m : Nat} {nn : Nat} (hJ : I2 n p g rn d th rd sl sn sc ft tr σ) (hk4 : k < 4) (hw2 : w ≤ 2) (hLw : sl k = w) (ham : a + m ≤ sn k) (hpa : parse (cd (fun j => sc k (a + j)) m) m = .inr nn) : C2i l D ca ad yX7_well wsX7_well { frames := 4, cells := 0, slots := 0, locals := 89 } [.ref (ad 0), .int (nI k), .int (nI w), .int (nI a), .int (nI m)] σ (fun r σ' => r = nI nn ∧ I2 nn (pls (cd (fun j => sc k (a + j)) m) 6 0) (dv (cd (fun j => sc k (a + j)) m 1)) 0 (fun j => dv (cd (fun j => sc k (a + j)) m (2 + j))) (pth (cd (fun j => sc k (a + j)) m) (pls (cd (fun j => sc k (a + j)) m) 6 0)) rd sl sn sc (nI 0) tr σ') := by
  refine xk_entry cX7_well 7 (some .int) (by decide) rfl (Nat.le_of_ble_eq_true rfl) ?_
  intro pP eE sS mM below meth cC hx hb hml hr hts hown hlk hP hK hX hS ls hl
  have hl : lv_has ls 7 [(0, .ref (ad 0)), (1, .int (nI k)), (2, .int (nI w)), (3, .int (nI a)), (4, .int (nI m))] := hl
  obtain ⟨hT, hR, hRd, hSh, hnp, hft, htr⟩ := id hJ
  have hn5 := hT.2.2.1
  have hg9 := hT.2.2.2.1
  have hp6 := hR.2.1
  have hrn8 := hRd.2.1
  refine lv_aload_n hx hb dX7_well_0 rfl (lv_at hl 0 rfl) ?_
  refine lv_iconst (v := nI 0) hx hb dX7_well_1 (by decide) ?_
  refine xk_put hx hb hts (inX7_well_X7) tyX7 tyX7_ok nmX7 hown hK hI hP hS 0 (by omega) (ci := 7) e2_obj rfl 0 (by decide) (flX7_well_61 hts) rfl rfl (by decide +kernel) (Nat.le_of_ble_eq_true rfl) e2_loc (by rw [e2_obj]; simp [up]) dX7_well_2 (fun H locs hP hS => ?_)
  obtain ⟨σ0, hσ0⟩ : ∃ τ, τ = up σ 0 0 (nI 0) := ⟨_, rfl⟩
  rw [← hσ0] at hP
  have hJ0 : I2 n p g rn d th rd sl sn sc (nI 0) tr σ0 := by rw [hσ0]; exact I2_ft hJ
  obtain ⟨hT, hR, hRd, hSh, -, hft, htr⟩ := id hJ0
  have hZ := hSh k hk4
  have hz60 : sl k < 3 → sn k ≤ 60 := fun q => (hZ.2.2 q).2.1
  have hL : sl k < 3 := by omega
  have hk60 := hz60 hL
  refine lv_iload_n hx hb dX7_well_5 rfl (lv_at hl 1 rfl) ?_
  refine xk_fi (va_runS (As := [.int (nI k)]) (rest := []) ⟨hx, hb, hml, hown, hts⟩ (k2_isSheet_t l hI (nI k) (xn_in (by omega) (by omega) (by omega))) (va_cwS 1 hts gX7_well_X7_isSheet rfl rfl rfl (by decide +kernel) ⟨Nat.le_of_ble_eq_true rfl, Nat.le_of_ble_eq_true rfl⟩) (xk_preS X2_ok hK hX hP) rfl rfl hl.1 rfl (lv_room (Nat.le_of_ble_eq_true rfl)) dX7_well_6 ⟨Nat.le_of_ble_eq_true rfl, Nat.le_of_ble_eq_true rfl⟩) hS (fun H locs hP hS => ?_)
  refine xn_zne (tgt := 14) hx hb dX7_well_9 (by decide) (by omega) (fun c_9 => ?_) (fun c_9 => absurd c_9 (by omega))
  refine lv_iload_n hx hb dX7_well_14 rfl (lv_at hl 2 rfl) ?_
  refine xk_fi (va_runS (As := [.int (nI w)]) (rest := []) ⟨hx, hb, hml, hown, hts⟩ (k2_isSort_t l hI (nI w) (xn_in (by omega) (by omega) (by omega))) (va_cwS 1 hts gX7_well_X7_isSort rfl rfl rfl (by decide +kernel) ⟨Nat.le_of_ble_eq_true rfl, Nat.le_of_ble_eq_true rfl⟩) (xk_preS X2_ok hK hX hP) rfl rfl hl.1 rfl (lv_room (Nat.le_of_ble_eq_true rfl)) dX7_well_15 ⟨Nat.le_of_ble_eq_true rfl, Nat.le_of_ble_eq_true rfl⟩) hS (fun H locs hP hS => ?_)
  refine xn_zne (tgt := 24) hx hb dX7_well_18 (by decide) (by omega) (fun c_18 => ?_) (fun c_18 => absurd c_18 (by omega))
  refine lv_aload_n hx hb dX7_well_24 rfl (lv_at hl 0 rfl) ?_
  refine lv_iload_n hx hb dX7_well_25 rfl (lv_at hl 1 rfl) ?_
  refine lv_iload_n hx hb dX7_well_26 rfl (lv_at hl 2 rfl) ?_
  refine lv_iload_n hx hb dX7_well_27 rfl (lv_at hl 3 rfl) ?_
  refine lv_iload hx hb dX7_well_28 (lv_at hl 4 rfl) ?_
  refine xk_fi (va_runV (As := [.int (nI k), .int (nI w), .int (nI a), .int (nI m)]) (rest := []) ⟨hx, hb, hml, hown, hts⟩ (k2_ag_ok l hI (w := w) hk4 hZ hw2 hLw ham) (cwV 4 hts gX7_well_X7_against rfl rfl rfl (by decide +kernel) ⟨Nat.le_of_ble_eq_true rfl, Nat.le_of_ble_eq_true rfl⟩) (xk_preV X2_ok hK hX hP (xk_recv hK hP 0 (by omega) (ci := 7) e2_obj rfl)) rfl rfl hl.1 rfl (lv_room (Nat.le_of_ble_eq_true rfl)) dX7_well_30 ⟨Nat.le_of_ble_eq_true rfl, Nat.le_of_ble_eq_true rfl⟩) hS (fun H locs hP hS => ?_)
  refine lv_istore (lv' := [(5, .int (nI 0)), (0, .ref (ad 0)), (1, .int (nI k)), (2, .int (nI w)), (3, .int (nI a)), (4, .int (nI m))]) hx hb dX7_well_33 hl (by decide) rfl (fun ls hl => ?_)
  refine lv_iload hx hb dX7_well_35 (lv_at hl 0 rfl) ?_
  refine xn_zeq (tgt := 47) hx hb dX7_well_37 (by decide) (by omega) (fun c_37 => ?_) (fun c_37 => absurd c_37 (by omega))
  refine lv_bipush (v := nI 60) hx hb dX7_well_47 (by decide) ?_
  refine lv_iload_n hx hb dX7_well_49 rfl (lv_at hl 2 rfl) ?_
  refine xn_imul hx hb dX7_well_50 ?_
  refine lv_iload_n hx hb dX7_well_51 rfl (lv_at hl 4 rfl) ?_
  refine xn_iadd hx hb dX7_well_52 ?_
  refine lv_istore (lv' := [(6, .int (nI ((60 * k) + a))), (5, .int (nI 0)), (0, .ref (ad 0)), (1, .int (nI k)), (2, .int (nI w)), (3, .int (nI a)), (4, .int (nI m))]) hx hb dX7_well_53 hl (by decide) rfl (fun ls hl => ?_)
  refine lv_aload_n hx hb dX7_well_55 rfl (lv_at hl 2 rfl) ?_
  refine lv_iload hx hb dX7_well_56 (lv_at hl 0 rfl) ?_
  refine xk_put hx hb hts (inX7_well_X7) tyX7 tyX7_ok nmX7 hown hK hI hP hS 0 (by omega) (ci := 7) e2_obj rfl 14 (by decide) (flX7_well_74 hts) rfl rfl (by decide +kernel) (Nat.le_of_ble_eq_true rfl) e2_loc (by rw [e2_obj]; simp [up]) dX7_well_58 (fun H locs hP hS => ?_)
  refine lv_aload_n hx hb dX7_well_61 rfl (lv_at hl 2 rfl) ?_
  refine lv_iload hx hb dX7_well_62 (lv_at hl 0 rfl) ?_
  refine lv_iload hx hb dX7_well_64 (lv_at hl 6 rfl) ?_
  refine xn_iadd hx hb dX7_well_66 ?_
  have hFa : FrM σ0 (up σ0 0 14 (nI ((60 * k) + a))) := FrM_up (by omega)
  refine xk_ci (va_runV (As := [.int (nI (((60 * k) + a) + m))]) (rest := []) ⟨hx, hb, hml, hown, hts⟩ (k2_well l hI (F := 60 * k + a) (m := m) (t := fun j => sc k (a + j)) (by omega) (fun j hj => by rw [up_r (by omega), Nat.add_assoc]; exact (hZ.2.2 hL).2.2 (a + j) (by omega)) up_s) (cwV 1 hts gX7_well_X7_readWell rfl rfl rfl (by decide +kernel) ⟨Nat.le_of_ble_eq_true rfl, Nat.le_of_ble_eq_true rfl⟩) (xk_preV X2_ok hK hX hP (xk_recv hK hP 0 (by omega) (ci := 7) e2_obj rfl)) rfl rfl hl.1 rfl (lv_room (Nat.le_of_ble_eq_true rfl)) dX7_well_67 ⟨Nat.le_of_ble_eq_true rfl, Nat.le_of_ble_eq_true rfl⟩) hS (fun r67 τ67 H locs hp hP hS => ?_)
  obtain ⟨hbad, hok, hFm⟩ := hp
  have hJt := I2_fr hJ0 (hFa.tr hFm)
  obtain ⟨rfl, h15, h16, h17, h10, h11⟩ := hok nn hpa
  have hpo := parse_ok hpa
  refine xn_zne (tgt := 84) hx hb dX7_well_70 (by decide) (by omega) (fun c_70 => ?_) (fun c_70 => absurd c_70 (by omega))
  refine lv_aload_n hx hb dX7_well_84 rfl (lv_at hl 2 rfl) ?_
  refine xk_cv (va_runV (As := []) (rest := []) ⟨hx, hb, hml, hown, hts⟩ (k2_take l hI h15 h16 h17 hpo.2.2.1 hpo.2.2.2.2.1 (dg_dv hpo.1).2 (fun j hj => ⟨h10 j hj, Nat.lt_succ_of_le (dg_dv (hpo.2.2.2.2.2.2.1 j hj)).2⟩) (fun x hx => ⟨h11 x hx, pth_ok (hpo.2.2.2.2.2.2.2 x hx)⟩)) (cwV 0 hts gX7_well_X7_takeWell rfl rfl rfl (by decide +kernel) ⟨Nat.le_of_ble_eq_true rfl, Nat.le_of_ble_eq_true rfl⟩) (xk_preV X2_ok hK hX hP (xk_recv hK hP 0 (by omega) (ci := 7) e2_obj rfl)) rfl rfl hl.1 rfl (lv_room (Nat.le_of_ble_eq_true rfl)) dX7_well_85 ⟨Nat.le_of_ble_eq_true rfl, Nat.le_of_ble_eq_true rfl⟩) hS (fun ρ H locs hp hP hS => ?_)
  obtain ⟨hT2, hR2, h26, hfr2, hfj2⟩ := hp
  obtain ⟨_, _, _, hSh2, _, hft2, htr2⟩ := hJt
  refine lv_aload_n hx hb dX7_well_88 rfl (lv_at hl 2 rfl) ?_
  refine xk_get hx hb hts (inX7_well_X7) hown hK hP 0 (by omega) (ci := 7) e2_obj rfl 7 (by decide) (flX7_well_71 hts) rfl (.int (ρ 0 7)) rfl dX7_well_89 ?_
  refine xn_eqi (y := nI nn) hT2.2.1 ?_
  exact xk_iret hx hb hr (vp_nar_int _) X2_ok hK hX hP hS hlk dX7_well_92 (⟨rfl, ⟨hT2, hR2, ⟨h26, by omega, fun j hj => absurd hj (Nat.not_lt_zero _)⟩, fun j hj => ShM_fr (hSh2 j hj) (hfr2 _ (by omega) (by omega)) (hfr2 _ (by omega) (by omega)) (hfr2 _ (by omega) (by omega)), ⟨fun _ => hpo.2.1, fun _ => hpo.2.2.2.1⟩, (hfj2 0 (by omega)).trans hft2, (hfj2 1 (by omega)).trans htr2⟩⟩)

set_option maxRecDepth 20000 in
theorem flX7_hours_61 {s : State} {av : Array Value} (hts : ∀ w ∈ wsX7_hours, w.before av s = true) : (Cond.fieldLink RX7 61 "WellBackModel" "fault" "I").before av s = true := hts _ (by decide +kernel)
set_option maxRecDepth 20000 in
theorem inX7_hours_X7 : ∀ w ∈ u_ws RX7 TX7 30, w ∈ wsX7_hours := by decide +kernel
set_option maxHeartbeats 4000000 in
set_option maxRecDepth 100000 in
theorem a2_hours_so (l : Launch) {D : va_G} {ca : Nat → ClassId} {ad : Nat → Nat} (hI : Ij ad 18) {σ : Sg} {n p g rn : Nat} {d : Nat → Nat} {th rd : Nat → Nat → Nat} {sl sn : Nat → Nat} {sc : Nat → Nat → Int32} {ft tr : Int32} {k : Int32} {w a m : Int32} {q : Int32} (hJ : I2 n p g rn d th rd sl sn sc ft tr σ) (hko : ∀ j, j < 4 → k ≠ nI j) : C2i l D ca ad yX7_hours wsX7_hours { frames := 4, cells := 0, slots := 0, locals := 96 } [.ref (ad 0), .int k, .int w, .int a, .int m, .int q] σ (fun r σ' => r = -1 ∧ I2 n p g rn d th rd sl sn sc (nI 0) tr σ') := by
  refine xk_entry cX7_hours 9 (some .int) (by decide) rfl (Nat.le_of_ble_eq_true rfl) ?_
  intro pP eE sS mM below meth cC hx hb hml hr hts hown hlk hP hK hX hS ls hl
  have hl : lv_has ls 9 [(0, .ref (ad 0)), (1, .int k), (2, .int w), (3, .int a), (4, .int m), (5, .int q)] := hl
  obtain ⟨hT, hR, hRd, hSh, hnp, hft, htr⟩ := id hJ
  have hn5 := hT.2.2.1
  have hg9 := hT.2.2.2.1
  have hp6 := hR.2.1
  have hrn8 := hRd.2.1
  refine lv_aload_n hx hb dX7_hours_0 rfl (lv_at hl 0 rfl) ?_
  refine lv_iconst (v := nI 0) hx hb dX7_hours_1 (by decide) ?_
  refine xk_put hx hb hts (inX7_hours_X7) tyX7 tyX7_ok nmX7 hown hK hI hP hS 0 (by omega) (ci := 7) e2_obj rfl 0 (by decide) (flX7_hours_61 hts) rfl rfl (by decide +kernel) (Nat.le_of_ble_eq_true rfl) e2_loc (by rw [e2_obj]; simp [up]) dX7_hours_2 (fun H locs hP hS => ?_)
  obtain ⟨σ0, hσ0⟩ : ∃ τ, τ = up σ 0 0 (nI 0) := ⟨_, rfl⟩
  rw [← hσ0] at hP
  have hJ0 : I2 n p g rn d th rd sl sn sc (nI 0) tr σ0 := by rw [hσ0]; exact I2_ft hJ
  obtain ⟨hT, hR, hRd, hSh, -, hft, htr⟩ := id hJ0
  refine lv_iload_n hx hb dX7_hours_5 rfl (lv_at hl 1 rfl) ?_
  refine xk_fi (va_runS (As := [.int k]) (rest := []) ⟨hx, hb, hml, hown, hts⟩ (k2_isSheet_f l hI k (fun q => by obtain ⟨w, h1, h2, h3⟩ := xn_rng (by omega) q; exact hko w (by omega) h3)) (va_cwS 1 hts gX7_hours_X7_isSheet rfl rfl rfl (by decide +kernel) ⟨Nat.le_of_ble_eq_true rfl, Nat.le_of_ble_eq_true rfl⟩) (xk_preS X2_ok hK hX hP) rfl rfl hl.1 rfl (lv_room (Nat.le_of_ble_eq_true rfl)) dX7_hours_6 ⟨Nat.le_of_ble_eq_true rfl, Nat.le_of_ble_eq_true rfl⟩) hS (fun H locs hP hS => ?_)
  refine xn_zne (tgt := 14) hx hb dX7_hours_9 (by decide) (by omega) (fun c_9 => absurd c_9 (by omega)) (fun c_9 => ?_)
  refine lv_iconst (v := (-1)) hx hb dX7_hours_12 (by decide) ?_
  exact xk_iret hx hb hr (vp_nar_int _) X2_ok hK hX hP hS hlk dX7_hours_13 (⟨rfl, hJ0⟩)

set_option maxHeartbeats 4000000 in
set_option maxRecDepth 100000 in
theorem a2_hours_lo (l : Launch) {D : va_G} {ca : Nat → ClassId} {ad : Nat → Nat} (hI : Ij ad 18) {σ : Sg} {n p g rn : Nat} {d : Nat → Nat} {th rd : Nat → Nat → Nat} {sl sn : Nat → Nat} {sc : Nat → Nat → Int32} {ft tr : Int32} {k : Nat} {w a m : Int32} {q : Int32} (hJ : I2 n p g rn d th rd sl sn sc ft tr σ) (hk4 : k < 4) (hwo : ¬ (nI 0 ≤ w ∧ w ≤ nI 2)) : C2i l D ca ad yX7_hours wsX7_hours { frames := 4, cells := 0, slots := 0, locals := 96 } [.ref (ad 0), .int (nI k), .int w, .int a, .int m, .int q] σ (fun r σ' => r = -2 ∧ I2 n p g rn d th rd sl sn sc (nI 0) tr σ') := by
  refine xk_entry cX7_hours 9 (some .int) (by decide) rfl (Nat.le_of_ble_eq_true rfl) ?_
  intro pP eE sS mM below meth cC hx hb hml hr hts hown hlk hP hK hX hS ls hl
  have hl : lv_has ls 9 [(0, .ref (ad 0)), (1, .int (nI k)), (2, .int w), (3, .int a), (4, .int m), (5, .int q)] := hl
  obtain ⟨hT, hR, hRd, hSh, hnp, hft, htr⟩ := id hJ
  have hn5 := hT.2.2.1
  have hg9 := hT.2.2.2.1
  have hp6 := hR.2.1
  have hrn8 := hRd.2.1
  refine lv_aload_n hx hb dX7_hours_0 rfl (lv_at hl 0 rfl) ?_
  refine lv_iconst (v := nI 0) hx hb dX7_hours_1 (by decide) ?_
  refine xk_put hx hb hts (inX7_hours_X7) tyX7 tyX7_ok nmX7 hown hK hI hP hS 0 (by omega) (ci := 7) e2_obj rfl 0 (by decide) (flX7_hours_61 hts) rfl rfl (by decide +kernel) (Nat.le_of_ble_eq_true rfl) e2_loc (by rw [e2_obj]; simp [up]) dX7_hours_2 (fun H locs hP hS => ?_)
  obtain ⟨σ0, hσ0⟩ : ∃ τ, τ = up σ 0 0 (nI 0) := ⟨_, rfl⟩
  rw [← hσ0] at hP
  have hJ0 : I2 n p g rn d th rd sl sn sc (nI 0) tr σ0 := by rw [hσ0]; exact I2_ft hJ
  obtain ⟨hT, hR, hRd, hSh, -, hft, htr⟩ := id hJ0
  have hZ := hSh k hk4
  have hz60 : sl k < 3 → sn k ≤ 60 := fun q => (hZ.2.2 q).2.1
  refine lv_iload_n hx hb dX7_hours_5 rfl (lv_at hl 1 rfl) ?_
  refine xk_fi (va_runS (As := [.int (nI k)]) (rest := []) ⟨hx, hb, hml, hown, hts⟩ (k2_isSheet_t l hI (nI k) (xn_in (by omega) (by omega) (by omega))) (va_cwS 1 hts gX7_hours_X7_isSheet rfl rfl rfl (by decide +kernel) ⟨Nat.le_of_ble_eq_true rfl, Nat.le_of_ble_eq_true rfl⟩) (xk_preS X2_ok hK hX hP) rfl rfl hl.1 rfl (lv_room (Nat.le_of_ble_eq_true rfl)) dX7_hours_6 ⟨Nat.le_of_ble_eq_true rfl, Nat.le_of_ble_eq_true rfl⟩) hS (fun H locs hP hS => ?_)
  refine xn_zne (tgt := 14) hx hb dX7_hours_9 (by decide) (by omega) (fun c_9 => ?_) (fun c_9 => absurd c_9 (by omega))
  refine lv_iload_n hx hb dX7_hours_14 rfl (lv_at hl 2 rfl) ?_
  refine xk_fi (va_runS (As := [.int w]) (rest := []) ⟨hx, hb, hml, hown, hts⟩ (k2_isSort_f l hI w (by assumption)) (va_cwS 1 hts gX7_hours_X7_isSort rfl rfl rfl (by decide +kernel) ⟨Nat.le_of_ble_eq_true rfl, Nat.le_of_ble_eq_true rfl⟩) (xk_preS X2_ok hK hX hP) rfl rfl hl.1 rfl (lv_room (Nat.le_of_ble_eq_true rfl)) dX7_hours_15 ⟨Nat.le_of_ble_eq_true rfl, Nat.le_of_ble_eq_true rfl⟩) hS (fun H locs hP hS => ?_)
  refine xn_zeq (tgt := 43) hx hb dX7_hours_18 (by decide) (by omega) (fun c_18 => ?_) (fun c_18 => absurd c_18 (by omega))
  refine lv_bipush (v := (-2)) hx hb dX7_hours_43 (by decide) ?_
  exact xk_iret hx hb hr (vp_nar_int _) X2_ok hK hX hP hS hlk dX7_hours_45 (⟨rfl, hJ0⟩)

set_option maxHeartbeats 4000000 in
set_option maxRecDepth 100000 in
theorem a2_hours_wo (l : Launch) {D : va_G} {ca : Nat → ClassId} {ad : Nat → Nat} (hI : Ij ad 18) {σ : Sg} {n p g rn : Nat} {d : Nat → Nat} {th rd : Nat → Nat → Nat} {sl sn : Nat → Nat} {sc : Nat → Nat → Int32} {ft tr : Int32} {k : Nat} {w : Nat} {a m : Int32} {q : Int32} (hJ : I2 n p g rn d th rd sl sn sc ft tr σ) (hk4 : k < 4) (hw2 : w ≤ 2) (hq : ¬ ((nI 0 ≤ q ∧ q ≤ nI 2) ∨ (nI 10 ≤ q ∧ q ≤ nI 14))) : C2i l D ca ad yX7_hours wsX7_hours { frames := 4, cells := 0, slots := 0, locals := 96 } [.ref (ad 0), .int (nI k), .int (nI w), .int a, .int m, .int q] σ (fun r σ' => r = -2 ∧ I2 n p g rn d th rd sl sn sc (nI 0) tr σ') := by
  refine xk_entry cX7_hours 9 (some .int) (by decide) rfl (Nat.le_of_ble_eq_true rfl) ?_
  intro pP eE sS mM below meth cC hx hb hml hr hts hown hlk hP hK hX hS ls hl
  have hl : lv_has ls 9 [(0, .ref (ad 0)), (1, .int (nI k)), (2, .int (nI w)), (3, .int a), (4, .int m), (5, .int q)] := hl
  obtain ⟨hT, hR, hRd, hSh, hnp, hft, htr⟩ := id hJ
  have hn5 := hT.2.2.1
  have hg9 := hT.2.2.2.1
  have hp6 := hR.2.1
  have hrn8 := hRd.2.1
  refine lv_aload_n hx hb dX7_hours_0 rfl (lv_at hl 0 rfl) ?_
  refine lv_iconst (v := nI 0) hx hb dX7_hours_1 (by decide) ?_
  refine xk_put hx hb hts (inX7_hours_X7) tyX7 tyX7_ok nmX7 hown hK hI hP hS 0 (by omega) (ci := 7) e2_obj rfl 0 (by decide) (flX7_hours_61 hts) rfl rfl (by decide +kernel) (Nat.le_of_ble_eq_true rfl) e2_loc (by rw [e2_obj]; simp [up]) dX7_hours_2 (fun H locs hP hS => ?_)
  obtain ⟨σ0, hσ0⟩ : ∃ τ, τ = up σ 0 0 (nI 0) := ⟨_, rfl⟩
  rw [← hσ0] at hP
  have hJ0 : I2 n p g rn d th rd sl sn sc (nI 0) tr σ0 := by rw [hσ0]; exact I2_ft hJ
  obtain ⟨hT, hR, hRd, hSh, -, hft, htr⟩ := id hJ0
  have hZ := hSh k hk4
  have hz60 : sl k < 3 → sn k ≤ 60 := fun q => (hZ.2.2 q).2.1
  refine lv_iload_n hx hb dX7_hours_5 rfl (lv_at hl 1 rfl) ?_
  refine xk_fi (va_runS (As := [.int (nI k)]) (rest := []) ⟨hx, hb, hml, hown, hts⟩ (k2_isSheet_t l hI (nI k) (xn_in (by omega) (by omega) (by omega))) (va_cwS 1 hts gX7_hours_X7_isSheet rfl rfl rfl (by decide +kernel) ⟨Nat.le_of_ble_eq_true rfl, Nat.le_of_ble_eq_true rfl⟩) (xk_preS X2_ok hK hX hP) rfl rfl hl.1 rfl (lv_room (Nat.le_of_ble_eq_true rfl)) dX7_hours_6 ⟨Nat.le_of_ble_eq_true rfl, Nat.le_of_ble_eq_true rfl⟩) hS (fun H locs hP hS => ?_)
  refine xn_zne (tgt := 14) hx hb dX7_hours_9 (by decide) (by omega) (fun c_9 => ?_) (fun c_9 => absurd c_9 (by omega))
  refine lv_iload_n hx hb dX7_hours_14 rfl (lv_at hl 2 rfl) ?_
  refine xk_fi (va_runS (As := [.int (nI w)]) (rest := []) ⟨hx, hb, hml, hown, hts⟩ (k2_isSort_t l hI (nI w) (xn_in (by omega) (by omega) (by omega))) (va_cwS 1 hts gX7_hours_X7_isSort rfl rfl rfl (by decide +kernel) ⟨Nat.le_of_ble_eq_true rfl, Nat.le_of_ble_eq_true rfl⟩) (xk_preS X2_ok hK hX hP) rfl rfl hl.1 rfl (lv_room (Nat.le_of_ble_eq_true rfl)) dX7_hours_15 ⟨Nat.le_of_ble_eq_true rfl, Nat.le_of_ble_eq_true rfl⟩) hS (fun H locs hP hS => ?_)
  refine xn_zeq (tgt := 43) hx hb dX7_hours_18 (by decide) (by omega) (fun c_18 => absurd c_18 (by omega)) (fun c_18 => ?_)
  refine lv_iload hx hb dX7_hours_21 (lv_at hl 5 rfl) ?_
  refine lv_iconst (v := nI 0) hx hb dX7_hours_23 (by decide) ?_
  refine lv_iconst (v := nI 2) hx hb dX7_hours_24 (by decide) ?_
  refine xk_fi (va_runS (As := [.int q, .int (nI 0), .int (nI 2)]) (rest := []) ⟨hx, hb, hml, hown, hts⟩ (k2_within_f l hI q (nI 0) (nI 2) (fun z => hq (.inl z))) (va_cwS 3 hts gX7_hours_X7_within rfl rfl rfl (by decide +kernel) ⟨Nat.le_of_ble_eq_true rfl, Nat.le_of_ble_eq_true rfl⟩) (xk_preS X2_ok hK hX hP) rfl rfl hl.1 rfl (lv_room (Nat.le_of_ble_eq_true rfl)) dX7_hours_25 ⟨Nat.le_of_ble_eq_true rfl, Nat.le_of_ble_eq_true rfl⟩) hS (fun H locs hP hS => ?_)
  refine xn_zne (tgt := 46) hx hb dX7_hours_28 (by decide) (by omega) (fun c_28 => absurd c_28 (by omega)) (fun c_28 => ?_)
  refine lv_iload hx hb dX7_hours_31 (lv_at hl 5 rfl) ?_
  refine lv_bipush (v := nI 10) hx hb dX7_hours_33 (by decide) ?_
  refine lv_bipush (v := nI 14) hx hb dX7_hours_35 (by decide) ?_
  refine xk_fi (va_runS (As := [.int q, .int (nI 10), .int (nI 14)]) (rest := []) ⟨hx, hb, hml, hown, hts⟩ (k2_within_f l hI q (nI 10) (nI 14) (fun z => hq (.inr z))) (va_cwS 3 hts gX7_hours_X7_within rfl rfl rfl (by decide +kernel) ⟨Nat.le_of_ble_eq_true rfl, Nat.le_of_ble_eq_true rfl⟩) (xk_preS X2_ok hK hX hP) rfl rfl hl.1 rfl (lv_room (Nat.le_of_ble_eq_true rfl)) dX7_hours_37 ⟨Nat.le_of_ble_eq_true rfl, Nat.le_of_ble_eq_true rfl⟩) hS (fun H locs hP hS => ?_)
  refine xn_zne (tgt := 46) hx hb dX7_hours_40 (by decide) (by omega) (fun c_40 => absurd c_40 (by omega)) (fun c_40 => ?_)
  refine lv_bipush (v := (-2)) hx hb dX7_hours_43 (by decide) ?_
  exact xk_iret hx hb hr (vp_nar_int _) X2_ok hK hX hP hS hlk dX7_hours_45 (⟨rfl, hJ0⟩)

set_option maxHeartbeats 4000000 in
set_option maxRecDepth 100000 in
theorem a2_hours_fl (l : Launch) {D : va_G} {ca : Nat → ClassId} {ad : Nat → Nat} (hI : Ij ad 18) {σ : Sg} {n p g rn : Nat} {d : Nat → Nat} {th rd : Nat → Nat → Nat} {sl sn : Nat → Nat} {sc : Nat → Nat → Int32} {ft tr : Int32} {k : Nat} {w : Nat} {a m : Int32} {q : Int32} (hJ : I2 n p g rn d th rd sl sn sc ft tr σ) (hk4 : k < 4) (hw2 : w ≤ 2) (hq : (nI 0 ≤ q ∧ q ≤ nI 2) ∨ (nI 10 ≤ q ∧ q ≤ nI 14)) (hf : fL (sl k) w ≠ 0) : C2i l D ca ad yX7_hours wsX7_hours { frames := 4, cells := 0, slots := 0, locals := 96 } [.ref (ad 0), .int (nI k), .int (nI w), .int a, .int m, .int q] σ (fun r σ' => r = (-10) - nI (fL (sl k) w) ∧ I2 n p g rn d th rd sl sn sc (nI (fL (sl k) w)) tr σ') := by
  refine xk_entry cX7_hours 9 (some .int) (by decide) rfl (Nat.le_of_ble_eq_true rfl) ?_
  intro pP eE sS mM below meth cC hx hb hml hr hts hown hlk hP hK hX hS ls hl
  have hl : lv_has ls 9 [(0, .ref (ad 0)), (1, .int (nI k)), (2, .int (nI w)), (3, .int a), (4, .int m), (5, .int q)] := hl
  obtain ⟨hT, hR, hRd, hSh, hnp, hft, htr⟩ := id hJ
  have hn5 := hT.2.2.1
  have hg9 := hT.2.2.2.1
  have hp6 := hR.2.1
  have hrn8 := hRd.2.1
  refine lv_aload_n hx hb dX7_hours_0 rfl (lv_at hl 0 rfl) ?_
  refine lv_iconst (v := nI 0) hx hb dX7_hours_1 (by decide) ?_
  refine xk_put hx hb hts (inX7_hours_X7) tyX7 tyX7_ok nmX7 hown hK hI hP hS 0 (by omega) (ci := 7) e2_obj rfl 0 (by decide) (flX7_hours_61 hts) rfl rfl (by decide +kernel) (Nat.le_of_ble_eq_true rfl) e2_loc (by rw [e2_obj]; simp [up]) dX7_hours_2 (fun H locs hP hS => ?_)
  obtain ⟨σ0, hσ0⟩ : ∃ τ, τ = up σ 0 0 (nI 0) := ⟨_, rfl⟩
  rw [← hσ0] at hP
  have hJ0 : I2 n p g rn d th rd sl sn sc (nI 0) tr σ0 := by rw [hσ0]; exact I2_ft hJ
  obtain ⟨hT, hR, hRd, hSh, -, hft, htr⟩ := id hJ0
  have hZ := hSh k hk4
  have hz60 : sl k < 3 → sn k ≤ 60 := fun q => (hZ.2.2 q).2.1
  have hfl : fL (sl k) w ≤ 2 := by unfold fL; split <;> (try split) <;> omega
  refine lv_iload_n hx hb dX7_hours_5 rfl (lv_at hl 1 rfl) ?_
  refine xk_fi (va_runS (As := [.int (nI k)]) (rest := []) ⟨hx, hb, hml, hown, hts⟩ (k2_isSheet_t l hI (nI k) (xn_in (by omega) (by omega) (by omega))) (va_cwS 1 hts gX7_hours_X7_isSheet rfl rfl rfl (by decide +kernel) ⟨Nat.le_of_ble_eq_true rfl, Nat.le_of_ble_eq_true rfl⟩) (xk_preS X2_ok hK hX hP) rfl rfl hl.1 rfl (lv_room (Nat.le_of_ble_eq_true rfl)) dX7_hours_6 ⟨Nat.le_of_ble_eq_true rfl, Nat.le_of_ble_eq_true rfl⟩) hS (fun H locs hP hS => ?_)
  refine xn_zne (tgt := 14) hx hb dX7_hours_9 (by decide) (by omega) (fun c_9 => ?_) (fun c_9 => absurd c_9 (by omega))
  refine lv_iload_n hx hb dX7_hours_14 rfl (lv_at hl 2 rfl) ?_
  refine xk_fi (va_runS (As := [.int (nI w)]) (rest := []) ⟨hx, hb, hml, hown, hts⟩ (k2_isSort_t l hI (nI w) (xn_in (by omega) (by omega) (by omega))) (va_cwS 1 hts gX7_hours_X7_isSort rfl rfl rfl (by decide +kernel) ⟨Nat.le_of_ble_eq_true rfl, Nat.le_of_ble_eq_true rfl⟩) (xk_preS X2_ok hK hX hP) rfl rfl hl.1 rfl (lv_room (Nat.le_of_ble_eq_true rfl)) dX7_hours_15 ⟨Nat.le_of_ble_eq_true rfl, Nat.le_of_ble_eq_true rfl⟩) hS (fun H locs hP hS => ?_)
  refine xn_zeq (tgt := 43) hx hb dX7_hours_18 (by decide) (by omega) (fun c_18 => absurd c_18 (by omega)) (fun c_18 => ?_)
  refine lv_iload hx hb dX7_hours_21 (lv_at hl 5 rfl) ?_
  refine lv_iconst (v := nI 0) hx hb dX7_hours_23 (by decide) ?_
  refine lv_iconst (v := nI 2) hx hb dX7_hours_24 (by decide) ?_
  by_cases q_25 : nI 0 ≤ q ∧ q ≤ nI 2
  · refine xk_fi (va_runS (As := [.int q, .int (nI 0), .int (nI 2)]) (rest := []) ⟨hx, hb, hml, hown, hts⟩ (k2_within_t l hI q (nI 0) (nI 2) q_25) (va_cwS 3 hts gX7_hours_X7_within rfl rfl rfl (by decide +kernel) ⟨Nat.le_of_ble_eq_true rfl, Nat.le_of_ble_eq_true rfl⟩) (xk_preS X2_ok hK hX hP) rfl rfl hl.1 rfl (lv_room (Nat.le_of_ble_eq_true rfl)) dX7_hours_25 ⟨Nat.le_of_ble_eq_true rfl, Nat.le_of_ble_eq_true rfl⟩) hS (fun H locs hP hS => ?_)
    refine xn_zne (tgt := 46) hx hb dX7_hours_28 (by decide) (by omega) (fun c_28 => ?_) (fun c_28 => absurd c_28 (by omega))
    refine lv_aload_n hx hb dX7_hours_46 rfl (lv_at hl 0 rfl) ?_
    refine lv_iload_n hx hb dX7_hours_47 rfl (lv_at hl 1 rfl) ?_
    refine lv_iload_n hx hb dX7_hours_48 rfl (lv_at hl 2 rfl) ?_
    refine lv_iload_n hx hb dX7_hours_49 rfl (lv_at hl 3 rfl) ?_
    refine lv_iload hx hb dX7_hours_50 (lv_at hl 4 rfl) ?_
    by_cases q3 : sl k = 3
    · refine xk_fi (va_runV (As := [.int (nI k), .int (nI w), .int a, .int m]) (rest := []) ⟨hx, hb, hml, hown, hts⟩ (k2_ag_none l hI (w := w) hk4 hZ hw2 q3) (cwV 4 hts gX7_hours_X7_against rfl rfl rfl (by decide +kernel) ⟨Nat.le_of_ble_eq_true rfl, Nat.le_of_ble_eq_true rfl⟩) (xk_preV X2_ok hK hX hP (xk_recv hK hP 0 (by omega) (ci := 7) e2_obj rfl)) rfl rfl hl.1 rfl (lv_room (Nat.le_of_ble_eq_true rfl)) dX7_hours_52 ⟨Nat.le_of_ble_eq_true rfl, Nat.le_of_ble_eq_true rfl⟩) hS (fun H locs hP hS => ?_)
      refine xn_eqi (y := nI (fL (sl k) w)) (by rw [fL, if_pos q3]) ?_
      refine lv_istore (lv' := [(6, .int (nI (fL (sl k) w))), (0, .ref (ad 0)), (1, .int (nI k)), (2, .int (nI w)), (3, .int a), (4, .int m), (5, .int q)]) hx hb dX7_hours_55 hl (by decide) rfl (fun ls hl => ?_)
      refine lv_iload hx hb dX7_hours_57 (lv_at hl 0 rfl) ?_
      refine xn_zeq (tgt := 69) hx hb dX7_hours_59 (by decide) (by omega) (fun c_59 => absurd c_59 (by omega)) (fun c_59 => ?_)
      refine lv_aload_n hx hb dX7_hours_62 rfl (lv_at hl 1 rfl) ?_
      refine lv_iload hx hb dX7_hours_63 (lv_at hl 0 rfl) ?_
      refine xk_fi (va_runV (As := [.int (nI (fL (sl k) w))]) (rest := []) ⟨hx, hb, hml, hown, hts⟩ (k2_fails l hI (fL (sl k) w)) (cwV 1 hts gX7_hours_X7_fails rfl rfl rfl (by decide +kernel) ⟨Nat.le_of_ble_eq_true rfl, Nat.le_of_ble_eq_true rfl⟩) (xk_preV X2_ok hK hX hP (xk_recv hK hP 0 (by omega) (ci := 7) e2_obj rfl)) rfl rfl hl.1 rfl (lv_room (Nat.le_of_ble_eq_true rfl)) dX7_hours_65 ⟨Nat.le_of_ble_eq_true rfl, Nat.le_of_ble_eq_true rfl⟩) hS (fun H locs hP hS => ?_)
      exact xk_iret hx hb hr (vp_nar_int _) X2_ok hK hX hP hS hlk dX7_hours_68 (⟨rfl, I2_ft hJ0⟩)
    · refine xk_fi (va_runV (As := [.int (nI k), .int (nI w), .int a, .int m]) (rest := []) ⟨hx, hb, hml, hown, hts⟩ (k2_ag_cast l hI (w := w) hk4 hZ hw2 (by have := hZ.2.1; omega) (fun z => hf (by rw [fL, if_neg q3, if_pos z]))) (cwV 4 hts gX7_hours_X7_against rfl rfl rfl (by decide +kernel) ⟨Nat.le_of_ble_eq_true rfl, Nat.le_of_ble_eq_true rfl⟩) (xk_preV X2_ok hK hX hP (xk_recv hK hP 0 (by omega) (ci := 7) e2_obj rfl)) rfl rfl hl.1 rfl (lv_room (Nat.le_of_ble_eq_true rfl)) dX7_hours_52 ⟨Nat.le_of_ble_eq_true rfl, Nat.le_of_ble_eq_true rfl⟩) hS (fun H locs hP hS => ?_)
      refine xn_eqi (y := nI (fL (sl k) w)) (by rw [fL, if_neg q3, if_neg (fun z => hf (by rw [fL, if_neg q3, if_pos z]))]) ?_
      refine lv_istore (lv' := [(6, .int (nI (fL (sl k) w))), (0, .ref (ad 0)), (1, .int (nI k)), (2, .int (nI w)), (3, .int a), (4, .int m), (5, .int q)]) hx hb dX7_hours_55 hl (by decide) rfl (fun ls hl => ?_)
      refine lv_iload hx hb dX7_hours_57 (lv_at hl 0 rfl) ?_
      refine xn_zeq (tgt := 69) hx hb dX7_hours_59 (by decide) (by omega) (fun c_59 => absurd c_59 (by omega)) (fun c_59 => ?_)
      refine lv_aload_n hx hb dX7_hours_62 rfl (lv_at hl 1 rfl) ?_
      refine lv_iload hx hb dX7_hours_63 (lv_at hl 0 rfl) ?_
      refine xk_fi (va_runV (As := [.int (nI (fL (sl k) w))]) (rest := []) ⟨hx, hb, hml, hown, hts⟩ (k2_fails l hI (fL (sl k) w)) (cwV 1 hts gX7_hours_X7_fails rfl rfl rfl (by decide +kernel) ⟨Nat.le_of_ble_eq_true rfl, Nat.le_of_ble_eq_true rfl⟩) (xk_preV X2_ok hK hX hP (xk_recv hK hP 0 (by omega) (ci := 7) e2_obj rfl)) rfl rfl hl.1 rfl (lv_room (Nat.le_of_ble_eq_true rfl)) dX7_hours_65 ⟨Nat.le_of_ble_eq_true rfl, Nat.le_of_ble_eq_true rfl⟩) hS (fun H locs hP hS => ?_)
      exact xk_iret hx hb hr (vp_nar_int _) X2_ok hK hX hP hS hlk dX7_hours_68 (⟨rfl, I2_ft hJ0⟩)
  · refine xk_fi (va_runS (As := [.int q, .int (nI 0), .int (nI 2)]) (rest := []) ⟨hx, hb, hml, hown, hts⟩ (k2_within_f l hI q (nI 0) (nI 2) q_25) (va_cwS 3 hts gX7_hours_X7_within rfl rfl rfl (by decide +kernel) ⟨Nat.le_of_ble_eq_true rfl, Nat.le_of_ble_eq_true rfl⟩) (xk_preS X2_ok hK hX hP) rfl rfl hl.1 rfl (lv_room (Nat.le_of_ble_eq_true rfl)) dX7_hours_25 ⟨Nat.le_of_ble_eq_true rfl, Nat.le_of_ble_eq_true rfl⟩) hS (fun H locs hP hS => ?_)
    refine xn_zne (tgt := 46) hx hb dX7_hours_28 (by decide) (by omega) (fun c_28 => absurd c_28 (by omega)) (fun c_28 => ?_)
    refine lv_iload hx hb dX7_hours_31 (lv_at hl 5 rfl) ?_
    refine lv_bipush (v := nI 10) hx hb dX7_hours_33 (by decide) ?_
    refine lv_bipush (v := nI 14) hx hb dX7_hours_35 (by decide) ?_
    refine xk_fi (va_runS (As := [.int q, .int (nI 10), .int (nI 14)]) (rest := []) ⟨hx, hb, hml, hown, hts⟩ (k2_within_t l hI q (nI 10) (nI 14) (hq.resolve_left q_25)) (va_cwS 3 hts gX7_hours_X7_within rfl rfl rfl (by decide +kernel) ⟨Nat.le_of_ble_eq_true rfl, Nat.le_of_ble_eq_true rfl⟩) (xk_preS X2_ok hK hX hP) rfl rfl hl.1 rfl (lv_room (Nat.le_of_ble_eq_true rfl)) dX7_hours_37 ⟨Nat.le_of_ble_eq_true rfl, Nat.le_of_ble_eq_true rfl⟩) hS (fun H locs hP hS => ?_)
    refine xn_zne (tgt := 46) hx hb dX7_hours_40 (by decide) (by omega) (fun c_40 => ?_) (fun c_40 => absurd c_40 (by omega))
    refine lv_aload_n hx hb dX7_hours_46 rfl (lv_at hl 0 rfl) ?_
    refine lv_iload_n hx hb dX7_hours_47 rfl (lv_at hl 1 rfl) ?_
    refine lv_iload_n hx hb dX7_hours_48 rfl (lv_at hl 2 rfl) ?_
    refine lv_iload_n hx hb dX7_hours_49 rfl (lv_at hl 3 rfl) ?_
    refine lv_iload hx hb dX7_hours_50 (lv_at hl 4 rfl) ?_
    by_cases q3 : sl k = 3
    · refine xk_fi (va_runV (As := [.int (nI k), .int (nI w), .int a, .int m]) (rest := []) ⟨hx, hb, hml, hown, hts⟩ (k2_ag_none l hI (w := w) hk4 hZ hw2 q3) (cwV 4 hts gX7_hours_X7_against rfl rfl rfl (by decide +kernel) ⟨Nat.le_of_ble_eq_true rfl, Nat.le_of_ble_eq_true rfl⟩) (xk_preV X2_ok hK hX hP (xk_recv hK hP 0 (by omega) (ci := 7) e2_obj rfl)) rfl rfl hl.1 rfl (lv_room (Nat.le_of_ble_eq_true rfl)) dX7_hours_52 ⟨Nat.le_of_ble_eq_true rfl, Nat.le_of_ble_eq_true rfl⟩) hS (fun H locs hP hS => ?_)
      refine xn_eqi (y := nI (fL (sl k) w)) (by rw [fL, if_pos q3]) ?_
      refine lv_istore (lv' := [(6, .int (nI (fL (sl k) w))), (0, .ref (ad 0)), (1, .int (nI k)), (2, .int (nI w)), (3, .int a), (4, .int m), (5, .int q)]) hx hb dX7_hours_55 hl (by decide) rfl (fun ls hl => ?_)
      refine lv_iload hx hb dX7_hours_57 (lv_at hl 0 rfl) ?_
      refine xn_zeq (tgt := 69) hx hb dX7_hours_59 (by decide) (by omega) (fun c_59 => absurd c_59 (by omega)) (fun c_59 => ?_)
      refine lv_aload_n hx hb dX7_hours_62 rfl (lv_at hl 1 rfl) ?_
      refine lv_iload hx hb dX7_hours_63 (lv_at hl 0 rfl) ?_
      refine xk_fi (va_runV (As := [.int (nI (fL (sl k) w))]) (rest := []) ⟨hx, hb, hml, hown, hts⟩ (k2_fails l hI (fL (sl k) w)) (cwV 1 hts gX7_hours_X7_fails rfl rfl rfl (by decide +kernel) ⟨Nat.le_of_ble_eq_true rfl, Nat.le_of_ble_eq_true rfl⟩) (xk_preV X2_ok hK hX hP (xk_recv hK hP 0 (by omega) (ci := 7) e2_obj rfl)) rfl rfl hl.1 rfl (lv_room (Nat.le_of_ble_eq_true rfl)) dX7_hours_65 ⟨Nat.le_of_ble_eq_true rfl, Nat.le_of_ble_eq_true rfl⟩) hS (fun H locs hP hS => ?_)
      exact xk_iret hx hb hr (vp_nar_int _) X2_ok hK hX hP hS hlk dX7_hours_68 (⟨rfl, I2_ft hJ0⟩)
    · refine xk_fi (va_runV (As := [.int (nI k), .int (nI w), .int a, .int m]) (rest := []) ⟨hx, hb, hml, hown, hts⟩ (k2_ag_cast l hI (w := w) hk4 hZ hw2 (by have := hZ.2.1; omega) (fun z => hf (by rw [fL, if_neg q3, if_pos z]))) (cwV 4 hts gX7_hours_X7_against rfl rfl rfl (by decide +kernel) ⟨Nat.le_of_ble_eq_true rfl, Nat.le_of_ble_eq_true rfl⟩) (xk_preV X2_ok hK hX hP (xk_recv hK hP 0 (by omega) (ci := 7) e2_obj rfl)) rfl rfl hl.1 rfl (lv_room (Nat.le_of_ble_eq_true rfl)) dX7_hours_52 ⟨Nat.le_of_ble_eq_true rfl, Nat.le_of_ble_eq_true rfl⟩) hS (fun H locs hP hS => ?_)
      refine xn_eqi (y := nI (fL (sl k) w)) (by rw [fL, if_neg q3, if_neg (fun z => hf (by rw [fL, if_neg q3, if_pos z]))]) ?_
      refine lv_istore (lv' := [(6, .int (nI (fL (sl k) w))), (0, .ref (ad 0)), (1, .int (nI k)), (2, .int (nI w)), (3, .int a), (4, .int m), (5, .int q)]) hx hb dX7_hours_55 hl (by decide) rfl (fun ls hl => ?_)
      refine lv_iload hx hb dX7_hours_57 (lv_at hl 0 rfl) ?_
      refine xn_zeq (tgt := 69) hx hb dX7_hours_59 (by decide) (by omega) (fun c_59 => absurd c_59 (by omega)) (fun c_59 => ?_)
      refine lv_aload_n hx hb dX7_hours_62 rfl (lv_at hl 1 rfl) ?_
      refine lv_iload hx hb dX7_hours_63 (lv_at hl 0 rfl) ?_
      refine xk_fi (va_runV (As := [.int (nI (fL (sl k) w))]) (rest := []) ⟨hx, hb, hml, hown, hts⟩ (k2_fails l hI (fL (sl k) w)) (cwV 1 hts gX7_hours_X7_fails rfl rfl rfl (by decide +kernel) ⟨Nat.le_of_ble_eq_true rfl, Nat.le_of_ble_eq_true rfl⟩) (xk_preV X2_ok hK hX hP (xk_recv hK hP 0 (by omega) (ci := 7) e2_obj rfl)) rfl rfl hl.1 rfl (lv_room (Nat.le_of_ble_eq_true rfl)) dX7_hours_65 ⟨Nat.le_of_ble_eq_true rfl, Nat.le_of_ble_eq_true rfl⟩) hS (fun H locs hP hS => ?_)
      exact xk_iret hx hb hr (vp_nar_int _) X2_ok hK hX hP hS hlk dX7_hours_68 (⟨rfl, I2_ft hJ0⟩)

set_option maxHeartbeats 4000000 in
set_option maxRecDepth 100000 in
theorem a2_hours_ne (l : Launch) {D : va_G} {ca : Nat → ClassId} {ad : Nat → Nat} (hI : Ij ad 18) {σ : Sg} {n p g rn : Nat} {d : Nat → Nat} {th rd : Nat → Nat → Nat} {sl sn : Nat → Nat} {sc : Nat → Nat → Int32} {ft tr : Int32} {k : Nat} {w : Nat} {a m : Int32} {q : Int32} (hJ : I2 n p g rn d th rd sl sn sc ft tr σ) (hk4 : k < 4) (hw2 : w ≤ 2) (hq : (nI 0 ≤ q ∧ q ≤ nI 2) ∨ (nI 10 ≤ q ∧ q ≤ nI 14)) (hLw : sl k = w) (hm0 : m < 0) : C2i l D ca ad yX7_hours wsX7_hours { frames := 4, cells := 0, slots := 0, locals := 96 } [.ref (ad 0), .int (nI k), .int (nI w), .int a, .int m, .int q] σ (fun r σ' => r = (-10) - nI 4 ∧ I2 n p g rn d th rd sl sn sc (nI 4) tr σ') := by
  refine xk_entry cX7_hours 9 (some .int) (by decide) rfl (Nat.le_of_ble_eq_true rfl) ?_
  intro pP eE sS mM below meth cC hx hb hml hr hts hown hlk hP hK hX hS ls hl
  have hl : lv_has ls 9 [(0, .ref (ad 0)), (1, .int (nI k)), (2, .int (nI w)), (3, .int a), (4, .int m), (5, .int q)] := hl
  obtain ⟨hT, hR, hRd, hSh, hnp, hft, htr⟩ := id hJ
  have hn5 := hT.2.2.1
  have hg9 := hT.2.2.2.1
  have hp6 := hR.2.1
  have hrn8 := hRd.2.1
  refine lv_aload_n hx hb dX7_hours_0 rfl (lv_at hl 0 rfl) ?_
  refine lv_iconst (v := nI 0) hx hb dX7_hours_1 (by decide) ?_
  refine xk_put hx hb hts (inX7_hours_X7) tyX7 tyX7_ok nmX7 hown hK hI hP hS 0 (by omega) (ci := 7) e2_obj rfl 0 (by decide) (flX7_hours_61 hts) rfl rfl (by decide +kernel) (Nat.le_of_ble_eq_true rfl) e2_loc (by rw [e2_obj]; simp [up]) dX7_hours_2 (fun H locs hP hS => ?_)
  obtain ⟨σ0, hσ0⟩ : ∃ τ, τ = up σ 0 0 (nI 0) := ⟨_, rfl⟩
  rw [← hσ0] at hP
  have hJ0 : I2 n p g rn d th rd sl sn sc (nI 0) tr σ0 := by rw [hσ0]; exact I2_ft hJ
  obtain ⟨hT, hR, hRd, hSh, -, hft, htr⟩ := id hJ0
  have hZ := hSh k hk4
  have hz60 : sl k < 3 → sn k ≤ 60 := fun q => (hZ.2.2 q).2.1
  refine lv_iload_n hx hb dX7_hours_5 rfl (lv_at hl 1 rfl) ?_
  refine xk_fi (va_runS (As := [.int (nI k)]) (rest := []) ⟨hx, hb, hml, hown, hts⟩ (k2_isSheet_t l hI (nI k) (xn_in (by omega) (by omega) (by omega))) (va_cwS 1 hts gX7_hours_X7_isSheet rfl rfl rfl (by decide +kernel) ⟨Nat.le_of_ble_eq_true rfl, Nat.le_of_ble_eq_true rfl⟩) (xk_preS X2_ok hK hX hP) rfl rfl hl.1 rfl (lv_room (Nat.le_of_ble_eq_true rfl)) dX7_hours_6 ⟨Nat.le_of_ble_eq_true rfl, Nat.le_of_ble_eq_true rfl⟩) hS (fun H locs hP hS => ?_)
  refine xn_zne (tgt := 14) hx hb dX7_hours_9 (by decide) (by omega) (fun c_9 => ?_) (fun c_9 => absurd c_9 (by omega))
  refine lv_iload_n hx hb dX7_hours_14 rfl (lv_at hl 2 rfl) ?_
  refine xk_fi (va_runS (As := [.int (nI w)]) (rest := []) ⟨hx, hb, hml, hown, hts⟩ (k2_isSort_t l hI (nI w) (xn_in (by omega) (by omega) (by omega))) (va_cwS 1 hts gX7_hours_X7_isSort rfl rfl rfl (by decide +kernel) ⟨Nat.le_of_ble_eq_true rfl, Nat.le_of_ble_eq_true rfl⟩) (xk_preS X2_ok hK hX hP) rfl rfl hl.1 rfl (lv_room (Nat.le_of_ble_eq_true rfl)) dX7_hours_15 ⟨Nat.le_of_ble_eq_true rfl, Nat.le_of_ble_eq_true rfl⟩) hS (fun H locs hP hS => ?_)
  refine xn_zeq (tgt := 43) hx hb dX7_hours_18 (by decide) (by omega) (fun c_18 => absurd c_18 (by omega)) (fun c_18 => ?_)
  refine lv_iload hx hb dX7_hours_21 (lv_at hl 5 rfl) ?_
  refine lv_iconst (v := nI 0) hx hb dX7_hours_23 (by decide) ?_
  refine lv_iconst (v := nI 2) hx hb dX7_hours_24 (by decide) ?_
  by_cases q_25 : nI 0 ≤ q ∧ q ≤ nI 2
  · refine xk_fi (va_runS (As := [.int q, .int (nI 0), .int (nI 2)]) (rest := []) ⟨hx, hb, hml, hown, hts⟩ (k2_within_t l hI q (nI 0) (nI 2) q_25) (va_cwS 3 hts gX7_hours_X7_within rfl rfl rfl (by decide +kernel) ⟨Nat.le_of_ble_eq_true rfl, Nat.le_of_ble_eq_true rfl⟩) (xk_preS X2_ok hK hX hP) rfl rfl hl.1 rfl (lv_room (Nat.le_of_ble_eq_true rfl)) dX7_hours_25 ⟨Nat.le_of_ble_eq_true rfl, Nat.le_of_ble_eq_true rfl⟩) hS (fun H locs hP hS => ?_)
    refine xn_zne (tgt := 46) hx hb dX7_hours_28 (by decide) (by omega) (fun c_28 => ?_) (fun c_28 => absurd c_28 (by omega))
    refine lv_aload_n hx hb dX7_hours_46 rfl (lv_at hl 0 rfl) ?_
    refine lv_iload_n hx hb dX7_hours_47 rfl (lv_at hl 1 rfl) ?_
    refine lv_iload_n hx hb dX7_hours_48 rfl (lv_at hl 2 rfl) ?_
    refine lv_iload_n hx hb dX7_hours_49 rfl (lv_at hl 3 rfl) ?_
    refine lv_iload hx hb dX7_hours_50 (lv_at hl 4 rfl) ?_
    refine xk_fi (va_runV (As := [.int (nI k), .int (nI w), .int a, .int m]) (rest := []) ⟨hx, hb, hml, hown, hts⟩ (k2_ag_size l hI (w := w) hk4 hZ hw2 hLw hm0) (cwV 4 hts gX7_hours_X7_against rfl rfl rfl (by decide +kernel) ⟨Nat.le_of_ble_eq_true rfl, Nat.le_of_ble_eq_true rfl⟩) (xk_preV X2_ok hK hX hP (xk_recv hK hP 0 (by omega) (ci := 7) e2_obj rfl)) rfl rfl hl.1 rfl (lv_room (Nat.le_of_ble_eq_true rfl)) dX7_hours_52 ⟨Nat.le_of_ble_eq_true rfl, Nat.le_of_ble_eq_true rfl⟩) hS (fun H locs hP hS => ?_)
    refine lv_istore (lv' := [(6, .int (nI 4)), (0, .ref (ad 0)), (1, .int (nI k)), (2, .int (nI w)), (3, .int a), (4, .int m), (5, .int q)]) hx hb dX7_hours_55 hl (by decide) rfl (fun ls hl => ?_)
    refine lv_iload hx hb dX7_hours_57 (lv_at hl 0 rfl) ?_
    refine xn_zeq (tgt := 69) hx hb dX7_hours_59 (by decide) (by omega) (fun c_59 => absurd c_59 (by omega)) (fun c_59 => ?_)
    refine lv_aload_n hx hb dX7_hours_62 rfl (lv_at hl 1 rfl) ?_
    refine lv_iload hx hb dX7_hours_63 (lv_at hl 0 rfl) ?_
    refine xk_fi (va_runV (As := [.int (nI 4)]) (rest := []) ⟨hx, hb, hml, hown, hts⟩ (k2_fails l hI 4) (cwV 1 hts gX7_hours_X7_fails rfl rfl rfl (by decide +kernel) ⟨Nat.le_of_ble_eq_true rfl, Nat.le_of_ble_eq_true rfl⟩) (xk_preV X2_ok hK hX hP (xk_recv hK hP 0 (by omega) (ci := 7) e2_obj rfl)) rfl rfl hl.1 rfl (lv_room (Nat.le_of_ble_eq_true rfl)) dX7_hours_65 ⟨Nat.le_of_ble_eq_true rfl, Nat.le_of_ble_eq_true rfl⟩) hS (fun H locs hP hS => ?_)
    exact xk_iret hx hb hr (vp_nar_int _) X2_ok hK hX hP hS hlk dX7_hours_68 (⟨rfl, I2_ft hJ0⟩)
  · refine xk_fi (va_runS (As := [.int q, .int (nI 0), .int (nI 2)]) (rest := []) ⟨hx, hb, hml, hown, hts⟩ (k2_within_f l hI q (nI 0) (nI 2) q_25) (va_cwS 3 hts gX7_hours_X7_within rfl rfl rfl (by decide +kernel) ⟨Nat.le_of_ble_eq_true rfl, Nat.le_of_ble_eq_true rfl⟩) (xk_preS X2_ok hK hX hP) rfl rfl hl.1 rfl (lv_room (Nat.le_of_ble_eq_true rfl)) dX7_hours_25 ⟨Nat.le_of_ble_eq_true rfl, Nat.le_of_ble_eq_true rfl⟩) hS (fun H locs hP hS => ?_)
    refine xn_zne (tgt := 46) hx hb dX7_hours_28 (by decide) (by omega) (fun c_28 => absurd c_28 (by omega)) (fun c_28 => ?_)
    refine lv_iload hx hb dX7_hours_31 (lv_at hl 5 rfl) ?_
    refine lv_bipush (v := nI 10) hx hb dX7_hours_33 (by decide) ?_
    refine lv_bipush (v := nI 14) hx hb dX7_hours_35 (by decide) ?_
    refine xk_fi (va_runS (As := [.int q, .int (nI 10), .int (nI 14)]) (rest := []) ⟨hx, hb, hml, hown, hts⟩ (k2_within_t l hI q (nI 10) (nI 14) (hq.resolve_left q_25)) (va_cwS 3 hts gX7_hours_X7_within rfl rfl rfl (by decide +kernel) ⟨Nat.le_of_ble_eq_true rfl, Nat.le_of_ble_eq_true rfl⟩) (xk_preS X2_ok hK hX hP) rfl rfl hl.1 rfl (lv_room (Nat.le_of_ble_eq_true rfl)) dX7_hours_37 ⟨Nat.le_of_ble_eq_true rfl, Nat.le_of_ble_eq_true rfl⟩) hS (fun H locs hP hS => ?_)
    refine xn_zne (tgt := 46) hx hb dX7_hours_40 (by decide) (by omega) (fun c_40 => ?_) (fun c_40 => absurd c_40 (by omega))
    refine lv_aload_n hx hb dX7_hours_46 rfl (lv_at hl 0 rfl) ?_
    refine lv_iload_n hx hb dX7_hours_47 rfl (lv_at hl 1 rfl) ?_
    refine lv_iload_n hx hb dX7_hours_48 rfl (lv_at hl 2 rfl) ?_
    refine lv_iload_n hx hb dX7_hours_49 rfl (lv_at hl 3 rfl) ?_
    refine lv_iload hx hb dX7_hours_50 (lv_at hl 4 rfl) ?_
    refine xk_fi (va_runV (As := [.int (nI k), .int (nI w), .int a, .int m]) (rest := []) ⟨hx, hb, hml, hown, hts⟩ (k2_ag_size l hI (w := w) hk4 hZ hw2 hLw hm0) (cwV 4 hts gX7_hours_X7_against rfl rfl rfl (by decide +kernel) ⟨Nat.le_of_ble_eq_true rfl, Nat.le_of_ble_eq_true rfl⟩) (xk_preV X2_ok hK hX hP (xk_recv hK hP 0 (by omega) (ci := 7) e2_obj rfl)) rfl rfl hl.1 rfl (lv_room (Nat.le_of_ble_eq_true rfl)) dX7_hours_52 ⟨Nat.le_of_ble_eq_true rfl, Nat.le_of_ble_eq_true rfl⟩) hS (fun H locs hP hS => ?_)
    refine lv_istore (lv' := [(6, .int (nI 4)), (0, .ref (ad 0)), (1, .int (nI k)), (2, .int (nI w)), (3, .int a), (4, .int m), (5, .int q)]) hx hb dX7_hours_55 hl (by decide) rfl (fun ls hl => ?_)
    refine lv_iload hx hb dX7_hours_57 (lv_at hl 0 rfl) ?_
    refine xn_zeq (tgt := 69) hx hb dX7_hours_59 (by decide) (by omega) (fun c_59 => absurd c_59 (by omega)) (fun c_59 => ?_)
    refine lv_aload_n hx hb dX7_hours_62 rfl (lv_at hl 1 rfl) ?_
    refine lv_iload hx hb dX7_hours_63 (lv_at hl 0 rfl) ?_
    refine xk_fi (va_runV (As := [.int (nI 4)]) (rest := []) ⟨hx, hb, hml, hown, hts⟩ (k2_fails l hI 4) (cwV 1 hts gX7_hours_X7_fails rfl rfl rfl (by decide +kernel) ⟨Nat.le_of_ble_eq_true rfl, Nat.le_of_ble_eq_true rfl⟩) (xk_preV X2_ok hK hX hP (xk_recv hK hP 0 (by omega) (ci := 7) e2_obj rfl)) rfl rfl hl.1 rfl (lv_room (Nat.le_of_ble_eq_true rfl)) dX7_hours_65 ⟨Nat.le_of_ble_eq_true rfl, Nat.le_of_ble_eq_true rfl⟩) hS (fun H locs hP hS => ?_)
    exact xk_iret hx hb hr (vp_nar_int _) X2_ok hK hX hP hS hlk dX7_hours_68 (⟨rfl, I2_ft hJ0⟩)

set_option maxHeartbeats 4000000 in
set_option maxRecDepth 100000 in
theorem a2_hours_io (l : Launch) {D : va_G} {ca : Nat → ClassId} {ad : Nat → Nat} (hI : Ij ad 18) {σ : Sg} {n p g rn : Nat} {d : Nat → Nat} {th rd : Nat → Nat → Nat} {sl sn : Nat → Nat} {sc : Nat → Nat → Int32} {ft tr : Int32} {k : Nat} {w : Nat} {a m : Int32} {q : Int32} (hJ : I2 n p g rn d th rd sl sn sc ft tr σ) (hk4 : k < 4) (hw2 : w ≤ 2) (hq : (nI 0 ≤ q ∧ q ≤ nI 2) ∨ (nI 10 ≤ q ∧ q ≤ nI 14)) (hLw : sl k = w) (hm0 : ¬ m < 0) (hxy : ∀ u v, u + v ≤ sn k → ¬ (a = nI u ∧ m = nI v)) : C2i l D ca ad yX7_hours wsX7_hours { frames := 4, cells := 0, slots := 0, locals := 96 } [.ref (ad 0), .int (nI k), .int (nI w), .int a, .int m, .int q] σ (fun r σ' => r = (-10) - nI 3 ∧ I2 n p g rn d th rd sl sn sc (nI 3) tr σ') := by
  refine xk_entry cX7_hours 9 (some .int) (by decide) rfl (Nat.le_of_ble_eq_true rfl) ?_
  intro pP eE sS mM below meth cC hx hb hml hr hts hown hlk hP hK hX hS ls hl
  have hl : lv_has ls 9 [(0, .ref (ad 0)), (1, .int (nI k)), (2, .int (nI w)), (3, .int a), (4, .int m), (5, .int q)] := hl
  obtain ⟨hT, hR, hRd, hSh, hnp, hft, htr⟩ := id hJ
  have hn5 := hT.2.2.1
  have hg9 := hT.2.2.2.1
  have hp6 := hR.2.1
  have hrn8 := hRd.2.1
  refine lv_aload_n hx hb dX7_hours_0 rfl (lv_at hl 0 rfl) ?_
  refine lv_iconst (v := nI 0) hx hb dX7_hours_1 (by decide) ?_
  refine xk_put hx hb hts (inX7_hours_X7) tyX7 tyX7_ok nmX7 hown hK hI hP hS 0 (by omega) (ci := 7) e2_obj rfl 0 (by decide) (flX7_hours_61 hts) rfl rfl (by decide +kernel) (Nat.le_of_ble_eq_true rfl) e2_loc (by rw [e2_obj]; simp [up]) dX7_hours_2 (fun H locs hP hS => ?_)
  obtain ⟨σ0, hσ0⟩ : ∃ τ, τ = up σ 0 0 (nI 0) := ⟨_, rfl⟩
  rw [← hσ0] at hP
  have hJ0 : I2 n p g rn d th rd sl sn sc (nI 0) tr σ0 := by rw [hσ0]; exact I2_ft hJ
  obtain ⟨hT, hR, hRd, hSh, -, hft, htr⟩ := id hJ0
  have hZ := hSh k hk4
  have hz60 : sl k < 3 → sn k ≤ 60 := fun q => (hZ.2.2 q).2.1
  refine lv_iload_n hx hb dX7_hours_5 rfl (lv_at hl 1 rfl) ?_
  refine xk_fi (va_runS (As := [.int (nI k)]) (rest := []) ⟨hx, hb, hml, hown, hts⟩ (k2_isSheet_t l hI (nI k) (xn_in (by omega) (by omega) (by omega))) (va_cwS 1 hts gX7_hours_X7_isSheet rfl rfl rfl (by decide +kernel) ⟨Nat.le_of_ble_eq_true rfl, Nat.le_of_ble_eq_true rfl⟩) (xk_preS X2_ok hK hX hP) rfl rfl hl.1 rfl (lv_room (Nat.le_of_ble_eq_true rfl)) dX7_hours_6 ⟨Nat.le_of_ble_eq_true rfl, Nat.le_of_ble_eq_true rfl⟩) hS (fun H locs hP hS => ?_)
  refine xn_zne (tgt := 14) hx hb dX7_hours_9 (by decide) (by omega) (fun c_9 => ?_) (fun c_9 => absurd c_9 (by omega))
  refine lv_iload_n hx hb dX7_hours_14 rfl (lv_at hl 2 rfl) ?_
  refine xk_fi (va_runS (As := [.int (nI w)]) (rest := []) ⟨hx, hb, hml, hown, hts⟩ (k2_isSort_t l hI (nI w) (xn_in (by omega) (by omega) (by omega))) (va_cwS 1 hts gX7_hours_X7_isSort rfl rfl rfl (by decide +kernel) ⟨Nat.le_of_ble_eq_true rfl, Nat.le_of_ble_eq_true rfl⟩) (xk_preS X2_ok hK hX hP) rfl rfl hl.1 rfl (lv_room (Nat.le_of_ble_eq_true rfl)) dX7_hours_15 ⟨Nat.le_of_ble_eq_true rfl, Nat.le_of_ble_eq_true rfl⟩) hS (fun H locs hP hS => ?_)
  refine xn_zeq (tgt := 43) hx hb dX7_hours_18 (by decide) (by omega) (fun c_18 => absurd c_18 (by omega)) (fun c_18 => ?_)
  refine lv_iload hx hb dX7_hours_21 (lv_at hl 5 rfl) ?_
  refine lv_iconst (v := nI 0) hx hb dX7_hours_23 (by decide) ?_
  refine lv_iconst (v := nI 2) hx hb dX7_hours_24 (by decide) ?_
  by_cases q_25 : nI 0 ≤ q ∧ q ≤ nI 2
  · refine xk_fi (va_runS (As := [.int q, .int (nI 0), .int (nI 2)]) (rest := []) ⟨hx, hb, hml, hown, hts⟩ (k2_within_t l hI q (nI 0) (nI 2) q_25) (va_cwS 3 hts gX7_hours_X7_within rfl rfl rfl (by decide +kernel) ⟨Nat.le_of_ble_eq_true rfl, Nat.le_of_ble_eq_true rfl⟩) (xk_preS X2_ok hK hX hP) rfl rfl hl.1 rfl (lv_room (Nat.le_of_ble_eq_true rfl)) dX7_hours_25 ⟨Nat.le_of_ble_eq_true rfl, Nat.le_of_ble_eq_true rfl⟩) hS (fun H locs hP hS => ?_)
    refine xn_zne (tgt := 46) hx hb dX7_hours_28 (by decide) (by omega) (fun c_28 => ?_) (fun c_28 => absurd c_28 (by omega))
    refine lv_aload_n hx hb dX7_hours_46 rfl (lv_at hl 0 rfl) ?_
    refine lv_iload_n hx hb dX7_hours_47 rfl (lv_at hl 1 rfl) ?_
    refine lv_iload_n hx hb dX7_hours_48 rfl (lv_at hl 2 rfl) ?_
    refine lv_iload_n hx hb dX7_hours_49 rfl (lv_at hl 3 rfl) ?_
    refine lv_iload hx hb dX7_hours_50 (lv_at hl 4 rfl) ?_
    obtain ⟨b1, hb1, rfl⟩ := nI_of hm0
    refine xk_fi (va_runV (As := [.int (nI k), .int (nI w), .int a, .int (nI b1)]) (rest := []) ⟨hx, hb, hml, hown, hts⟩ (k2_ag_idx l hI (w := w) hk4 hZ hw2 hLw hb1 hxy) (cwV 4 hts gX7_hours_X7_against rfl rfl rfl (by decide +kernel) ⟨Nat.le_of_ble_eq_true rfl, Nat.le_of_ble_eq_true rfl⟩) (xk_preV X2_ok hK hX hP (xk_recv hK hP 0 (by omega) (ci := 7) e2_obj rfl)) rfl rfl hl.1 rfl (lv_room (Nat.le_of_ble_eq_true rfl)) dX7_hours_52 ⟨Nat.le_of_ble_eq_true rfl, Nat.le_of_ble_eq_true rfl⟩) hS (fun H locs hP hS => ?_)
    refine lv_istore (lv' := [(6, .int (nI 3)), (0, .ref (ad 0)), (1, .int (nI k)), (2, .int (nI w)), (3, .int a), (4, .int (nI b1)), (5, .int q)]) hx hb dX7_hours_55 hl (by decide) rfl (fun ls hl => ?_)
    refine lv_iload hx hb dX7_hours_57 (lv_at hl 0 rfl) ?_
    refine xn_zeq (tgt := 69) hx hb dX7_hours_59 (by decide) (by omega) (fun c_59 => absurd c_59 (by omega)) (fun c_59 => ?_)
    refine lv_aload_n hx hb dX7_hours_62 rfl (lv_at hl 1 rfl) ?_
    refine lv_iload hx hb dX7_hours_63 (lv_at hl 0 rfl) ?_
    refine xk_fi (va_runV (As := [.int (nI 3)]) (rest := []) ⟨hx, hb, hml, hown, hts⟩ (k2_fails l hI 3) (cwV 1 hts gX7_hours_X7_fails rfl rfl rfl (by decide +kernel) ⟨Nat.le_of_ble_eq_true rfl, Nat.le_of_ble_eq_true rfl⟩) (xk_preV X2_ok hK hX hP (xk_recv hK hP 0 (by omega) (ci := 7) e2_obj rfl)) rfl rfl hl.1 rfl (lv_room (Nat.le_of_ble_eq_true rfl)) dX7_hours_65 ⟨Nat.le_of_ble_eq_true rfl, Nat.le_of_ble_eq_true rfl⟩) hS (fun H locs hP hS => ?_)
    exact xk_iret hx hb hr (vp_nar_int _) X2_ok hK hX hP hS hlk dX7_hours_68 (⟨rfl, I2_ft hJ0⟩)
  · refine xk_fi (va_runS (As := [.int q, .int (nI 0), .int (nI 2)]) (rest := []) ⟨hx, hb, hml, hown, hts⟩ (k2_within_f l hI q (nI 0) (nI 2) q_25) (va_cwS 3 hts gX7_hours_X7_within rfl rfl rfl (by decide +kernel) ⟨Nat.le_of_ble_eq_true rfl, Nat.le_of_ble_eq_true rfl⟩) (xk_preS X2_ok hK hX hP) rfl rfl hl.1 rfl (lv_room (Nat.le_of_ble_eq_true rfl)) dX7_hours_25 ⟨Nat.le_of_ble_eq_true rfl, Nat.le_of_ble_eq_true rfl⟩) hS (fun H locs hP hS => ?_)
    refine xn_zne (tgt := 46) hx hb dX7_hours_28 (by decide) (by omega) (fun c_28 => absurd c_28 (by omega)) (fun c_28 => ?_)
    refine lv_iload hx hb dX7_hours_31 (lv_at hl 5 rfl) ?_
    refine lv_bipush (v := nI 10) hx hb dX7_hours_33 (by decide) ?_
    refine lv_bipush (v := nI 14) hx hb dX7_hours_35 (by decide) ?_
    refine xk_fi (va_runS (As := [.int q, .int (nI 10), .int (nI 14)]) (rest := []) ⟨hx, hb, hml, hown, hts⟩ (k2_within_t l hI q (nI 10) (nI 14) (hq.resolve_left q_25)) (va_cwS 3 hts gX7_hours_X7_within rfl rfl rfl (by decide +kernel) ⟨Nat.le_of_ble_eq_true rfl, Nat.le_of_ble_eq_true rfl⟩) (xk_preS X2_ok hK hX hP) rfl rfl hl.1 rfl (lv_room (Nat.le_of_ble_eq_true rfl)) dX7_hours_37 ⟨Nat.le_of_ble_eq_true rfl, Nat.le_of_ble_eq_true rfl⟩) hS (fun H locs hP hS => ?_)
    refine xn_zne (tgt := 46) hx hb dX7_hours_40 (by decide) (by omega) (fun c_40 => ?_) (fun c_40 => absurd c_40 (by omega))
    refine lv_aload_n hx hb dX7_hours_46 rfl (lv_at hl 0 rfl) ?_
    refine lv_iload_n hx hb dX7_hours_47 rfl (lv_at hl 1 rfl) ?_
    refine lv_iload_n hx hb dX7_hours_48 rfl (lv_at hl 2 rfl) ?_
    refine lv_iload_n hx hb dX7_hours_49 rfl (lv_at hl 3 rfl) ?_
    refine lv_iload hx hb dX7_hours_50 (lv_at hl 4 rfl) ?_
    obtain ⟨b1, hb1, rfl⟩ := nI_of hm0
    refine xk_fi (va_runV (As := [.int (nI k), .int (nI w), .int a, .int (nI b1)]) (rest := []) ⟨hx, hb, hml, hown, hts⟩ (k2_ag_idx l hI (w := w) hk4 hZ hw2 hLw hb1 hxy) (cwV 4 hts gX7_hours_X7_against rfl rfl rfl (by decide +kernel) ⟨Nat.le_of_ble_eq_true rfl, Nat.le_of_ble_eq_true rfl⟩) (xk_preV X2_ok hK hX hP (xk_recv hK hP 0 (by omega) (ci := 7) e2_obj rfl)) rfl rfl hl.1 rfl (lv_room (Nat.le_of_ble_eq_true rfl)) dX7_hours_52 ⟨Nat.le_of_ble_eq_true rfl, Nat.le_of_ble_eq_true rfl⟩) hS (fun H locs hP hS => ?_)
    refine lv_istore (lv' := [(6, .int (nI 3)), (0, .ref (ad 0)), (1, .int (nI k)), (2, .int (nI w)), (3, .int a), (4, .int (nI b1)), (5, .int q)]) hx hb dX7_hours_55 hl (by decide) rfl (fun ls hl => ?_)
    refine lv_iload hx hb dX7_hours_57 (lv_at hl 0 rfl) ?_
    refine xn_zeq (tgt := 69) hx hb dX7_hours_59 (by decide) (by omega) (fun c_59 => absurd c_59 (by omega)) (fun c_59 => ?_)
    refine lv_aload_n hx hb dX7_hours_62 rfl (lv_at hl 1 rfl) ?_
    refine lv_iload hx hb dX7_hours_63 (lv_at hl 0 rfl) ?_
    refine xk_fi (va_runV (As := [.int (nI 3)]) (rest := []) ⟨hx, hb, hml, hown, hts⟩ (k2_fails l hI 3) (cwV 1 hts gX7_hours_X7_fails rfl rfl rfl (by decide +kernel) ⟨Nat.le_of_ble_eq_true rfl, Nat.le_of_ble_eq_true rfl⟩) (xk_preV X2_ok hK hX hP (xk_recv hK hP 0 (by omega) (ci := 7) e2_obj rfl)) rfl rfl hl.1 rfl (lv_room (Nat.le_of_ble_eq_true rfl)) dX7_hours_65 ⟨Nat.le_of_ble_eq_true rfl, Nat.le_of_ble_eq_true rfl⟩) hS (fun H locs hP hS => ?_)
    exact xk_iret hx hb hr (vp_nar_int _) X2_ok hK hX hP hS hlk dX7_hours_68 (⟨rfl, I2_ft hJ0⟩)

set_option maxRecDepth 20000 in
theorem flX7_hours_107 {s : State} {av : Array Value} (hts : ∀ w ∈ wsX7_hours, w.before av s = true) : (Cond.fieldLink RX7 107 "WellBackModel" "places" "I").before av s = true := hts _ (by decide +kernel)
set_option maxHeartbeats 4000000 in
set_option maxRecDepth 100000 in
theorem a2_hours_no (l : Launch) {D : va_G} {ca : Nat → ClassId} {ad : Nat → Nat} (hI : Ij ad 18) {σ : Sg} {n p g rn : Nat} {d : Nat → Nat} {th rd : Nat → Nat → Nat} {sl sn : Nat → Nat} {sc : Nat → Nat → Int32} {ft tr : Int32} {k : Nat} {w : Nat} {a m : Nat} {q : Int32} (hJ : I2 n p g rn d th rd sl sn sc ft tr σ) (hk4 : k < 4) (hw2 : w ≤ 2) (hq : (nI 0 ≤ q ∧ q ≤ nI 2) ∨ (nI 10 ≤ q ∧ q ≤ nI 14)) (hLw : sl k = w) (ham : a + m ≤ sn k) (hn0 : n = 0) : C2i l D ca ad yX7_hours wsX7_hours { frames := 4, cells := 0, slots := 0, locals := 96 } [.ref (ad 0), .int (nI k), .int (nI w), .int (nI a), .int (nI m), .int q] σ (fun r σ' => r = -3 ∧ I2 n p g rn d th rd sl sn sc (nI 0) tr σ') := by
  refine xk_entry cX7_hours 9 (some .int) (by decide) rfl (Nat.le_of_ble_eq_true rfl) ?_
  intro pP eE sS mM below meth cC hx hb hml hr hts hown hlk hP hK hX hS ls hl
  have hl : lv_has ls 9 [(0, .ref (ad 0)), (1, .int (nI k)), (2, .int (nI w)), (3, .int (nI a)), (4, .int (nI m)), (5, .int q)] := hl
  obtain ⟨hT, hR, hRd, hSh, hnp, hft, htr⟩ := id hJ
  have hn5 := hT.2.2.1
  have hg9 := hT.2.2.2.1
  have hp6 := hR.2.1
  have hrn8 := hRd.2.1
  have hp0z : p = 0 := by omega
  refine lv_aload_n hx hb dX7_hours_0 rfl (lv_at hl 0 rfl) ?_
  refine lv_iconst (v := nI 0) hx hb dX7_hours_1 (by decide) ?_
  refine xk_put hx hb hts (inX7_hours_X7) tyX7 tyX7_ok nmX7 hown hK hI hP hS 0 (by omega) (ci := 7) e2_obj rfl 0 (by decide) (flX7_hours_61 hts) rfl rfl (by decide +kernel) (Nat.le_of_ble_eq_true rfl) e2_loc (by rw [e2_obj]; simp [up]) dX7_hours_2 (fun H locs hP hS => ?_)
  obtain ⟨σ0, hσ0⟩ : ∃ τ, τ = up σ 0 0 (nI 0) := ⟨_, rfl⟩
  rw [← hσ0] at hP
  have hJ0 : I2 n p g rn d th rd sl sn sc (nI 0) tr σ0 := by rw [hσ0]; exact I2_ft hJ
  obtain ⟨hT, hR, hRd, hSh, -, hft, htr⟩ := id hJ0
  have hZ := hSh k hk4
  have hz60 : sl k < 3 → sn k ≤ 60 := fun q => (hZ.2.2 q).2.1
  have hL : sl k < 3 := by omega
  have hk60 := hz60 hL
  have hp0z : p = 0 := by omega
  refine lv_iload_n hx hb dX7_hours_5 rfl (lv_at hl 1 rfl) ?_
  refine xk_fi (va_runS (As := [.int (nI k)]) (rest := []) ⟨hx, hb, hml, hown, hts⟩ (k2_isSheet_t l hI (nI k) (xn_in (by omega) (by omega) (by omega))) (va_cwS 1 hts gX7_hours_X7_isSheet rfl rfl rfl (by decide +kernel) ⟨Nat.le_of_ble_eq_true rfl, Nat.le_of_ble_eq_true rfl⟩) (xk_preS X2_ok hK hX hP) rfl rfl hl.1 rfl (lv_room (Nat.le_of_ble_eq_true rfl)) dX7_hours_6 ⟨Nat.le_of_ble_eq_true rfl, Nat.le_of_ble_eq_true rfl⟩) hS (fun H locs hP hS => ?_)
  refine xn_zne (tgt := 14) hx hb dX7_hours_9 (by decide) (by omega) (fun c_9 => ?_) (fun c_9 => absurd c_9 (by omega))
  refine lv_iload_n hx hb dX7_hours_14 rfl (lv_at hl 2 rfl) ?_
  refine xk_fi (va_runS (As := [.int (nI w)]) (rest := []) ⟨hx, hb, hml, hown, hts⟩ (k2_isSort_t l hI (nI w) (xn_in (by omega) (by omega) (by omega))) (va_cwS 1 hts gX7_hours_X7_isSort rfl rfl rfl (by decide +kernel) ⟨Nat.le_of_ble_eq_true rfl, Nat.le_of_ble_eq_true rfl⟩) (xk_preS X2_ok hK hX hP) rfl rfl hl.1 rfl (lv_room (Nat.le_of_ble_eq_true rfl)) dX7_hours_15 ⟨Nat.le_of_ble_eq_true rfl, Nat.le_of_ble_eq_true rfl⟩) hS (fun H locs hP hS => ?_)
  refine xn_zeq (tgt := 43) hx hb dX7_hours_18 (by decide) (by omega) (fun c_18 => absurd c_18 (by omega)) (fun c_18 => ?_)
  refine lv_iload hx hb dX7_hours_21 (lv_at hl 5 rfl) ?_
  refine lv_iconst (v := nI 0) hx hb dX7_hours_23 (by decide) ?_
  refine lv_iconst (v := nI 2) hx hb dX7_hours_24 (by decide) ?_
  by_cases q_25 : nI 0 ≤ q ∧ q ≤ nI 2
  · refine xk_fi (va_runS (As := [.int q, .int (nI 0), .int (nI 2)]) (rest := []) ⟨hx, hb, hml, hown, hts⟩ (k2_within_t l hI q (nI 0) (nI 2) q_25) (va_cwS 3 hts gX7_hours_X7_within rfl rfl rfl (by decide +kernel) ⟨Nat.le_of_ble_eq_true rfl, Nat.le_of_ble_eq_true rfl⟩) (xk_preS X2_ok hK hX hP) rfl rfl hl.1 rfl (lv_room (Nat.le_of_ble_eq_true rfl)) dX7_hours_25 ⟨Nat.le_of_ble_eq_true rfl, Nat.le_of_ble_eq_true rfl⟩) hS (fun H locs hP hS => ?_)
    refine xn_zne (tgt := 46) hx hb dX7_hours_28 (by decide) (by omega) (fun c_28 => ?_) (fun c_28 => absurd c_28 (by omega))
    refine lv_aload_n hx hb dX7_hours_46 rfl (lv_at hl 0 rfl) ?_
    refine lv_iload_n hx hb dX7_hours_47 rfl (lv_at hl 1 rfl) ?_
    refine lv_iload_n hx hb dX7_hours_48 rfl (lv_at hl 2 rfl) ?_
    refine lv_iload_n hx hb dX7_hours_49 rfl (lv_at hl 3 rfl) ?_
    refine lv_iload hx hb dX7_hours_50 (lv_at hl 4 rfl) ?_
    refine xk_fi (va_runV (As := [.int (nI k), .int (nI w), .int (nI a), .int (nI m)]) (rest := []) ⟨hx, hb, hml, hown, hts⟩ (k2_ag_ok l hI (w := w) hk4 hZ hw2 hLw ham) (cwV 4 hts gX7_hours_X7_against rfl rfl rfl (by decide +kernel) ⟨Nat.le_of_ble_eq_true rfl, Nat.le_of_ble_eq_true rfl⟩) (xk_preV X2_ok hK hX hP (xk_recv hK hP 0 (by omega) (ci := 7) e2_obj rfl)) rfl rfl hl.1 rfl (lv_room (Nat.le_of_ble_eq_true rfl)) dX7_hours_52 ⟨Nat.le_of_ble_eq_true rfl, Nat.le_of_ble_eq_true rfl⟩) hS (fun H locs hP hS => ?_)
    refine lv_istore (lv' := [(6, .int (nI 0)), (0, .ref (ad 0)), (1, .int (nI k)), (2, .int (nI w)), (3, .int (nI a)), (4, .int (nI m)), (5, .int q)]) hx hb dX7_hours_55 hl (by decide) rfl (fun ls hl => ?_)
    refine lv_iload hx hb dX7_hours_57 (lv_at hl 0 rfl) ?_
    refine xn_zeq (tgt := 69) hx hb dX7_hours_59 (by decide) (by omega) (fun c_59 => ?_) (fun c_59 => absurd c_59 (by omega))
    refine lv_aload_n hx hb dX7_hours_69 rfl (lv_at hl 1 rfl) ?_
    refine xk_get hx hb hts (inX7_hours_X7) hown hK hP 0 (by omega) (ci := 7) e2_obj rfl 6 (by decide) (flX7_hours_107 hts) rfl (.int (σ0 0 6)) rfl dX7_hours_70 ?_
    refine xn_eqi (y := nI p) hR.1 ?_
    refine xn_zne (tgt := 79) hx hb dX7_hours_73 (by decide) (by omega) (fun c_73 => absurd c_73 (by omega)) (fun c_73 => ?_)
    refine lv_bipush (v := (-3)) hx hb dX7_hours_76 (by decide) ?_
    exact xk_iret hx hb hr (vp_nar_int _) X2_ok hK hX hP hS hlk dX7_hours_78 (⟨rfl, hJ0⟩)
  · refine xk_fi (va_runS (As := [.int q, .int (nI 0), .int (nI 2)]) (rest := []) ⟨hx, hb, hml, hown, hts⟩ (k2_within_f l hI q (nI 0) (nI 2) q_25) (va_cwS 3 hts gX7_hours_X7_within rfl rfl rfl (by decide +kernel) ⟨Nat.le_of_ble_eq_true rfl, Nat.le_of_ble_eq_true rfl⟩) (xk_preS X2_ok hK hX hP) rfl rfl hl.1 rfl (lv_room (Nat.le_of_ble_eq_true rfl)) dX7_hours_25 ⟨Nat.le_of_ble_eq_true rfl, Nat.le_of_ble_eq_true rfl⟩) hS (fun H locs hP hS => ?_)
    refine xn_zne (tgt := 46) hx hb dX7_hours_28 (by decide) (by omega) (fun c_28 => absurd c_28 (by omega)) (fun c_28 => ?_)
    refine lv_iload hx hb dX7_hours_31 (lv_at hl 5 rfl) ?_
    refine lv_bipush (v := nI 10) hx hb dX7_hours_33 (by decide) ?_
    refine lv_bipush (v := nI 14) hx hb dX7_hours_35 (by decide) ?_
    refine xk_fi (va_runS (As := [.int q, .int (nI 10), .int (nI 14)]) (rest := []) ⟨hx, hb, hml, hown, hts⟩ (k2_within_t l hI q (nI 10) (nI 14) (hq.resolve_left q_25)) (va_cwS 3 hts gX7_hours_X7_within rfl rfl rfl (by decide +kernel) ⟨Nat.le_of_ble_eq_true rfl, Nat.le_of_ble_eq_true rfl⟩) (xk_preS X2_ok hK hX hP) rfl rfl hl.1 rfl (lv_room (Nat.le_of_ble_eq_true rfl)) dX7_hours_37 ⟨Nat.le_of_ble_eq_true rfl, Nat.le_of_ble_eq_true rfl⟩) hS (fun H locs hP hS => ?_)
    refine xn_zne (tgt := 46) hx hb dX7_hours_40 (by decide) (by omega) (fun c_40 => ?_) (fun c_40 => absurd c_40 (by omega))
    refine lv_aload_n hx hb dX7_hours_46 rfl (lv_at hl 0 rfl) ?_
    refine lv_iload_n hx hb dX7_hours_47 rfl (lv_at hl 1 rfl) ?_
    refine lv_iload_n hx hb dX7_hours_48 rfl (lv_at hl 2 rfl) ?_
    refine lv_iload_n hx hb dX7_hours_49 rfl (lv_at hl 3 rfl) ?_
    refine lv_iload hx hb dX7_hours_50 (lv_at hl 4 rfl) ?_
    refine xk_fi (va_runV (As := [.int (nI k), .int (nI w), .int (nI a), .int (nI m)]) (rest := []) ⟨hx, hb, hml, hown, hts⟩ (k2_ag_ok l hI (w := w) hk4 hZ hw2 hLw ham) (cwV 4 hts gX7_hours_X7_against rfl rfl rfl (by decide +kernel) ⟨Nat.le_of_ble_eq_true rfl, Nat.le_of_ble_eq_true rfl⟩) (xk_preV X2_ok hK hX hP (xk_recv hK hP 0 (by omega) (ci := 7) e2_obj rfl)) rfl rfl hl.1 rfl (lv_room (Nat.le_of_ble_eq_true rfl)) dX7_hours_52 ⟨Nat.le_of_ble_eq_true rfl, Nat.le_of_ble_eq_true rfl⟩) hS (fun H locs hP hS => ?_)
    refine lv_istore (lv' := [(6, .int (nI 0)), (0, .ref (ad 0)), (1, .int (nI k)), (2, .int (nI w)), (3, .int (nI a)), (4, .int (nI m)), (5, .int q)]) hx hb dX7_hours_55 hl (by decide) rfl (fun ls hl => ?_)
    refine lv_iload hx hb dX7_hours_57 (lv_at hl 0 rfl) ?_
    refine xn_zeq (tgt := 69) hx hb dX7_hours_59 (by decide) (by omega) (fun c_59 => ?_) (fun c_59 => absurd c_59 (by omega))
    refine lv_aload_n hx hb dX7_hours_69 rfl (lv_at hl 1 rfl) ?_
    refine xk_get hx hb hts (inX7_hours_X7) hown hK hP 0 (by omega) (ci := 7) e2_obj rfl 6 (by decide) (flX7_hours_107 hts) rfl (.int (σ0 0 6)) rfl dX7_hours_70 ?_
    refine xn_eqi (y := nI p) hR.1 ?_
    refine xn_zne (tgt := 79) hx hb dX7_hours_73 (by decide) (by omega) (fun c_73 => absurd c_73 (by omega)) (fun c_73 => ?_)
    refine lv_bipush (v := (-3)) hx hb dX7_hours_76 (by decide) ?_
    exact xk_iret hx hb hr (vp_nar_int _) X2_ok hK hX hP hS hlk dX7_hours_78 (⟨rfl, hJ0⟩)

set_option maxRecDepth 20000 in
theorem flX7_hours_71 {s : State} {av : Array Value} (hts : ∀ w ∈ wsX7_hours, w.before av s = true) : (Cond.fieldLink RX7 71 "WellBackModel" "things" "I").before av s = true := hts _ (by decide +kernel)
set_option maxHeartbeats 4000000 in
set_option maxRecDepth 100000 in
theorem a2_hours_nb (l : Launch) {D : va_G} {ca : Nat → ClassId} {ad : Nat → Nat} (hI : Ij ad 18) {σ : Sg} {n p g rn : Nat} {d : Nat → Nat} {th rd : Nat → Nat → Nat} {sl sn : Nat → Nat} {sc : Nat → Nat → Int32} {ft tr : Int32} {k : Nat} {w : Nat} {a m : Nat} {q : Int32} (hJ : I2 n p g rn d th rd sl sn sc ft tr σ) (hk4 : k < 4) (hw2 : w ≤ 2) (hq : (nI 0 ≤ q ∧ q ≤ nI 2) ∨ (nI 10 ≤ q ∧ q ≤ nI 14)) (hLw : sl k = w) (ham : a + m ≤ sn k) (hn0 : 0 < n) (hmn : ¬ m = n) : C2i l D ca ad yX7_hours wsX7_hours { frames := 4, cells := 0, slots := 0, locals := 96 } [.ref (ad 0), .int (nI k), .int (nI w), .int (nI a), .int (nI m), .int q] σ (fun r σ' => r = -2 ∧ I2 n p g rn d th rd sl sn sc (nI 0) tr σ') := by
  refine xk_entry cX7_hours 9 (some .int) (by decide) rfl (Nat.le_of_ble_eq_true rfl) ?_
  intro pP eE sS mM below meth cC hx hb hml hr hts hown hlk hP hK hX hS ls hl
  have hl : lv_has ls 9 [(0, .ref (ad 0)), (1, .int (nI k)), (2, .int (nI w)), (3, .int (nI a)), (4, .int (nI m)), (5, .int q)] := hl
  obtain ⟨hT, hR, hRd, hSh, hnp, hft, htr⟩ := id hJ
  have hn5 := hT.2.2.1
  have hg9 := hT.2.2.2.1
  have hp6 := hR.2.1
  have hrn8 := hRd.2.1
  have hp0 : 0 < p := hnp.mp (by omega)
  refine lv_aload_n hx hb dX7_hours_0 rfl (lv_at hl 0 rfl) ?_
  refine lv_iconst (v := nI 0) hx hb dX7_hours_1 (by decide) ?_
  refine xk_put hx hb hts (inX7_hours_X7) tyX7 tyX7_ok nmX7 hown hK hI hP hS 0 (by omega) (ci := 7) e2_obj rfl 0 (by decide) (flX7_hours_61 hts) rfl rfl (by decide +kernel) (Nat.le_of_ble_eq_true rfl) e2_loc (by rw [e2_obj]; simp [up]) dX7_hours_2 (fun H locs hP hS => ?_)
  obtain ⟨σ0, hσ0⟩ : ∃ τ, τ = up σ 0 0 (nI 0) := ⟨_, rfl⟩
  rw [← hσ0] at hP
  have hJ0 : I2 n p g rn d th rd sl sn sc (nI 0) tr σ0 := by rw [hσ0]; exact I2_ft hJ
  obtain ⟨hT, hR, hRd, hSh, -, hft, htr⟩ := id hJ0
  have hZ := hSh k hk4
  have hz60 : sl k < 3 → sn k ≤ 60 := fun q => (hZ.2.2 q).2.1
  have hL : sl k < 3 := by omega
  have hk60 := hz60 hL
  refine lv_iload_n hx hb dX7_hours_5 rfl (lv_at hl 1 rfl) ?_
  refine xk_fi (va_runS (As := [.int (nI k)]) (rest := []) ⟨hx, hb, hml, hown, hts⟩ (k2_isSheet_t l hI (nI k) (xn_in (by omega) (by omega) (by omega))) (va_cwS 1 hts gX7_hours_X7_isSheet rfl rfl rfl (by decide +kernel) ⟨Nat.le_of_ble_eq_true rfl, Nat.le_of_ble_eq_true rfl⟩) (xk_preS X2_ok hK hX hP) rfl rfl hl.1 rfl (lv_room (Nat.le_of_ble_eq_true rfl)) dX7_hours_6 ⟨Nat.le_of_ble_eq_true rfl, Nat.le_of_ble_eq_true rfl⟩) hS (fun H locs hP hS => ?_)
  refine xn_zne (tgt := 14) hx hb dX7_hours_9 (by decide) (by omega) (fun c_9 => ?_) (fun c_9 => absurd c_9 (by omega))
  refine lv_iload_n hx hb dX7_hours_14 rfl (lv_at hl 2 rfl) ?_
  refine xk_fi (va_runS (As := [.int (nI w)]) (rest := []) ⟨hx, hb, hml, hown, hts⟩ (k2_isSort_t l hI (nI w) (xn_in (by omega) (by omega) (by omega))) (va_cwS 1 hts gX7_hours_X7_isSort rfl rfl rfl (by decide +kernel) ⟨Nat.le_of_ble_eq_true rfl, Nat.le_of_ble_eq_true rfl⟩) (xk_preS X2_ok hK hX hP) rfl rfl hl.1 rfl (lv_room (Nat.le_of_ble_eq_true rfl)) dX7_hours_15 ⟨Nat.le_of_ble_eq_true rfl, Nat.le_of_ble_eq_true rfl⟩) hS (fun H locs hP hS => ?_)
  refine xn_zeq (tgt := 43) hx hb dX7_hours_18 (by decide) (by omega) (fun c_18 => absurd c_18 (by omega)) (fun c_18 => ?_)
  refine lv_iload hx hb dX7_hours_21 (lv_at hl 5 rfl) ?_
  refine lv_iconst (v := nI 0) hx hb dX7_hours_23 (by decide) ?_
  refine lv_iconst (v := nI 2) hx hb dX7_hours_24 (by decide) ?_
  by_cases q_25 : nI 0 ≤ q ∧ q ≤ nI 2
  · refine xk_fi (va_runS (As := [.int q, .int (nI 0), .int (nI 2)]) (rest := []) ⟨hx, hb, hml, hown, hts⟩ (k2_within_t l hI q (nI 0) (nI 2) q_25) (va_cwS 3 hts gX7_hours_X7_within rfl rfl rfl (by decide +kernel) ⟨Nat.le_of_ble_eq_true rfl, Nat.le_of_ble_eq_true rfl⟩) (xk_preS X2_ok hK hX hP) rfl rfl hl.1 rfl (lv_room (Nat.le_of_ble_eq_true rfl)) dX7_hours_25 ⟨Nat.le_of_ble_eq_true rfl, Nat.le_of_ble_eq_true rfl⟩) hS (fun H locs hP hS => ?_)
    refine xn_zne (tgt := 46) hx hb dX7_hours_28 (by decide) (by omega) (fun c_28 => ?_) (fun c_28 => absurd c_28 (by omega))
    refine lv_aload_n hx hb dX7_hours_46 rfl (lv_at hl 0 rfl) ?_
    refine lv_iload_n hx hb dX7_hours_47 rfl (lv_at hl 1 rfl) ?_
    refine lv_iload_n hx hb dX7_hours_48 rfl (lv_at hl 2 rfl) ?_
    refine lv_iload_n hx hb dX7_hours_49 rfl (lv_at hl 3 rfl) ?_
    refine lv_iload hx hb dX7_hours_50 (lv_at hl 4 rfl) ?_
    refine xk_fi (va_runV (As := [.int (nI k), .int (nI w), .int (nI a), .int (nI m)]) (rest := []) ⟨hx, hb, hml, hown, hts⟩ (k2_ag_ok l hI (w := w) hk4 hZ hw2 hLw ham) (cwV 4 hts gX7_hours_X7_against rfl rfl rfl (by decide +kernel) ⟨Nat.le_of_ble_eq_true rfl, Nat.le_of_ble_eq_true rfl⟩) (xk_preV X2_ok hK hX hP (xk_recv hK hP 0 (by omega) (ci := 7) e2_obj rfl)) rfl rfl hl.1 rfl (lv_room (Nat.le_of_ble_eq_true rfl)) dX7_hours_52 ⟨Nat.le_of_ble_eq_true rfl, Nat.le_of_ble_eq_true rfl⟩) hS (fun H locs hP hS => ?_)
    refine lv_istore (lv' := [(6, .int (nI 0)), (0, .ref (ad 0)), (1, .int (nI k)), (2, .int (nI w)), (3, .int (nI a)), (4, .int (nI m)), (5, .int q)]) hx hb dX7_hours_55 hl (by decide) rfl (fun ls hl => ?_)
    refine lv_iload hx hb dX7_hours_57 (lv_at hl 0 rfl) ?_
    refine xn_zeq (tgt := 69) hx hb dX7_hours_59 (by decide) (by omega) (fun c_59 => ?_) (fun c_59 => absurd c_59 (by omega))
    refine lv_aload_n hx hb dX7_hours_69 rfl (lv_at hl 1 rfl) ?_
    refine xk_get hx hb hts (inX7_hours_X7) hown hK hP 0 (by omega) (ci := 7) e2_obj rfl 6 (by decide) (flX7_hours_107 hts) rfl (.int (σ0 0 6)) rfl dX7_hours_70 ?_
    refine xn_eqi (y := nI p) hR.1 ?_
    refine xn_zne (tgt := 79) hx hb dX7_hours_73 (by decide) (by omega) (fun c_73 => ?_) (fun c_73 => absurd c_73 (by omega))
    refine lv_iload hx hb dX7_hours_79 (lv_at hl 5 rfl) ?_
    refine lv_aload_n hx hb dX7_hours_81 rfl (lv_at hl 1 rfl) ?_
    refine xk_get hx hb hts (inX7_hours_X7) hown hK hP 0 (by omega) (ci := 7) e2_obj rfl 7 (by decide) (flX7_hours_71 hts) rfl (.int (σ0 0 7)) rfl dX7_hours_82 ?_
    refine xn_eqi (y := nI n) hT.2.1 ?_
    refine xn_ieq (tgt := 91) hx hb dX7_hours_85 (by decide) (by omega) (by omega) (fun c_85 => absurd c_85 (by omega)) (fun c_85 => ?_)
    refine lv_bipush (v := (-2)) hx hb dX7_hours_88 (by decide) ?_
    exact xk_iret hx hb hr (vp_nar_int _) X2_ok hK hX hP hS hlk dX7_hours_90 (⟨rfl, hJ0⟩)
  · refine xk_fi (va_runS (As := [.int q, .int (nI 0), .int (nI 2)]) (rest := []) ⟨hx, hb, hml, hown, hts⟩ (k2_within_f l hI q (nI 0) (nI 2) q_25) (va_cwS 3 hts gX7_hours_X7_within rfl rfl rfl (by decide +kernel) ⟨Nat.le_of_ble_eq_true rfl, Nat.le_of_ble_eq_true rfl⟩) (xk_preS X2_ok hK hX hP) rfl rfl hl.1 rfl (lv_room (Nat.le_of_ble_eq_true rfl)) dX7_hours_25 ⟨Nat.le_of_ble_eq_true rfl, Nat.le_of_ble_eq_true rfl⟩) hS (fun H locs hP hS => ?_)
    refine xn_zne (tgt := 46) hx hb dX7_hours_28 (by decide) (by omega) (fun c_28 => absurd c_28 (by omega)) (fun c_28 => ?_)
    refine lv_iload hx hb dX7_hours_31 (lv_at hl 5 rfl) ?_
    refine lv_bipush (v := nI 10) hx hb dX7_hours_33 (by decide) ?_
    refine lv_bipush (v := nI 14) hx hb dX7_hours_35 (by decide) ?_
    refine xk_fi (va_runS (As := [.int q, .int (nI 10), .int (nI 14)]) (rest := []) ⟨hx, hb, hml, hown, hts⟩ (k2_within_t l hI q (nI 10) (nI 14) (hq.resolve_left q_25)) (va_cwS 3 hts gX7_hours_X7_within rfl rfl rfl (by decide +kernel) ⟨Nat.le_of_ble_eq_true rfl, Nat.le_of_ble_eq_true rfl⟩) (xk_preS X2_ok hK hX hP) rfl rfl hl.1 rfl (lv_room (Nat.le_of_ble_eq_true rfl)) dX7_hours_37 ⟨Nat.le_of_ble_eq_true rfl, Nat.le_of_ble_eq_true rfl⟩) hS (fun H locs hP hS => ?_)
    refine xn_zne (tgt := 46) hx hb dX7_hours_40 (by decide) (by omega) (fun c_40 => ?_) (fun c_40 => absurd c_40 (by omega))
    refine lv_aload_n hx hb dX7_hours_46 rfl (lv_at hl 0 rfl) ?_
    refine lv_iload_n hx hb dX7_hours_47 rfl (lv_at hl 1 rfl) ?_
    refine lv_iload_n hx hb dX7_hours_48 rfl (lv_at hl 2 rfl) ?_
    refine lv_iload_n hx hb dX7_hours_49 rfl (lv_at hl 3 rfl) ?_
    refine lv_iload hx hb dX7_hours_50 (lv_at hl 4 rfl) ?_
    refine xk_fi (va_runV (As := [.int (nI k), .int (nI w), .int (nI a), .int (nI m)]) (rest := []) ⟨hx, hb, hml, hown, hts⟩ (k2_ag_ok l hI (w := w) hk4 hZ hw2 hLw ham) (cwV 4 hts gX7_hours_X7_against rfl rfl rfl (by decide +kernel) ⟨Nat.le_of_ble_eq_true rfl, Nat.le_of_ble_eq_true rfl⟩) (xk_preV X2_ok hK hX hP (xk_recv hK hP 0 (by omega) (ci := 7) e2_obj rfl)) rfl rfl hl.1 rfl (lv_room (Nat.le_of_ble_eq_true rfl)) dX7_hours_52 ⟨Nat.le_of_ble_eq_true rfl, Nat.le_of_ble_eq_true rfl⟩) hS (fun H locs hP hS => ?_)
    refine lv_istore (lv' := [(6, .int (nI 0)), (0, .ref (ad 0)), (1, .int (nI k)), (2, .int (nI w)), (3, .int (nI a)), (4, .int (nI m)), (5, .int q)]) hx hb dX7_hours_55 hl (by decide) rfl (fun ls hl => ?_)
    refine lv_iload hx hb dX7_hours_57 (lv_at hl 0 rfl) ?_
    refine xn_zeq (tgt := 69) hx hb dX7_hours_59 (by decide) (by omega) (fun c_59 => ?_) (fun c_59 => absurd c_59 (by omega))
    refine lv_aload_n hx hb dX7_hours_69 rfl (lv_at hl 1 rfl) ?_
    refine xk_get hx hb hts (inX7_hours_X7) hown hK hP 0 (by omega) (ci := 7) e2_obj rfl 6 (by decide) (flX7_hours_107 hts) rfl (.int (σ0 0 6)) rfl dX7_hours_70 ?_
    refine xn_eqi (y := nI p) hR.1 ?_
    refine xn_zne (tgt := 79) hx hb dX7_hours_73 (by decide) (by omega) (fun c_73 => ?_) (fun c_73 => absurd c_73 (by omega))
    refine lv_iload hx hb dX7_hours_79 (lv_at hl 5 rfl) ?_
    refine lv_aload_n hx hb dX7_hours_81 rfl (lv_at hl 1 rfl) ?_
    refine xk_get hx hb hts (inX7_hours_X7) hown hK hP 0 (by omega) (ci := 7) e2_obj rfl 7 (by decide) (flX7_hours_71 hts) rfl (.int (σ0 0 7)) rfl dX7_hours_82 ?_
    refine xn_eqi (y := nI n) hT.2.1 ?_
    refine xn_ieq (tgt := 91) hx hb dX7_hours_85 (by decide) (by omega) (by omega) (fun c_85 => absurd c_85 (by omega)) (fun c_85 => ?_)
    refine lv_bipush (v := (-2)) hx hb dX7_hours_88 (by decide) ?_
    exact xk_iret hx hb hr (vp_nar_int _) X2_ok hK hX hP hS hlk dX7_hours_90 (⟨rfl, hJ0⟩)

set_option maxRecDepth 20000 in
theorem flX7_hours_16 {s : State} {av : Array Value} (hts : ∀ w ∈ wsX7_hours, w.before av s = true) : (Cond.fieldLink RX7 16 "WellBackModel" "cells" "[I").before av s = true := hts _ (by decide +kernel)
set_option maxHeartbeats 4000000 in
set_option maxRecDepth 100000 in
theorem a2_hours_nh (l : Launch) {D : va_G} {ca : Nat → ClassId} {ad : Nat → Nat} (hI : Ij ad 18) {σ : Sg} {n p g rn : Nat} {d : Nat → Nat} {th rd : Nat → Nat → Nat} {sl sn : Nat → Nat} {sc : Nat → Nat → Int32} {ft tr : Int32} {k : Nat} {w : Nat} {a m : Nat} {q : Int32} (hJ : I2 n p g rn d th rd sl sn sc ft tr σ) (hk4 : k < 4) (hw2 : w ≤ 2) (hq : (nI 0 ≤ q ∧ q ≤ nI 2) ∨ (nI 10 ≤ q ∧ q ≤ nI 14)) (hLw : sl k = w) (ham : a + m ≤ sn k) (hn0 : 0 < n) (hmn : m = n) (hnh : ¬ (∀ x, x < m → nI 0 ≤ sc k (a + x) ∧ sc k (a + x) ≤ nI 23)) : C2i l D ca ad yX7_hours wsX7_hours { frames := 4, cells := 0, slots := 0, locals := 96 } [.ref (ad 0), .int (nI k), .int (nI w), .int (nI a), .int (nI m), .int q] σ (fun r σ' => r = -2 ∧ I2 n p g rn d th rd sl sn sc (nI 0) tr σ') := by
  refine xk_entry cX7_hours 9 (some .int) (by decide) rfl (Nat.le_of_ble_eq_true rfl) ?_
  intro pP eE sS mM below meth cC hx hb hml hr hts hown hlk hP hK hX hS ls hl
  have hl : lv_has ls 9 [(0, .ref (ad 0)), (1, .int (nI k)), (2, .int (nI w)), (3, .int (nI a)), (4, .int (nI m)), (5, .int q)] := hl
  obtain ⟨hT, hR, hRd, hSh, hnp, hft, htr⟩ := id hJ
  have hn5 := hT.2.2.1
  have hg9 := hT.2.2.2.1
  have hp6 := hR.2.1
  have hrn8 := hRd.2.1
  have hp0 : 0 < p := hnp.mp (by omega)
  refine lv_aload_n hx hb dX7_hours_0 rfl (lv_at hl 0 rfl) ?_
  refine lv_iconst (v := nI 0) hx hb dX7_hours_1 (by decide) ?_
  refine xk_put hx hb hts (inX7_hours_X7) tyX7 tyX7_ok nmX7 hown hK hI hP hS 0 (by omega) (ci := 7) e2_obj rfl 0 (by decide) (flX7_hours_61 hts) rfl rfl (by decide +kernel) (Nat.le_of_ble_eq_true rfl) e2_loc (by rw [e2_obj]; simp [up]) dX7_hours_2 (fun H locs hP hS => ?_)
  obtain ⟨σ0, hσ0⟩ : ∃ τ, τ = up σ 0 0 (nI 0) := ⟨_, rfl⟩
  rw [← hσ0] at hP
  have hJ0 : I2 n p g rn d th rd sl sn sc (nI 0) tr σ0 := by rw [hσ0]; exact I2_ft hJ
  obtain ⟨hT, hR, hRd, hSh, -, hft, htr⟩ := id hJ0
  have hZ := hSh k hk4
  have hz60 : sl k < 3 → sn k ≤ 60 := fun q => (hZ.2.2 q).2.1
  have hL : sl k < 3 := by omega
  have hk60 := hz60 hL
  have hp0 : 0 < p := hnp.mp hn0
  refine lv_iload_n hx hb dX7_hours_5 rfl (lv_at hl 1 rfl) ?_
  refine xk_fi (va_runS (As := [.int (nI k)]) (rest := []) ⟨hx, hb, hml, hown, hts⟩ (k2_isSheet_t l hI (nI k) (xn_in (by omega) (by omega) (by omega))) (va_cwS 1 hts gX7_hours_X7_isSheet rfl rfl rfl (by decide +kernel) ⟨Nat.le_of_ble_eq_true rfl, Nat.le_of_ble_eq_true rfl⟩) (xk_preS X2_ok hK hX hP) rfl rfl hl.1 rfl (lv_room (Nat.le_of_ble_eq_true rfl)) dX7_hours_6 ⟨Nat.le_of_ble_eq_true rfl, Nat.le_of_ble_eq_true rfl⟩) hS (fun H locs hP hS => ?_)
  refine xn_zne (tgt := 14) hx hb dX7_hours_9 (by decide) (by omega) (fun c_9 => ?_) (fun c_9 => absurd c_9 (by omega))
  refine lv_iload_n hx hb dX7_hours_14 rfl (lv_at hl 2 rfl) ?_
  refine xk_fi (va_runS (As := [.int (nI w)]) (rest := []) ⟨hx, hb, hml, hown, hts⟩ (k2_isSort_t l hI (nI w) (xn_in (by omega) (by omega) (by omega))) (va_cwS 1 hts gX7_hours_X7_isSort rfl rfl rfl (by decide +kernel) ⟨Nat.le_of_ble_eq_true rfl, Nat.le_of_ble_eq_true rfl⟩) (xk_preS X2_ok hK hX hP) rfl rfl hl.1 rfl (lv_room (Nat.le_of_ble_eq_true rfl)) dX7_hours_15 ⟨Nat.le_of_ble_eq_true rfl, Nat.le_of_ble_eq_true rfl⟩) hS (fun H locs hP hS => ?_)
  refine xn_zeq (tgt := 43) hx hb dX7_hours_18 (by decide) (by omega) (fun c_18 => absurd c_18 (by omega)) (fun c_18 => ?_)
  refine lv_iload hx hb dX7_hours_21 (lv_at hl 5 rfl) ?_
  refine lv_iconst (v := nI 0) hx hb dX7_hours_23 (by decide) ?_
  refine lv_iconst (v := nI 2) hx hb dX7_hours_24 (by decide) ?_
  by_cases q_25 : nI 0 ≤ q ∧ q ≤ nI 2
  · refine xk_fi (va_runS (As := [.int q, .int (nI 0), .int (nI 2)]) (rest := []) ⟨hx, hb, hml, hown, hts⟩ (k2_within_t l hI q (nI 0) (nI 2) q_25) (va_cwS 3 hts gX7_hours_X7_within rfl rfl rfl (by decide +kernel) ⟨Nat.le_of_ble_eq_true rfl, Nat.le_of_ble_eq_true rfl⟩) (xk_preS X2_ok hK hX hP) rfl rfl hl.1 rfl (lv_room (Nat.le_of_ble_eq_true rfl)) dX7_hours_25 ⟨Nat.le_of_ble_eq_true rfl, Nat.le_of_ble_eq_true rfl⟩) hS (fun H locs hP hS => ?_)
    refine xn_zne (tgt := 46) hx hb dX7_hours_28 (by decide) (by omega) (fun c_28 => ?_) (fun c_28 => absurd c_28 (by omega))
    refine lv_aload_n hx hb dX7_hours_46 rfl (lv_at hl 0 rfl) ?_
    refine lv_iload_n hx hb dX7_hours_47 rfl (lv_at hl 1 rfl) ?_
    refine lv_iload_n hx hb dX7_hours_48 rfl (lv_at hl 2 rfl) ?_
    refine lv_iload_n hx hb dX7_hours_49 rfl (lv_at hl 3 rfl) ?_
    refine lv_iload hx hb dX7_hours_50 (lv_at hl 4 rfl) ?_
    refine xk_fi (va_runV (As := [.int (nI k), .int (nI w), .int (nI a), .int (nI m)]) (rest := []) ⟨hx, hb, hml, hown, hts⟩ (k2_ag_ok l hI (w := w) hk4 hZ hw2 hLw ham) (cwV 4 hts gX7_hours_X7_against rfl rfl rfl (by decide +kernel) ⟨Nat.le_of_ble_eq_true rfl, Nat.le_of_ble_eq_true rfl⟩) (xk_preV X2_ok hK hX hP (xk_recv hK hP 0 (by omega) (ci := 7) e2_obj rfl)) rfl rfl hl.1 rfl (lv_room (Nat.le_of_ble_eq_true rfl)) dX7_hours_52 ⟨Nat.le_of_ble_eq_true rfl, Nat.le_of_ble_eq_true rfl⟩) hS (fun H locs hP hS => ?_)
    refine lv_istore (lv' := [(6, .int (nI 0)), (0, .ref (ad 0)), (1, .int (nI k)), (2, .int (nI w)), (3, .int (nI a)), (4, .int (nI m)), (5, .int q)]) hx hb dX7_hours_55 hl (by decide) rfl (fun ls hl => ?_)
    refine lv_iload hx hb dX7_hours_57 (lv_at hl 0 rfl) ?_
    refine xn_zeq (tgt := 69) hx hb dX7_hours_59 (by decide) (by omega) (fun c_59 => ?_) (fun c_59 => absurd c_59 (by omega))
    refine lv_aload_n hx hb dX7_hours_69 rfl (lv_at hl 1 rfl) ?_
    refine xk_get hx hb hts (inX7_hours_X7) hown hK hP 0 (by omega) (ci := 7) e2_obj rfl 6 (by decide) (flX7_hours_107 hts) rfl (.int (σ0 0 6)) rfl dX7_hours_70 ?_
    refine xn_eqi (y := nI p) hR.1 ?_
    refine xn_zne (tgt := 79) hx hb dX7_hours_73 (by decide) (by omega) (fun c_73 => ?_) (fun c_73 => absurd c_73 (by omega))
    refine lv_iload hx hb dX7_hours_79 (lv_at hl 5 rfl) ?_
    refine lv_aload_n hx hb dX7_hours_81 rfl (lv_at hl 1 rfl) ?_
    refine xk_get hx hb hts (inX7_hours_X7) hown hK hP 0 (by omega) (ci := 7) e2_obj rfl 7 (by decide) (flX7_hours_71 hts) rfl (.int (σ0 0 7)) rfl dX7_hours_82 ?_
    refine xn_eqi (y := nI n) hT.2.1 ?_
    refine xn_ieq (tgt := 91) hx hb dX7_hours_85 (by decide) (by omega) (by omega) (fun c_85 => ?_) (fun c_85 => absurd c_85 (by omega))
    refine lv_bipush (v := nI 60) hx hb dX7_hours_91 (by decide) ?_
    refine lv_iload_n hx hb dX7_hours_93 rfl (lv_at hl 2 rfl) ?_
    refine xn_imul hx hb dX7_hours_94 ?_
    refine lv_iload_n hx hb dX7_hours_95 rfl (lv_at hl 4 rfl) ?_
    refine xn_iadd hx hb dX7_hours_96 ?_
    refine lv_istore (lv' := [(7, .int (nI ((60 * k) + a))), (6, .int (nI 0)), (0, .ref (ad 0)), (1, .int (nI k)), (2, .int (nI w)), (3, .int (nI a)), (4, .int (nI m)), (5, .int q)]) hx hb dX7_hours_97 hl (by decide) rfl (fun ls hl => ?_)
    refine lv_iconst (v := nI 0) hx hb dX7_hours_99 (by decide) ?_
    refine lv_istore (lv' := [(8, .int (nI 0)), (7, .int (nI ((60 * k) + a))), (6, .int (nI 0)), (0, .ref (ad 0)), (1, .int (nI k)), (2, .int (nI w)), (3, .int (nI a)), (4, .int (nI m)), (5, .int q)]) hx hb dX7_hours_100 hl (by decide) rfl (fun ls hl => ?_)
    have LP_102 : ∀ (n_102 : Nat) (w8 : Nat), (w8 ≤ m) → (∀ x, x < w8 → nI 0 ≤ sc k (a + x) ∧ sc k (a + x) ≤ nI 23) → (m - w8) < n_102 → ∀ (H : Heap) (locs : List Loc) (ls : Array Slot), va_P D vwCl (wl ad 18 (en2 ad ca σ0)) H → va_S (AA ad 18) sS.heap H locs → lv_has ls 9 [(0, .ref (ad 0)), (4, .int (nI m)), (5, .int q), (7, .int (nI (60 * k + a))), (8, .int (nI w8))] → Wwi2 pP l eE { frames := 4, cells := 0, slots := 0, locals := 96 } sS mM [.ref (ad 0), .int (nI k), .int (nI w), .int (nI a), .int (nI m), .int q] below meth cC D ca ad (fun r σ' => r = -2 ∧ I2 n p g rn d th rd sl sn sc (nI 0) tr σ') H locs (F0 mM 102 ls []) := by
      intro n_102
      induction n_102 with
      | zero =>
        intro w8 hqm hall hn_102
        exact absurd hn_102 (Nat.not_lt_zero _)
      | succ n_102 ih_102 =>
        intro w8 hqm hall hn_102 H locs ls hP hS hl
        refine lv_iload hx hb dX7_hours_102 (lv_at hl 4 rfl) ?_
        refine lv_iload hx hb dX7_hours_104 (lv_at hl 1 rfl) ?_
        refine xn_ige (tgt := 137) hx hb dX7_hours_106 (by decide) (by omega) (by omega) (fun c_106 => ?_) (fun c_106 => ?_)
        · exact absurd (fun x hx => hall x (by omega)) hnh
        · refine lv_aload_n hx hb dX7_hours_109 rfl (lv_at hl 0 rfl) ?_
          refine xk_get hx hb hts (inX7_hours_X7) hown hK hP 0 (by omega) (ci := 7) e2_obj rfl 4 (by decide) (flX7_hours_16 hts) rfl (.ref (ad 3)) rfl dX7_hours_110 ?_
          refine lv_iload hx hb dX7_hours_113 (lv_at hl 3 rfl) ?_
          refine lv_iload hx hb dX7_hours_115 (lv_at hl 4 rfl) ?_
          refine xn_iadd hx hb dX7_hours_117 ?_
          refine xk_iald hx hb hK hP 3 (by omega) (n := 240) (e2_row 240 (by decide) rfl) rfl ((60 * k + a) + w8) (by omega) (by decide) dX7_hours_118 ?_
          refine xn_eqi (y := sc k (a + w8)) (by rw [Nat.add_assoc]; exact (hZ.2.2 hL).2.2 (a + w8) (by omega)) ?_
          refine lv_iconst (v := nI 0) hx hb dX7_hours_119 (by decide) ?_
          refine lv_bipush (v := nI 23) hx hb dX7_hours_120 (by decide) ?_
          by_cases q_122 : nI 0 ≤ sc k (a + w8) ∧ sc k (a + w8) ≤ nI 23
          · refine xk_fi (va_runS (As := [.int (sc k (a + w8)), .int (nI 0), .int (nI 23)]) (rest := []) ⟨hx, hb, hml, hown, hts⟩ (k2_within_t l hI (sc k (a + w8)) (nI 0) (nI 23) q_122) (va_cwS 3 hts gX7_hours_X7_within rfl rfl rfl (by decide +kernel) ⟨Nat.le_of_ble_eq_true rfl, Nat.le_of_ble_eq_true rfl⟩) (xk_preS X2_ok hK hX hP) rfl rfl hl.1 rfl (lv_room (Nat.le_of_ble_eq_true rfl)) dX7_hours_122 ⟨Nat.le_of_ble_eq_true rfl, Nat.le_of_ble_eq_true rfl⟩) hS (fun H locs hP hS => ?_)
            refine xn_zne (tgt := 131) hx hb dX7_hours_125 (by decide) (by omega) (fun c_125 => ?_) (fun c_125 => absurd c_125 (by omega))
            refine lv_iinc (v := nI (w8 + 1)) (lv' := [(8, .int (nI (w8 + 1))), (0, .ref (ad 0)), (4, .int (nI m)), (5, .int q), (7, .int (nI (60 * k + a)))]) hx hb dX7_hours_131 hl (k := 4) rfl (xn_inc _ 1) (by decide) rfl (fun ls hl => ?_)
            refine lv_goto (tgt := 102) hx hb dX7_hours_134 (by decide) ?_
            exact ih_102 (w8 + 1) (by omega) (fun x hx => by
            by_cases hxq : x = w8
            · rw [hxq]; exact q_122
            · exact hall x (by omega)) (by omega) _ _ _ hP hS (lv_sub hl [1, 2, 3, 4, 0] rfl)
          · refine xk_fi (va_runS (As := [.int (sc k (a + w8)), .int (nI 0), .int (nI 23)]) (rest := []) ⟨hx, hb, hml, hown, hts⟩ (k2_within_f l hI (sc k (a + w8)) (nI 0) (nI 23) q_122) (va_cwS 3 hts gX7_hours_X7_within rfl rfl rfl (by decide +kernel) ⟨Nat.le_of_ble_eq_true rfl, Nat.le_of_ble_eq_true rfl⟩) (xk_preS X2_ok hK hX hP) rfl rfl hl.1 rfl (lv_room (Nat.le_of_ble_eq_true rfl)) dX7_hours_122 ⟨Nat.le_of_ble_eq_true rfl, Nat.le_of_ble_eq_true rfl⟩) hS (fun H locs hP hS => ?_)
            refine xn_zne (tgt := 131) hx hb dX7_hours_125 (by decide) (by omega) (fun c_125 => absurd c_125 (by omega)) (fun c_125 => ?_)
            refine lv_bipush (v := (-2)) hx hb dX7_hours_128 (by decide) ?_
            exact xk_iret hx hb hr (vp_nar_int _) X2_ok hK hX hP hS hlk dX7_hours_130 (⟨rfl, hJ0⟩)
    exact LP_102 _ 0 (by omega) (fun x hx => absurd hx (Nat.not_lt_zero _)) (Nat.lt_succ_self _) _ _ _ hP hS (lv_sub hl [3, 7, 8, 1, 0] rfl)
  · refine xk_fi (va_runS (As := [.int q, .int (nI 0), .int (nI 2)]) (rest := []) ⟨hx, hb, hml, hown, hts⟩ (k2_within_f l hI q (nI 0) (nI 2) q_25) (va_cwS 3 hts gX7_hours_X7_within rfl rfl rfl (by decide +kernel) ⟨Nat.le_of_ble_eq_true rfl, Nat.le_of_ble_eq_true rfl⟩) (xk_preS X2_ok hK hX hP) rfl rfl hl.1 rfl (lv_room (Nat.le_of_ble_eq_true rfl)) dX7_hours_25 ⟨Nat.le_of_ble_eq_true rfl, Nat.le_of_ble_eq_true rfl⟩) hS (fun H locs hP hS => ?_)
    refine xn_zne (tgt := 46) hx hb dX7_hours_28 (by decide) (by omega) (fun c_28 => absurd c_28 (by omega)) (fun c_28 => ?_)
    refine lv_iload hx hb dX7_hours_31 (lv_at hl 5 rfl) ?_
    refine lv_bipush (v := nI 10) hx hb dX7_hours_33 (by decide) ?_
    refine lv_bipush (v := nI 14) hx hb dX7_hours_35 (by decide) ?_
    refine xk_fi (va_runS (As := [.int q, .int (nI 10), .int (nI 14)]) (rest := []) ⟨hx, hb, hml, hown, hts⟩ (k2_within_t l hI q (nI 10) (nI 14) (hq.resolve_left q_25)) (va_cwS 3 hts gX7_hours_X7_within rfl rfl rfl (by decide +kernel) ⟨Nat.le_of_ble_eq_true rfl, Nat.le_of_ble_eq_true rfl⟩) (xk_preS X2_ok hK hX hP) rfl rfl hl.1 rfl (lv_room (Nat.le_of_ble_eq_true rfl)) dX7_hours_37 ⟨Nat.le_of_ble_eq_true rfl, Nat.le_of_ble_eq_true rfl⟩) hS (fun H locs hP hS => ?_)
    refine xn_zne (tgt := 46) hx hb dX7_hours_40 (by decide) (by omega) (fun c_40 => ?_) (fun c_40 => absurd c_40 (by omega))
    refine lv_aload_n hx hb dX7_hours_46 rfl (lv_at hl 0 rfl) ?_
    refine lv_iload_n hx hb dX7_hours_47 rfl (lv_at hl 1 rfl) ?_
    refine lv_iload_n hx hb dX7_hours_48 rfl (lv_at hl 2 rfl) ?_
    refine lv_iload_n hx hb dX7_hours_49 rfl (lv_at hl 3 rfl) ?_
    refine lv_iload hx hb dX7_hours_50 (lv_at hl 4 rfl) ?_
    refine xk_fi (va_runV (As := [.int (nI k), .int (nI w), .int (nI a), .int (nI m)]) (rest := []) ⟨hx, hb, hml, hown, hts⟩ (k2_ag_ok l hI (w := w) hk4 hZ hw2 hLw ham) (cwV 4 hts gX7_hours_X7_against rfl rfl rfl (by decide +kernel) ⟨Nat.le_of_ble_eq_true rfl, Nat.le_of_ble_eq_true rfl⟩) (xk_preV X2_ok hK hX hP (xk_recv hK hP 0 (by omega) (ci := 7) e2_obj rfl)) rfl rfl hl.1 rfl (lv_room (Nat.le_of_ble_eq_true rfl)) dX7_hours_52 ⟨Nat.le_of_ble_eq_true rfl, Nat.le_of_ble_eq_true rfl⟩) hS (fun H locs hP hS => ?_)
    refine lv_istore (lv' := [(6, .int (nI 0)), (0, .ref (ad 0)), (1, .int (nI k)), (2, .int (nI w)), (3, .int (nI a)), (4, .int (nI m)), (5, .int q)]) hx hb dX7_hours_55 hl (by decide) rfl (fun ls hl => ?_)
    refine lv_iload hx hb dX7_hours_57 (lv_at hl 0 rfl) ?_
    refine xn_zeq (tgt := 69) hx hb dX7_hours_59 (by decide) (by omega) (fun c_59 => ?_) (fun c_59 => absurd c_59 (by omega))
    refine lv_aload_n hx hb dX7_hours_69 rfl (lv_at hl 1 rfl) ?_
    refine xk_get hx hb hts (inX7_hours_X7) hown hK hP 0 (by omega) (ci := 7) e2_obj rfl 6 (by decide) (flX7_hours_107 hts) rfl (.int (σ0 0 6)) rfl dX7_hours_70 ?_
    refine xn_eqi (y := nI p) hR.1 ?_
    refine xn_zne (tgt := 79) hx hb dX7_hours_73 (by decide) (by omega) (fun c_73 => ?_) (fun c_73 => absurd c_73 (by omega))
    refine lv_iload hx hb dX7_hours_79 (lv_at hl 5 rfl) ?_
    refine lv_aload_n hx hb dX7_hours_81 rfl (lv_at hl 1 rfl) ?_
    refine xk_get hx hb hts (inX7_hours_X7) hown hK hP 0 (by omega) (ci := 7) e2_obj rfl 7 (by decide) (flX7_hours_71 hts) rfl (.int (σ0 0 7)) rfl dX7_hours_82 ?_
    refine xn_eqi (y := nI n) hT.2.1 ?_
    refine xn_ieq (tgt := 91) hx hb dX7_hours_85 (by decide) (by omega) (by omega) (fun c_85 => ?_) (fun c_85 => absurd c_85 (by omega))
    refine lv_bipush (v := nI 60) hx hb dX7_hours_91 (by decide) ?_
    refine lv_iload_n hx hb dX7_hours_93 rfl (lv_at hl 2 rfl) ?_
    refine xn_imul hx hb dX7_hours_94 ?_
    refine lv_iload_n hx hb dX7_hours_95 rfl (lv_at hl 4 rfl) ?_
    refine xn_iadd hx hb dX7_hours_96 ?_
    refine lv_istore (lv' := [(7, .int (nI ((60 * k) + a))), (6, .int (nI 0)), (0, .ref (ad 0)), (1, .int (nI k)), (2, .int (nI w)), (3, .int (nI a)), (4, .int (nI m)), (5, .int q)]) hx hb dX7_hours_97 hl (by decide) rfl (fun ls hl => ?_)
    refine lv_iconst (v := nI 0) hx hb dX7_hours_99 (by decide) ?_
    refine lv_istore (lv' := [(8, .int (nI 0)), (7, .int (nI ((60 * k) + a))), (6, .int (nI 0)), (0, .ref (ad 0)), (1, .int (nI k)), (2, .int (nI w)), (3, .int (nI a)), (4, .int (nI m)), (5, .int q)]) hx hb dX7_hours_100 hl (by decide) rfl (fun ls hl => ?_)
    have LP_102 : ∀ (n_102 : Nat) (w8 : Nat), (w8 ≤ m) → (∀ x, x < w8 → nI 0 ≤ sc k (a + x) ∧ sc k (a + x) ≤ nI 23) → (m - w8) < n_102 → ∀ (H : Heap) (locs : List Loc) (ls : Array Slot), va_P D vwCl (wl ad 18 (en2 ad ca σ0)) H → va_S (AA ad 18) sS.heap H locs → lv_has ls 9 [(0, .ref (ad 0)), (4, .int (nI m)), (5, .int q), (7, .int (nI (60 * k + a))), (8, .int (nI w8))] → Wwi2 pP l eE { frames := 4, cells := 0, slots := 0, locals := 96 } sS mM [.ref (ad 0), .int (nI k), .int (nI w), .int (nI a), .int (nI m), .int q] below meth cC D ca ad (fun r σ' => r = -2 ∧ I2 n p g rn d th rd sl sn sc (nI 0) tr σ') H locs (F0 mM 102 ls []) := by
      intro n_102
      induction n_102 with
      | zero =>
        intro w8 hqm hall hn_102
        exact absurd hn_102 (Nat.not_lt_zero _)
      | succ n_102 ih_102 =>
        intro w8 hqm hall hn_102 H locs ls hP hS hl
        refine lv_iload hx hb dX7_hours_102 (lv_at hl 4 rfl) ?_
        refine lv_iload hx hb dX7_hours_104 (lv_at hl 1 rfl) ?_
        refine xn_ige (tgt := 137) hx hb dX7_hours_106 (by decide) (by omega) (by omega) (fun c_106 => ?_) (fun c_106 => ?_)
        · exact absurd (fun x hx => hall x (by omega)) hnh
        · refine lv_aload_n hx hb dX7_hours_109 rfl (lv_at hl 0 rfl) ?_
          refine xk_get hx hb hts (inX7_hours_X7) hown hK hP 0 (by omega) (ci := 7) e2_obj rfl 4 (by decide) (flX7_hours_16 hts) rfl (.ref (ad 3)) rfl dX7_hours_110 ?_
          refine lv_iload hx hb dX7_hours_113 (lv_at hl 3 rfl) ?_
          refine lv_iload hx hb dX7_hours_115 (lv_at hl 4 rfl) ?_
          refine xn_iadd hx hb dX7_hours_117 ?_
          refine xk_iald hx hb hK hP 3 (by omega) (n := 240) (e2_row 240 (by decide) rfl) rfl ((60 * k + a) + w8) (by omega) (by decide) dX7_hours_118 ?_
          refine xn_eqi (y := sc k (a + w8)) (by rw [Nat.add_assoc]; exact (hZ.2.2 hL).2.2 (a + w8) (by omega)) ?_
          refine lv_iconst (v := nI 0) hx hb dX7_hours_119 (by decide) ?_
          refine lv_bipush (v := nI 23) hx hb dX7_hours_120 (by decide) ?_
          by_cases q_122 : nI 0 ≤ sc k (a + w8) ∧ sc k (a + w8) ≤ nI 23
          · refine xk_fi (va_runS (As := [.int (sc k (a + w8)), .int (nI 0), .int (nI 23)]) (rest := []) ⟨hx, hb, hml, hown, hts⟩ (k2_within_t l hI (sc k (a + w8)) (nI 0) (nI 23) q_122) (va_cwS 3 hts gX7_hours_X7_within rfl rfl rfl (by decide +kernel) ⟨Nat.le_of_ble_eq_true rfl, Nat.le_of_ble_eq_true rfl⟩) (xk_preS X2_ok hK hX hP) rfl rfl hl.1 rfl (lv_room (Nat.le_of_ble_eq_true rfl)) dX7_hours_122 ⟨Nat.le_of_ble_eq_true rfl, Nat.le_of_ble_eq_true rfl⟩) hS (fun H locs hP hS => ?_)
            refine xn_zne (tgt := 131) hx hb dX7_hours_125 (by decide) (by omega) (fun c_125 => ?_) (fun c_125 => absurd c_125 (by omega))
            refine lv_iinc (v := nI (w8 + 1)) (lv' := [(8, .int (nI (w8 + 1))), (0, .ref (ad 0)), (4, .int (nI m)), (5, .int q), (7, .int (nI (60 * k + a)))]) hx hb dX7_hours_131 hl (k := 4) rfl (xn_inc _ 1) (by decide) rfl (fun ls hl => ?_)
            refine lv_goto (tgt := 102) hx hb dX7_hours_134 (by decide) ?_
            exact ih_102 (w8 + 1) (by omega) (fun x hx => by
            by_cases hxq : x = w8
            · rw [hxq]; exact q_122
            · exact hall x (by omega)) (by omega) _ _ _ hP hS (lv_sub hl [1, 2, 3, 4, 0] rfl)
          · refine xk_fi (va_runS (As := [.int (sc k (a + w8)), .int (nI 0), .int (nI 23)]) (rest := []) ⟨hx, hb, hml, hown, hts⟩ (k2_within_f l hI (sc k (a + w8)) (nI 0) (nI 23) q_122) (va_cwS 3 hts gX7_hours_X7_within rfl rfl rfl (by decide +kernel) ⟨Nat.le_of_ble_eq_true rfl, Nat.le_of_ble_eq_true rfl⟩) (xk_preS X2_ok hK hX hP) rfl rfl hl.1 rfl (lv_room (Nat.le_of_ble_eq_true rfl)) dX7_hours_122 ⟨Nat.le_of_ble_eq_true rfl, Nat.le_of_ble_eq_true rfl⟩) hS (fun H locs hP hS => ?_)
            refine xn_zne (tgt := 131) hx hb dX7_hours_125 (by decide) (by omega) (fun c_125 => absurd c_125 (by omega)) (fun c_125 => ?_)
            refine lv_bipush (v := (-2)) hx hb dX7_hours_128 (by decide) ?_
            exact xk_iret hx hb hr (vp_nar_int _) X2_ok hK hX hP hS hlk dX7_hours_130 (⟨rfl, hJ0⟩)
    exact LP_102 _ 0 (by omega) (fun x hx => absurd hx (Nat.not_lt_zero _)) (Nat.lt_succ_self _) _ _ _ hP hS (lv_sub hl [3, 7, 8, 1, 0] rfl)

set_option maxHeartbeats 4000000 in
set_option maxRecDepth 100000 in
theorem a2_hours_0 (l : Launch) {D : va_G} {ca : Nat → ClassId} {ad : Nat → Nat} (hI : Ij ad 18) {σ : Sg} {n p g rn : Nat} {d : Nat → Nat} {th rd : Nat → Nat → Nat} {sl sn : Nat → Nat} {sc : Nat → Nat → Int32} {ft tr : Int32} {k : Nat} {w : Nat} {a m : Nat} (hJ : I2 n p g rn d th rd sl sn sc ft tr σ) (hk4 : k < 4) (hw2 : w ≤ 2) (hLw : sl k = w) (ham : a + m ≤ sn k) (hn0 : 0 < n) (hmn : m = n) (hal : ∀ x, x < m → nI 0 ≤ sc k (a + x) ∧ sc k (a + x) ≤ nI 23) : C2i l D ca ad yX7_hours wsX7_hours { frames := 4, cells := 0, slots := 0, locals := 96 } [.ref (ad 0), .int (nI k), .int (nI w), .int (nI a), .int (nI m), .int (nI 0)] σ (fun r σ' => r = sbt (fun x => decide (rt p d g th x ((fun x => hv (sc k (a + x))) x))) n ∧ I2 n p g rn d th rd sl sn sc (nI 0) tr σ') := by
  refine xk_entry cX7_hours 9 (some .int) (by decide) rfl (Nat.le_of_ble_eq_true rfl) ?_
  intro pP eE sS mM below meth cC hx hb hml hr hts hown hlk hP hK hX hS ls hl
  have hl : lv_has ls 9 [(0, .ref (ad 0)), (1, .int (nI k)), (2, .int (nI w)), (3, .int (nI a)), (4, .int (nI m)), (5, .int (nI 0))] := hl
  obtain ⟨hT, hR, hRd, hSh, hnp, hft, htr⟩ := id hJ
  have hn5 := hT.2.2.1
  have hg9 := hT.2.2.2.1
  have hp6 := hR.2.1
  have hrn8 := hRd.2.1
  have hp0 : 0 < p := hnp.mp (by omega)
  refine lv_aload_n hx hb dX7_hours_0 rfl (lv_at hl 0 rfl) ?_
  refine lv_iconst (v := nI 0) hx hb dX7_hours_1 (by decide) ?_
  refine xk_put hx hb hts (inX7_hours_X7) tyX7 tyX7_ok nmX7 hown hK hI hP hS 0 (by omega) (ci := 7) e2_obj rfl 0 (by decide) (flX7_hours_61 hts) rfl rfl (by decide +kernel) (Nat.le_of_ble_eq_true rfl) e2_loc (by rw [e2_obj]; simp [up]) dX7_hours_2 (fun H locs hP hS => ?_)
  obtain ⟨σ0, hσ0⟩ : ∃ τ, τ = up σ 0 0 (nI 0) := ⟨_, rfl⟩
  rw [← hσ0] at hP
  have hJ0 : I2 n p g rn d th rd sl sn sc (nI 0) tr σ0 := by rw [hσ0]; exact I2_ft hJ
  obtain ⟨hT, hR, hRd, hSh, -, hft, htr⟩ := id hJ0
  have hZ := hSh k hk4
  have hz60 : sl k < 3 → sn k ≤ 60 := fun q => (hZ.2.2 q).2.1
  have hL : sl k < 3 := by omega
  have hk60 := hz60 hL
  have hp0 : 0 < p := hnp.mp hn0
  have hcc : ∀ x, x < n → σ0 3 (60 * k + a + x) = nI ((fun x => hv (sc k (a + x))) x) ∧ (fun x => hv (sc k (a + x))) x ≤ 23 := fun x hx => ⟨by rw [Nat.add_assoc, (hZ.2.2 hL).2.2 (a + x) (by omega)]; exact (hv_in (hal x (by omega))).1, by exact (hv_in (hal x (by omega))).2⟩
  refine lv_iload_n hx hb dX7_hours_5 rfl (lv_at hl 1 rfl) ?_
  refine xk_fi (va_runS (As := [.int (nI k)]) (rest := []) ⟨hx, hb, hml, hown, hts⟩ (k2_isSheet_t l hI (nI k) (xn_in (by omega) (by omega) (by omega))) (va_cwS 1 hts gX7_hours_X7_isSheet rfl rfl rfl (by decide +kernel) ⟨Nat.le_of_ble_eq_true rfl, Nat.le_of_ble_eq_true rfl⟩) (xk_preS X2_ok hK hX hP) rfl rfl hl.1 rfl (lv_room (Nat.le_of_ble_eq_true rfl)) dX7_hours_6 ⟨Nat.le_of_ble_eq_true rfl, Nat.le_of_ble_eq_true rfl⟩) hS (fun H locs hP hS => ?_)
  refine xn_zne (tgt := 14) hx hb dX7_hours_9 (by decide) (by omega) (fun c_9 => ?_) (fun c_9 => absurd c_9 (by omega))
  refine lv_iload_n hx hb dX7_hours_14 rfl (lv_at hl 2 rfl) ?_
  refine xk_fi (va_runS (As := [.int (nI w)]) (rest := []) ⟨hx, hb, hml, hown, hts⟩ (k2_isSort_t l hI (nI w) (xn_in (by omega) (by omega) (by omega))) (va_cwS 1 hts gX7_hours_X7_isSort rfl rfl rfl (by decide +kernel) ⟨Nat.le_of_ble_eq_true rfl, Nat.le_of_ble_eq_true rfl⟩) (xk_preS X2_ok hK hX hP) rfl rfl hl.1 rfl (lv_room (Nat.le_of_ble_eq_true rfl)) dX7_hours_15 ⟨Nat.le_of_ble_eq_true rfl, Nat.le_of_ble_eq_true rfl⟩) hS (fun H locs hP hS => ?_)
  refine xn_zeq (tgt := 43) hx hb dX7_hours_18 (by decide) (by omega) (fun c_18 => absurd c_18 (by omega)) (fun c_18 => ?_)
  refine lv_iload hx hb dX7_hours_21 (lv_at hl 5 rfl) ?_
  refine lv_iconst (v := nI 0) hx hb dX7_hours_23 (by decide) ?_
  refine lv_iconst (v := nI 2) hx hb dX7_hours_24 (by decide) ?_
  refine xk_fi (va_runS (As := [.int (nI 0), .int (nI 0), .int (nI 2)]) (rest := []) ⟨hx, hb, hml, hown, hts⟩ (k2_within_t l hI (nI 0) (nI 0) (nI 2) (xn_in (by omega) (by omega) (by omega))) (va_cwS 3 hts gX7_hours_X7_within rfl rfl rfl (by decide +kernel) ⟨Nat.le_of_ble_eq_true rfl, Nat.le_of_ble_eq_true rfl⟩) (xk_preS X2_ok hK hX hP) rfl rfl hl.1 rfl (lv_room (Nat.le_of_ble_eq_true rfl)) dX7_hours_25 ⟨Nat.le_of_ble_eq_true rfl, Nat.le_of_ble_eq_true rfl⟩) hS (fun H locs hP hS => ?_)
  refine xn_zne (tgt := 46) hx hb dX7_hours_28 (by decide) (by omega) (fun c_28 => ?_) (fun c_28 => absurd c_28 (by omega))
  refine lv_aload_n hx hb dX7_hours_46 rfl (lv_at hl 0 rfl) ?_
  refine lv_iload_n hx hb dX7_hours_47 rfl (lv_at hl 1 rfl) ?_
  refine lv_iload_n hx hb dX7_hours_48 rfl (lv_at hl 2 rfl) ?_
  refine lv_iload_n hx hb dX7_hours_49 rfl (lv_at hl 3 rfl) ?_
  refine lv_iload hx hb dX7_hours_50 (lv_at hl 4 rfl) ?_
  refine xk_fi (va_runV (As := [.int (nI k), .int (nI w), .int (nI a), .int (nI m)]) (rest := []) ⟨hx, hb, hml, hown, hts⟩ (k2_ag_ok l hI (w := w) hk4 hZ hw2 hLw ham) (cwV 4 hts gX7_hours_X7_against rfl rfl rfl (by decide +kernel) ⟨Nat.le_of_ble_eq_true rfl, Nat.le_of_ble_eq_true rfl⟩) (xk_preV X2_ok hK hX hP (xk_recv hK hP 0 (by omega) (ci := 7) e2_obj rfl)) rfl rfl hl.1 rfl (lv_room (Nat.le_of_ble_eq_true rfl)) dX7_hours_52 ⟨Nat.le_of_ble_eq_true rfl, Nat.le_of_ble_eq_true rfl⟩) hS (fun H locs hP hS => ?_)
  refine lv_istore (lv' := [(6, .int (nI 0)), (0, .ref (ad 0)), (1, .int (nI k)), (2, .int (nI w)), (3, .int (nI a)), (4, .int (nI m)), (5, .int (nI 0))]) hx hb dX7_hours_55 hl (by decide) rfl (fun ls hl => ?_)
  refine lv_iload hx hb dX7_hours_57 (lv_at hl 0 rfl) ?_
  refine xn_zeq (tgt := 69) hx hb dX7_hours_59 (by decide) (by omega) (fun c_59 => ?_) (fun c_59 => absurd c_59 (by omega))
  refine lv_aload_n hx hb dX7_hours_69 rfl (lv_at hl 1 rfl) ?_
  refine xk_get hx hb hts (inX7_hours_X7) hown hK hP 0 (by omega) (ci := 7) e2_obj rfl 6 (by decide) (flX7_hours_107 hts) rfl (.int (σ0 0 6)) rfl dX7_hours_70 ?_
  refine xn_eqi (y := nI p) hR.1 ?_
  refine xn_zne (tgt := 79) hx hb dX7_hours_73 (by decide) (by omega) (fun c_73 => ?_) (fun c_73 => absurd c_73 (by omega))
  refine lv_iload hx hb dX7_hours_79 (lv_at hl 5 rfl) ?_
  refine lv_aload_n hx hb dX7_hours_81 rfl (lv_at hl 1 rfl) ?_
  refine xk_get hx hb hts (inX7_hours_X7) hown hK hP 0 (by omega) (ci := 7) e2_obj rfl 7 (by decide) (flX7_hours_71 hts) rfl (.int (σ0 0 7)) rfl dX7_hours_82 ?_
  refine xn_eqi (y := nI n) hT.2.1 ?_
  refine xn_ieq (tgt := 91) hx hb dX7_hours_85 (by decide) (by omega) (by omega) (fun c_85 => ?_) (fun c_85 => absurd c_85 (by omega))
  refine lv_bipush (v := nI 60) hx hb dX7_hours_91 (by decide) ?_
  refine lv_iload_n hx hb dX7_hours_93 rfl (lv_at hl 2 rfl) ?_
  refine xn_imul hx hb dX7_hours_94 ?_
  refine lv_iload_n hx hb dX7_hours_95 rfl (lv_at hl 4 rfl) ?_
  refine xn_iadd hx hb dX7_hours_96 ?_
  refine lv_istore (lv' := [(7, .int (nI ((60 * k) + a))), (6, .int (nI 0)), (0, .ref (ad 0)), (1, .int (nI k)), (2, .int (nI w)), (3, .int (nI a)), (4, .int (nI m)), (5, .int (nI 0))]) hx hb dX7_hours_97 hl (by decide) rfl (fun ls hl => ?_)
  refine lv_iconst (v := nI 0) hx hb dX7_hours_99 (by decide) ?_
  refine lv_istore (lv' := [(8, .int (nI 0)), (7, .int (nI ((60 * k) + a))), (6, .int (nI 0)), (0, .ref (ad 0)), (1, .int (nI k)), (2, .int (nI w)), (3, .int (nI a)), (4, .int (nI m)), (5, .int (nI 0))]) hx hb dX7_hours_100 hl (by decide) rfl (fun ls hl => ?_)
  have LP_102 : ∀ (n_102 : Nat) (w8 : Nat), (w8 ≤ m) → (m - w8) < n_102 → ∀ (H : Heap) (locs : List Loc) (ls : Array Slot), va_P D vwCl (wl ad 18 (en2 ad ca σ0)) H → va_S (AA ad 18) sS.heap H locs → lv_has ls 9 [(0, .ref (ad 0)), (4, .int (nI m)), (5, .int (nI 0)), (7, .int (nI (60 * k + a))), (8, .int (nI w8))] → Wwi2 pP l eE { frames := 4, cells := 0, slots := 0, locals := 96 } sS mM [.ref (ad 0), .int (nI k), .int (nI w), .int (nI a), .int (nI m), .int (nI 0)] below meth cC D ca ad (fun r σ' => r = sbt (fun x => decide (rt p d g th x ((fun x => hv (sc k (a + x))) x))) n ∧ I2 n p g rn d th rd sl sn sc (nI 0) tr σ') H locs (F0 mM 102 ls []) := by
    intro n_102
    induction n_102 with
    | zero =>
      intro w8 hqm hn_102
      exact absurd hn_102 (Nat.not_lt_zero _)
    | succ n_102 ih_102 =>
      intro w8 hqm hn_102 H locs ls hP hS hl
      refine lv_iload hx hb dX7_hours_102 (lv_at hl 4 rfl) ?_
      refine lv_iload hx hb dX7_hours_104 (lv_at hl 1 rfl) ?_
      refine xn_ige (tgt := 137) hx hb dX7_hours_106 (by decide) (by omega) (by omega) (fun c_106 => ?_) (fun c_106 => ?_)
      · refine lv_aload_n hx hb dX7_hours_137 rfl (lv_at hl 0 rfl) ?_
        refine lv_iload hx hb dX7_hours_138 (lv_at hl 3 rfl) ?_
        refine lv_iload hx hb dX7_hours_140 (lv_at hl 2 rfl) ?_
        refine xk_ci (va_runV (As := [.int (nI (60 * k + a)), .int (nI 0)]) (rest := []) ⟨hx, hb, hml, hown, hts⟩ (k2_tellH_0 l hI (F := 60 * k + a) (hh := (fun x => hv (sc k (a + x)))) hT hR hp0 (by omega) hcc) (cwV 2 hts gX7_hours_X7_tellHours rfl rfl rfl (by decide +kernel) ⟨Nat.le_of_ble_eq_true rfl, Nat.le_of_ble_eq_true rfl⟩) (xk_preV X2_ok hK hX hP (xk_recv hK hP 0 (by omega) (ci := 7) e2_obj rfl)) rfl rfl hl.1 rfl (lv_room (Nat.le_of_ble_eq_true rfl)) dX7_hours_142 ⟨Nat.le_of_ble_eq_true rfl, Nat.le_of_ble_eq_true rfl⟩) hS (fun r142 τ142 H locs hp hP hS => ?_)
        obtain ⟨rfl, hFm⟩ := hp
        exact xk_iret hx hb hr (vp_nar_int _) X2_ok hK hX hP hS hlk dX7_hours_145 (⟨rfl, I2_fr hJ0 hFm⟩)
      · refine lv_aload_n hx hb dX7_hours_109 rfl (lv_at hl 0 rfl) ?_
        refine xk_get hx hb hts (inX7_hours_X7) hown hK hP 0 (by omega) (ci := 7) e2_obj rfl 4 (by decide) (flX7_hours_16 hts) rfl (.ref (ad 3)) rfl dX7_hours_110 ?_
        refine lv_iload hx hb dX7_hours_113 (lv_at hl 3 rfl) ?_
        refine lv_iload hx hb dX7_hours_115 (lv_at hl 4 rfl) ?_
        refine xn_iadd hx hb dX7_hours_117 ?_
        refine xk_iald hx hb hK hP 3 (by omega) (n := 240) (e2_row 240 (by decide) rfl) rfl ((60 * k + a) + w8) (by omega) (by decide) dX7_hours_118 ?_
        refine xn_eqi (y := sc k (a + w8)) (by rw [Nat.add_assoc]; exact (hZ.2.2 hL).2.2 (a + w8) (by omega)) ?_
        refine lv_iconst (v := nI 0) hx hb dX7_hours_119 (by decide) ?_
        refine lv_bipush (v := nI 23) hx hb dX7_hours_120 (by decide) ?_
        refine xk_fi (va_runS (As := [.int (sc k (a + w8)), .int (nI 0), .int (nI 23)]) (rest := []) ⟨hx, hb, hml, hown, hts⟩ (k2_within_t l hI (sc k (a + w8)) (nI 0) (nI 23) (hal w8 (by omega))) (va_cwS 3 hts gX7_hours_X7_within rfl rfl rfl (by decide +kernel) ⟨Nat.le_of_ble_eq_true rfl, Nat.le_of_ble_eq_true rfl⟩) (xk_preS X2_ok hK hX hP) rfl rfl hl.1 rfl (lv_room (Nat.le_of_ble_eq_true rfl)) dX7_hours_122 ⟨Nat.le_of_ble_eq_true rfl, Nat.le_of_ble_eq_true rfl⟩) hS (fun H locs hP hS => ?_)
        refine xn_zne (tgt := 131) hx hb dX7_hours_125 (by decide) (by omega) (fun c_125 => ?_) (fun c_125 => absurd c_125 (by omega))
        refine lv_iinc (v := nI (w8 + 1)) (lv' := [(8, .int (nI (w8 + 1))), (0, .ref (ad 0)), (4, .int (nI m)), (5, .int (nI 0)), (7, .int (nI (60 * k + a)))]) hx hb dX7_hours_131 hl (k := 4) rfl (xn_inc _ 1) (by decide) rfl (fun ls hl => ?_)
        refine lv_goto (tgt := 102) hx hb dX7_hours_134 (by decide) ?_
        exact ih_102 (w8 + 1) (by omega) (by omega) _ _ _ hP hS (lv_sub hl [1, 2, 3, 4, 0] rfl)
  exact LP_102 _ 0 (by omega) (Nat.lt_succ_self _) _ _ _ hP hS (lv_sub hl [3, 7, 8, 1, 0] rfl)

set_option maxHeartbeats 4000000 in
set_option maxRecDepth 100000 in
theorem a2_hours_1 (l : Launch) {D : va_G} {ca : Nat → ClassId} {ad : Nat → Nat} (hI : Ij ad 18) {σ : Sg} {n p g rn : Nat} {d : Nat → Nat} {th rd : Nat → Nat → Nat} {sl sn : Nat → Nat} {sc : Nat → Nat → Int32} {ft tr : Int32} {k : Nat} {w : Nat} {a m : Nat} (hJ : I2 n p g rn d th rd sl sn sc ft tr σ) (hk4 : k < 4) (hw2 : w ≤ 2) (hLw : sl k = w) (ham : a + m ≤ sn k) (hn0 : 0 < n) (hmn : m = n) (hal : ∀ x, x < m → nI 0 ≤ sc k (a + x) ∧ sc k (a + x) ≤ nI 23) : C2i l D ca ad yX7_hours wsX7_hours { frames := 4, cells := 0, slots := 0, locals := 96 } [.ref (ad 0), .int (nI k), .int (nI w), .int (nI a), .int (nI m), .int (nI 1)] σ (fun r σ' => r = lts (fun x => dwn p d (th x 2) ((fun x => hv (sc k (a + x))) x) (dl g th x)) n ∧ I2 n p g rn d th rd sl sn sc (nI 0) tr σ') := by
  refine xk_entry cX7_hours 9 (some .int) (by decide) rfl (Nat.le_of_ble_eq_true rfl) ?_
  intro pP eE sS mM below meth cC hx hb hml hr hts hown hlk hP hK hX hS ls hl
  have hl : lv_has ls 9 [(0, .ref (ad 0)), (1, .int (nI k)), (2, .int (nI w)), (3, .int (nI a)), (4, .int (nI m)), (5, .int (nI 1))] := hl
  obtain ⟨hT, hR, hRd, hSh, hnp, hft, htr⟩ := id hJ
  have hn5 := hT.2.2.1
  have hg9 := hT.2.2.2.1
  have hp6 := hR.2.1
  have hrn8 := hRd.2.1
  have hp0 : 0 < p := hnp.mp (by omega)
  refine lv_aload_n hx hb dX7_hours_0 rfl (lv_at hl 0 rfl) ?_
  refine lv_iconst (v := nI 0) hx hb dX7_hours_1 (by decide) ?_
  refine xk_put hx hb hts (inX7_hours_X7) tyX7 tyX7_ok nmX7 hown hK hI hP hS 0 (by omega) (ci := 7) e2_obj rfl 0 (by decide) (flX7_hours_61 hts) rfl rfl (by decide +kernel) (Nat.le_of_ble_eq_true rfl) e2_loc (by rw [e2_obj]; simp [up]) dX7_hours_2 (fun H locs hP hS => ?_)
  obtain ⟨σ0, hσ0⟩ : ∃ τ, τ = up σ 0 0 (nI 0) := ⟨_, rfl⟩
  rw [← hσ0] at hP
  have hJ0 : I2 n p g rn d th rd sl sn sc (nI 0) tr σ0 := by rw [hσ0]; exact I2_ft hJ
  obtain ⟨hT, hR, hRd, hSh, -, hft, htr⟩ := id hJ0
  have hZ := hSh k hk4
  have hz60 : sl k < 3 → sn k ≤ 60 := fun q => (hZ.2.2 q).2.1
  have hL : sl k < 3 := by omega
  have hk60 := hz60 hL
  have hp0 : 0 < p := hnp.mp hn0
  have hcc : ∀ x, x < n → σ0 3 (60 * k + a + x) = nI ((fun x => hv (sc k (a + x))) x) ∧ (fun x => hv (sc k (a + x))) x ≤ 23 := fun x hx => ⟨by rw [Nat.add_assoc, (hZ.2.2 hL).2.2 (a + x) (by omega)]; exact (hv_in (hal x (by omega))).1, by exact (hv_in (hal x (by omega))).2⟩
  refine lv_iload_n hx hb dX7_hours_5 rfl (lv_at hl 1 rfl) ?_
  refine xk_fi (va_runS (As := [.int (nI k)]) (rest := []) ⟨hx, hb, hml, hown, hts⟩ (k2_isSheet_t l hI (nI k) (xn_in (by omega) (by omega) (by omega))) (va_cwS 1 hts gX7_hours_X7_isSheet rfl rfl rfl (by decide +kernel) ⟨Nat.le_of_ble_eq_true rfl, Nat.le_of_ble_eq_true rfl⟩) (xk_preS X2_ok hK hX hP) rfl rfl hl.1 rfl (lv_room (Nat.le_of_ble_eq_true rfl)) dX7_hours_6 ⟨Nat.le_of_ble_eq_true rfl, Nat.le_of_ble_eq_true rfl⟩) hS (fun H locs hP hS => ?_)
  refine xn_zne (tgt := 14) hx hb dX7_hours_9 (by decide) (by omega) (fun c_9 => ?_) (fun c_9 => absurd c_9 (by omega))
  refine lv_iload_n hx hb dX7_hours_14 rfl (lv_at hl 2 rfl) ?_
  refine xk_fi (va_runS (As := [.int (nI w)]) (rest := []) ⟨hx, hb, hml, hown, hts⟩ (k2_isSort_t l hI (nI w) (xn_in (by omega) (by omega) (by omega))) (va_cwS 1 hts gX7_hours_X7_isSort rfl rfl rfl (by decide +kernel) ⟨Nat.le_of_ble_eq_true rfl, Nat.le_of_ble_eq_true rfl⟩) (xk_preS X2_ok hK hX hP) rfl rfl hl.1 rfl (lv_room (Nat.le_of_ble_eq_true rfl)) dX7_hours_15 ⟨Nat.le_of_ble_eq_true rfl, Nat.le_of_ble_eq_true rfl⟩) hS (fun H locs hP hS => ?_)
  refine xn_zeq (tgt := 43) hx hb dX7_hours_18 (by decide) (by omega) (fun c_18 => absurd c_18 (by omega)) (fun c_18 => ?_)
  refine lv_iload hx hb dX7_hours_21 (lv_at hl 5 rfl) ?_
  refine lv_iconst (v := nI 0) hx hb dX7_hours_23 (by decide) ?_
  refine lv_iconst (v := nI 2) hx hb dX7_hours_24 (by decide) ?_
  refine xk_fi (va_runS (As := [.int (nI 1), .int (nI 0), .int (nI 2)]) (rest := []) ⟨hx, hb, hml, hown, hts⟩ (k2_within_t l hI (nI 1) (nI 0) (nI 2) (xn_in (by omega) (by omega) (by omega))) (va_cwS 3 hts gX7_hours_X7_within rfl rfl rfl (by decide +kernel) ⟨Nat.le_of_ble_eq_true rfl, Nat.le_of_ble_eq_true rfl⟩) (xk_preS X2_ok hK hX hP) rfl rfl hl.1 rfl (lv_room (Nat.le_of_ble_eq_true rfl)) dX7_hours_25 ⟨Nat.le_of_ble_eq_true rfl, Nat.le_of_ble_eq_true rfl⟩) hS (fun H locs hP hS => ?_)
  refine xn_zne (tgt := 46) hx hb dX7_hours_28 (by decide) (by omega) (fun c_28 => ?_) (fun c_28 => absurd c_28 (by omega))
  refine lv_aload_n hx hb dX7_hours_46 rfl (lv_at hl 0 rfl) ?_
  refine lv_iload_n hx hb dX7_hours_47 rfl (lv_at hl 1 rfl) ?_
  refine lv_iload_n hx hb dX7_hours_48 rfl (lv_at hl 2 rfl) ?_
  refine lv_iload_n hx hb dX7_hours_49 rfl (lv_at hl 3 rfl) ?_
  refine lv_iload hx hb dX7_hours_50 (lv_at hl 4 rfl) ?_
  refine xk_fi (va_runV (As := [.int (nI k), .int (nI w), .int (nI a), .int (nI m)]) (rest := []) ⟨hx, hb, hml, hown, hts⟩ (k2_ag_ok l hI (w := w) hk4 hZ hw2 hLw ham) (cwV 4 hts gX7_hours_X7_against rfl rfl rfl (by decide +kernel) ⟨Nat.le_of_ble_eq_true rfl, Nat.le_of_ble_eq_true rfl⟩) (xk_preV X2_ok hK hX hP (xk_recv hK hP 0 (by omega) (ci := 7) e2_obj rfl)) rfl rfl hl.1 rfl (lv_room (Nat.le_of_ble_eq_true rfl)) dX7_hours_52 ⟨Nat.le_of_ble_eq_true rfl, Nat.le_of_ble_eq_true rfl⟩) hS (fun H locs hP hS => ?_)
  refine lv_istore (lv' := [(6, .int (nI 0)), (0, .ref (ad 0)), (1, .int (nI k)), (2, .int (nI w)), (3, .int (nI a)), (4, .int (nI m)), (5, .int (nI 1))]) hx hb dX7_hours_55 hl (by decide) rfl (fun ls hl => ?_)
  refine lv_iload hx hb dX7_hours_57 (lv_at hl 0 rfl) ?_
  refine xn_zeq (tgt := 69) hx hb dX7_hours_59 (by decide) (by omega) (fun c_59 => ?_) (fun c_59 => absurd c_59 (by omega))
  refine lv_aload_n hx hb dX7_hours_69 rfl (lv_at hl 1 rfl) ?_
  refine xk_get hx hb hts (inX7_hours_X7) hown hK hP 0 (by omega) (ci := 7) e2_obj rfl 6 (by decide) (flX7_hours_107 hts) rfl (.int (σ0 0 6)) rfl dX7_hours_70 ?_
  refine xn_eqi (y := nI p) hR.1 ?_
  refine xn_zne (tgt := 79) hx hb dX7_hours_73 (by decide) (by omega) (fun c_73 => ?_) (fun c_73 => absurd c_73 (by omega))
  refine lv_iload hx hb dX7_hours_79 (lv_at hl 5 rfl) ?_
  refine lv_aload_n hx hb dX7_hours_81 rfl (lv_at hl 1 rfl) ?_
  refine xk_get hx hb hts (inX7_hours_X7) hown hK hP 0 (by omega) (ci := 7) e2_obj rfl 7 (by decide) (flX7_hours_71 hts) rfl (.int (σ0 0 7)) rfl dX7_hours_82 ?_
  refine xn_eqi (y := nI n) hT.2.1 ?_
  refine xn_ieq (tgt := 91) hx hb dX7_hours_85 (by decide) (by omega) (by omega) (fun c_85 => ?_) (fun c_85 => absurd c_85 (by omega))
  refine lv_bipush (v := nI 60) hx hb dX7_hours_91 (by decide) ?_
  refine lv_iload_n hx hb dX7_hours_93 rfl (lv_at hl 2 rfl) ?_
  refine xn_imul hx hb dX7_hours_94 ?_
  refine lv_iload_n hx hb dX7_hours_95 rfl (lv_at hl 4 rfl) ?_
  refine xn_iadd hx hb dX7_hours_96 ?_
  refine lv_istore (lv' := [(7, .int (nI ((60 * k) + a))), (6, .int (nI 0)), (0, .ref (ad 0)), (1, .int (nI k)), (2, .int (nI w)), (3, .int (nI a)), (4, .int (nI m)), (5, .int (nI 1))]) hx hb dX7_hours_97 hl (by decide) rfl (fun ls hl => ?_)
  refine lv_iconst (v := nI 0) hx hb dX7_hours_99 (by decide) ?_
  refine lv_istore (lv' := [(8, .int (nI 0)), (7, .int (nI ((60 * k) + a))), (6, .int (nI 0)), (0, .ref (ad 0)), (1, .int (nI k)), (2, .int (nI w)), (3, .int (nI a)), (4, .int (nI m)), (5, .int (nI 1))]) hx hb dX7_hours_100 hl (by decide) rfl (fun ls hl => ?_)
  have LP_102 : ∀ (n_102 : Nat) (w8 : Nat), (w8 ≤ m) → (m - w8) < n_102 → ∀ (H : Heap) (locs : List Loc) (ls : Array Slot), va_P D vwCl (wl ad 18 (en2 ad ca σ0)) H → va_S (AA ad 18) sS.heap H locs → lv_has ls 9 [(0, .ref (ad 0)), (4, .int (nI m)), (5, .int (nI 1)), (7, .int (nI (60 * k + a))), (8, .int (nI w8))] → Wwi2 pP l eE { frames := 4, cells := 0, slots := 0, locals := 96 } sS mM [.ref (ad 0), .int (nI k), .int (nI w), .int (nI a), .int (nI m), .int (nI 1)] below meth cC D ca ad (fun r σ' => r = lts (fun x => dwn p d (th x 2) ((fun x => hv (sc k (a + x))) x) (dl g th x)) n ∧ I2 n p g rn d th rd sl sn sc (nI 0) tr σ') H locs (F0 mM 102 ls []) := by
    intro n_102
    induction n_102 with
    | zero =>
      intro w8 hqm hn_102
      exact absurd hn_102 (Nat.not_lt_zero _)
    | succ n_102 ih_102 =>
      intro w8 hqm hn_102 H locs ls hP hS hl
      refine lv_iload hx hb dX7_hours_102 (lv_at hl 4 rfl) ?_
      refine lv_iload hx hb dX7_hours_104 (lv_at hl 1 rfl) ?_
      refine xn_ige (tgt := 137) hx hb dX7_hours_106 (by decide) (by omega) (by omega) (fun c_106 => ?_) (fun c_106 => ?_)
      · refine lv_aload_n hx hb dX7_hours_137 rfl (lv_at hl 0 rfl) ?_
        refine lv_iload hx hb dX7_hours_138 (lv_at hl 3 rfl) ?_
        refine lv_iload hx hb dX7_hours_140 (lv_at hl 2 rfl) ?_
        refine xk_ci (va_runV (As := [.int (nI (60 * k + a)), .int (nI 1)]) (rest := []) ⟨hx, hb, hml, hown, hts⟩ (k2_tellH_1 l hI (F := 60 * k + a) (hh := (fun x => hv (sc k (a + x)))) hT hR hp0 (by omega) hcc) (cwV 2 hts gX7_hours_X7_tellHours rfl rfl rfl (by decide +kernel) ⟨Nat.le_of_ble_eq_true rfl, Nat.le_of_ble_eq_true rfl⟩) (xk_preV X2_ok hK hX hP (xk_recv hK hP 0 (by omega) (ci := 7) e2_obj rfl)) rfl rfl hl.1 rfl (lv_room (Nat.le_of_ble_eq_true rfl)) dX7_hours_142 ⟨Nat.le_of_ble_eq_true rfl, Nat.le_of_ble_eq_true rfl⟩) hS (fun r142 τ142 H locs hp hP hS => ?_)
        obtain ⟨rfl, hFm⟩ := hp
        exact xk_iret hx hb hr (vp_nar_int _) X2_ok hK hX hP hS hlk dX7_hours_145 (⟨rfl, I2_fr hJ0 hFm⟩)
      · refine lv_aload_n hx hb dX7_hours_109 rfl (lv_at hl 0 rfl) ?_
        refine xk_get hx hb hts (inX7_hours_X7) hown hK hP 0 (by omega) (ci := 7) e2_obj rfl 4 (by decide) (flX7_hours_16 hts) rfl (.ref (ad 3)) rfl dX7_hours_110 ?_
        refine lv_iload hx hb dX7_hours_113 (lv_at hl 3 rfl) ?_
        refine lv_iload hx hb dX7_hours_115 (lv_at hl 4 rfl) ?_
        refine xn_iadd hx hb dX7_hours_117 ?_
        refine xk_iald hx hb hK hP 3 (by omega) (n := 240) (e2_row 240 (by decide) rfl) rfl ((60 * k + a) + w8) (by omega) (by decide) dX7_hours_118 ?_
        refine xn_eqi (y := sc k (a + w8)) (by rw [Nat.add_assoc]; exact (hZ.2.2 hL).2.2 (a + w8) (by omega)) ?_
        refine lv_iconst (v := nI 0) hx hb dX7_hours_119 (by decide) ?_
        refine lv_bipush (v := nI 23) hx hb dX7_hours_120 (by decide) ?_
        refine xk_fi (va_runS (As := [.int (sc k (a + w8)), .int (nI 0), .int (nI 23)]) (rest := []) ⟨hx, hb, hml, hown, hts⟩ (k2_within_t l hI (sc k (a + w8)) (nI 0) (nI 23) (hal w8 (by omega))) (va_cwS 3 hts gX7_hours_X7_within rfl rfl rfl (by decide +kernel) ⟨Nat.le_of_ble_eq_true rfl, Nat.le_of_ble_eq_true rfl⟩) (xk_preS X2_ok hK hX hP) rfl rfl hl.1 rfl (lv_room (Nat.le_of_ble_eq_true rfl)) dX7_hours_122 ⟨Nat.le_of_ble_eq_true rfl, Nat.le_of_ble_eq_true rfl⟩) hS (fun H locs hP hS => ?_)
        refine xn_zne (tgt := 131) hx hb dX7_hours_125 (by decide) (by omega) (fun c_125 => ?_) (fun c_125 => absurd c_125 (by omega))
        refine lv_iinc (v := nI (w8 + 1)) (lv' := [(8, .int (nI (w8 + 1))), (0, .ref (ad 0)), (4, .int (nI m)), (5, .int (nI 1)), (7, .int (nI (60 * k + a)))]) hx hb dX7_hours_131 hl (k := 4) rfl (xn_inc _ 1) (by decide) rfl (fun ls hl => ?_)
        refine lv_goto (tgt := 102) hx hb dX7_hours_134 (by decide) ?_
        exact ih_102 (w8 + 1) (by omega) (by omega) _ _ _ hP hS (lv_sub hl [1, 2, 3, 4, 0] rfl)
  exact LP_102 _ 0 (by omega) (Nat.lt_succ_self _) _ _ _ hP hS (lv_sub hl [3, 7, 8, 1, 0] rfl)

set_option maxHeartbeats 4000000 in
set_option maxRecDepth 100000 in
theorem a2_hours_2 (l : Launch) {D : va_G} {ca : Nat → ClassId} {ad : Nat → Nat} (hI : Ij ad 18) {σ : Sg} {n p g rn : Nat} {d : Nat → Nat} {th rd : Nat → Nat → Nat} {sl sn : Nat → Nat} {sc : Nat → Nat → Int32} {ft tr : Int32} {k : Nat} {w : Nat} {a m : Nat} {hs : Nat → Nat} (hJ : I2 n p g rn d th rd sl sn sc ft tr σ) (hk4 : k < 4) (hw2 : w ≤ 2) (hLw : sl k = w) (ham : a + m ≤ sn k) (hn0 : 0 < n) (hmn : m = n) (hal : ∀ x, x < m → nI 0 ≤ sc k (a + x) ∧ sc k (a + x) ≤ nI 23) (hhs : ∀ x, hs x = hv (sc k (a + x))) : C2i l D ca ad yX7_hours wsX7_hours { frames := 4, cells := 0, slots := 0, locals := 96 } [.ref (ad 0), .int (nI k), .int (nI w), .int (nI a), .int (nI m), .int (nI 2)] σ (fun r σ' => r = (bsy (fun k => cb (fun x => decide (ot p d g th hs x = nI k)) n) 5).1 ∧ I2 n p g rn d th rd sl sn sc (nI 0) tr σ') := by
  refine xk_entry cX7_hours 9 (some .int) (by decide) rfl (Nat.le_of_ble_eq_true rfl) ?_
  intro pP eE sS mM below meth cC hx hb hml hr hts hown hlk hP hK hX hS ls hl
  have hl : lv_has ls 9 [(0, .ref (ad 0)), (1, .int (nI k)), (2, .int (nI w)), (3, .int (nI a)), (4, .int (nI m)), (5, .int (nI 2))] := hl
  obtain ⟨hT, hR, hRd, hSh, hnp, hft, htr⟩ := id hJ
  have hn5 := hT.2.2.1
  have hg9 := hT.2.2.2.1
  have hp6 := hR.2.1
  have hrn8 := hRd.2.1
  have hp0 : 0 < p := hnp.mp (by omega)
  refine lv_aload_n hx hb dX7_hours_0 rfl (lv_at hl 0 rfl) ?_
  refine lv_iconst (v := nI 0) hx hb dX7_hours_1 (by decide) ?_
  refine xk_put hx hb hts (inX7_hours_X7) tyX7 tyX7_ok nmX7 hown hK hI hP hS 0 (by omega) (ci := 7) e2_obj rfl 0 (by decide) (flX7_hours_61 hts) rfl rfl (by decide +kernel) (Nat.le_of_ble_eq_true rfl) e2_loc (by rw [e2_obj]; simp [up]) dX7_hours_2 (fun H locs hP hS => ?_)
  obtain ⟨σ0, hσ0⟩ : ∃ τ, τ = up σ 0 0 (nI 0) := ⟨_, rfl⟩
  rw [← hσ0] at hP
  have hJ0 : I2 n p g rn d th rd sl sn sc (nI 0) tr σ0 := by rw [hσ0]; exact I2_ft hJ
  obtain ⟨hT, hR, hRd, hSh, -, hft, htr⟩ := id hJ0
  have hZ := hSh k hk4
  have hz60 : sl k < 3 → sn k ≤ 60 := fun q => (hZ.2.2 q).2.1
  have hL : sl k < 3 := by omega
  have hk60 := hz60 hL
  have hp0 : 0 < p := hnp.mp hn0
  have hcc : ∀ x, x < n → σ0 3 (60 * k + a + x) = nI (hs x) ∧ hs x ≤ 23 := fun x hx => ⟨by rw [Nat.add_assoc, (hZ.2.2 hL).2.2 (a + x) (by omega)]; rw [hhs]; exact (hv_in (hal x (by omega))).1, by rw [hhs]; exact (hv_in (hal x (by omega))).2⟩
  refine lv_iload_n hx hb dX7_hours_5 rfl (lv_at hl 1 rfl) ?_
  refine xk_fi (va_runS (As := [.int (nI k)]) (rest := []) ⟨hx, hb, hml, hown, hts⟩ (k2_isSheet_t l hI (nI k) (xn_in (by omega) (by omega) (by omega))) (va_cwS 1 hts gX7_hours_X7_isSheet rfl rfl rfl (by decide +kernel) ⟨Nat.le_of_ble_eq_true rfl, Nat.le_of_ble_eq_true rfl⟩) (xk_preS X2_ok hK hX hP) rfl rfl hl.1 rfl (lv_room (Nat.le_of_ble_eq_true rfl)) dX7_hours_6 ⟨Nat.le_of_ble_eq_true rfl, Nat.le_of_ble_eq_true rfl⟩) hS (fun H locs hP hS => ?_)
  refine xn_zne (tgt := 14) hx hb dX7_hours_9 (by decide) (by omega) (fun c_9 => ?_) (fun c_9 => absurd c_9 (by omega))
  refine lv_iload_n hx hb dX7_hours_14 rfl (lv_at hl 2 rfl) ?_
  refine xk_fi (va_runS (As := [.int (nI w)]) (rest := []) ⟨hx, hb, hml, hown, hts⟩ (k2_isSort_t l hI (nI w) (xn_in (by omega) (by omega) (by omega))) (va_cwS 1 hts gX7_hours_X7_isSort rfl rfl rfl (by decide +kernel) ⟨Nat.le_of_ble_eq_true rfl, Nat.le_of_ble_eq_true rfl⟩) (xk_preS X2_ok hK hX hP) rfl rfl hl.1 rfl (lv_room (Nat.le_of_ble_eq_true rfl)) dX7_hours_15 ⟨Nat.le_of_ble_eq_true rfl, Nat.le_of_ble_eq_true rfl⟩) hS (fun H locs hP hS => ?_)
  refine xn_zeq (tgt := 43) hx hb dX7_hours_18 (by decide) (by omega) (fun c_18 => absurd c_18 (by omega)) (fun c_18 => ?_)
  refine lv_iload hx hb dX7_hours_21 (lv_at hl 5 rfl) ?_
  refine lv_iconst (v := nI 0) hx hb dX7_hours_23 (by decide) ?_
  refine lv_iconst (v := nI 2) hx hb dX7_hours_24 (by decide) ?_
  refine xk_fi (va_runS (As := [.int (nI 2), .int (nI 0), .int (nI 2)]) (rest := []) ⟨hx, hb, hml, hown, hts⟩ (k2_within_t l hI (nI 2) (nI 0) (nI 2) (xn_in (by omega) (by omega) (by omega))) (va_cwS 3 hts gX7_hours_X7_within rfl rfl rfl (by decide +kernel) ⟨Nat.le_of_ble_eq_true rfl, Nat.le_of_ble_eq_true rfl⟩) (xk_preS X2_ok hK hX hP) rfl rfl hl.1 rfl (lv_room (Nat.le_of_ble_eq_true rfl)) dX7_hours_25 ⟨Nat.le_of_ble_eq_true rfl, Nat.le_of_ble_eq_true rfl⟩) hS (fun H locs hP hS => ?_)
  refine xn_zne (tgt := 46) hx hb dX7_hours_28 (by decide) (by omega) (fun c_28 => ?_) (fun c_28 => absurd c_28 (by omega))
  refine lv_aload_n hx hb dX7_hours_46 rfl (lv_at hl 0 rfl) ?_
  refine lv_iload_n hx hb dX7_hours_47 rfl (lv_at hl 1 rfl) ?_
  refine lv_iload_n hx hb dX7_hours_48 rfl (lv_at hl 2 rfl) ?_
  refine lv_iload_n hx hb dX7_hours_49 rfl (lv_at hl 3 rfl) ?_
  refine lv_iload hx hb dX7_hours_50 (lv_at hl 4 rfl) ?_
  refine xk_fi (va_runV (As := [.int (nI k), .int (nI w), .int (nI a), .int (nI m)]) (rest := []) ⟨hx, hb, hml, hown, hts⟩ (k2_ag_ok l hI (w := w) hk4 hZ hw2 hLw ham) (cwV 4 hts gX7_hours_X7_against rfl rfl rfl (by decide +kernel) ⟨Nat.le_of_ble_eq_true rfl, Nat.le_of_ble_eq_true rfl⟩) (xk_preV X2_ok hK hX hP (xk_recv hK hP 0 (by omega) (ci := 7) e2_obj rfl)) rfl rfl hl.1 rfl (lv_room (Nat.le_of_ble_eq_true rfl)) dX7_hours_52 ⟨Nat.le_of_ble_eq_true rfl, Nat.le_of_ble_eq_true rfl⟩) hS (fun H locs hP hS => ?_)
  refine lv_istore (lv' := [(6, .int (nI 0)), (0, .ref (ad 0)), (1, .int (nI k)), (2, .int (nI w)), (3, .int (nI a)), (4, .int (nI m)), (5, .int (nI 2))]) hx hb dX7_hours_55 hl (by decide) rfl (fun ls hl => ?_)
  refine lv_iload hx hb dX7_hours_57 (lv_at hl 0 rfl) ?_
  refine xn_zeq (tgt := 69) hx hb dX7_hours_59 (by decide) (by omega) (fun c_59 => ?_) (fun c_59 => absurd c_59 (by omega))
  refine lv_aload_n hx hb dX7_hours_69 rfl (lv_at hl 1 rfl) ?_
  refine xk_get hx hb hts (inX7_hours_X7) hown hK hP 0 (by omega) (ci := 7) e2_obj rfl 6 (by decide) (flX7_hours_107 hts) rfl (.int (σ0 0 6)) rfl dX7_hours_70 ?_
  refine xn_eqi (y := nI p) hR.1 ?_
  refine xn_zne (tgt := 79) hx hb dX7_hours_73 (by decide) (by omega) (fun c_73 => ?_) (fun c_73 => absurd c_73 (by omega))
  refine lv_iload hx hb dX7_hours_79 (lv_at hl 5 rfl) ?_
  refine lv_aload_n hx hb dX7_hours_81 rfl (lv_at hl 1 rfl) ?_
  refine xk_get hx hb hts (inX7_hours_X7) hown hK hP 0 (by omega) (ci := 7) e2_obj rfl 7 (by decide) (flX7_hours_71 hts) rfl (.int (σ0 0 7)) rfl dX7_hours_82 ?_
  refine xn_eqi (y := nI n) hT.2.1 ?_
  refine xn_ieq (tgt := 91) hx hb dX7_hours_85 (by decide) (by omega) (by omega) (fun c_85 => ?_) (fun c_85 => absurd c_85 (by omega))
  refine lv_bipush (v := nI 60) hx hb dX7_hours_91 (by decide) ?_
  refine lv_iload_n hx hb dX7_hours_93 rfl (lv_at hl 2 rfl) ?_
  refine xn_imul hx hb dX7_hours_94 ?_
  refine lv_iload_n hx hb dX7_hours_95 rfl (lv_at hl 4 rfl) ?_
  refine xn_iadd hx hb dX7_hours_96 ?_
  refine lv_istore (lv' := [(7, .int (nI ((60 * k) + a))), (6, .int (nI 0)), (0, .ref (ad 0)), (1, .int (nI k)), (2, .int (nI w)), (3, .int (nI a)), (4, .int (nI m)), (5, .int (nI 2))]) hx hb dX7_hours_97 hl (by decide) rfl (fun ls hl => ?_)
  refine lv_iconst (v := nI 0) hx hb dX7_hours_99 (by decide) ?_
  refine lv_istore (lv' := [(8, .int (nI 0)), (7, .int (nI ((60 * k) + a))), (6, .int (nI 0)), (0, .ref (ad 0)), (1, .int (nI k)), (2, .int (nI w)), (3, .int (nI a)), (4, .int (nI m)), (5, .int (nI 2))]) hx hb dX7_hours_100 hl (by decide) rfl (fun ls hl => ?_)
  have LP_102 : ∀ (n_102 : Nat) (w8 : Nat), (w8 ≤ m) → (m - w8) < n_102 → ∀ (H : Heap) (locs : List Loc) (ls : Array Slot), va_P D vwCl (wl ad 18 (en2 ad ca σ0)) H → va_S (AA ad 18) sS.heap H locs → lv_has ls 9 [(0, .ref (ad 0)), (4, .int (nI m)), (5, .int (nI 2)), (7, .int (nI (60 * k + a))), (8, .int (nI w8))] → Wwi2 pP l eE { frames := 4, cells := 0, slots := 0, locals := 96 } sS mM [.ref (ad 0), .int (nI k), .int (nI w), .int (nI a), .int (nI m), .int (nI 2)] below meth cC D ca ad (fun r σ' => r = (bsy (fun k => cb (fun x => decide (ot p d g th hs x = nI k)) n) 5).1 ∧ I2 n p g rn d th rd sl sn sc (nI 0) tr σ') H locs (F0 mM 102 ls []) := by
    intro n_102
    induction n_102 with
    | zero =>
      intro w8 hqm hn_102
      exact absurd hn_102 (Nat.not_lt_zero _)
    | succ n_102 ih_102 =>
      intro w8 hqm hn_102 H locs ls hP hS hl
      refine lv_iload hx hb dX7_hours_102 (lv_at hl 4 rfl) ?_
      refine lv_iload hx hb dX7_hours_104 (lv_at hl 1 rfl) ?_
      refine xn_ige (tgt := 137) hx hb dX7_hours_106 (by decide) (by omega) (by omega) (fun c_106 => ?_) (fun c_106 => ?_)
      · refine lv_aload_n hx hb dX7_hours_137 rfl (lv_at hl 0 rfl) ?_
        refine lv_iload hx hb dX7_hours_138 (lv_at hl 3 rfl) ?_
        refine lv_iload hx hb dX7_hours_140 (lv_at hl 2 rfl) ?_
        refine xk_ci (va_runV (As := [.int (nI (60 * k + a)), .int (nI 2)]) (rest := []) ⟨hx, hb, hml, hown, hts⟩ (k2_tellH_2 l hI (F := 60 * k + a) (hh := hs) hT hR hp0 (by omega) hcc) (cwV 2 hts gX7_hours_X7_tellHours rfl rfl rfl (by decide +kernel) ⟨Nat.le_of_ble_eq_true rfl, Nat.le_of_ble_eq_true rfl⟩) (xk_preV X2_ok hK hX hP (xk_recv hK hP 0 (by omega) (ci := 7) e2_obj rfl)) rfl rfl hl.1 rfl (lv_room (Nat.le_of_ble_eq_true rfl)) dX7_hours_142 ⟨Nat.le_of_ble_eq_true rfl, Nat.le_of_ble_eq_true rfl⟩) hS (fun r142 τ142 H locs hp hP hS => ?_)
        obtain ⟨rfl, hFm⟩ := hp
        exact xk_iret hx hb hr (vp_nar_int _) X2_ok hK hX hP hS hlk dX7_hours_145 (⟨rfl, I2_fr hJ0 hFm⟩)
      · refine lv_aload_n hx hb dX7_hours_109 rfl (lv_at hl 0 rfl) ?_
        refine xk_get hx hb hts (inX7_hours_X7) hown hK hP 0 (by omega) (ci := 7) e2_obj rfl 4 (by decide) (flX7_hours_16 hts) rfl (.ref (ad 3)) rfl dX7_hours_110 ?_
        refine lv_iload hx hb dX7_hours_113 (lv_at hl 3 rfl) ?_
        refine lv_iload hx hb dX7_hours_115 (lv_at hl 4 rfl) ?_
        refine xn_iadd hx hb dX7_hours_117 ?_
        refine xk_iald hx hb hK hP 3 (by omega) (n := 240) (e2_row 240 (by decide) rfl) rfl ((60 * k + a) + w8) (by omega) (by decide) dX7_hours_118 ?_
        refine xn_eqi (y := sc k (a + w8)) (by rw [Nat.add_assoc]; exact (hZ.2.2 hL).2.2 (a + w8) (by omega)) ?_
        refine lv_iconst (v := nI 0) hx hb dX7_hours_119 (by decide) ?_
        refine lv_bipush (v := nI 23) hx hb dX7_hours_120 (by decide) ?_
        refine xk_fi (va_runS (As := [.int (sc k (a + w8)), .int (nI 0), .int (nI 23)]) (rest := []) ⟨hx, hb, hml, hown, hts⟩ (k2_within_t l hI (sc k (a + w8)) (nI 0) (nI 23) (hal w8 (by omega))) (va_cwS 3 hts gX7_hours_X7_within rfl rfl rfl (by decide +kernel) ⟨Nat.le_of_ble_eq_true rfl, Nat.le_of_ble_eq_true rfl⟩) (xk_preS X2_ok hK hX hP) rfl rfl hl.1 rfl (lv_room (Nat.le_of_ble_eq_true rfl)) dX7_hours_122 ⟨Nat.le_of_ble_eq_true rfl, Nat.le_of_ble_eq_true rfl⟩) hS (fun H locs hP hS => ?_)
        refine xn_zne (tgt := 131) hx hb dX7_hours_125 (by decide) (by omega) (fun c_125 => ?_) (fun c_125 => absurd c_125 (by omega))
        refine lv_iinc (v := nI (w8 + 1)) (lv' := [(8, .int (nI (w8 + 1))), (0, .ref (ad 0)), (4, .int (nI m)), (5, .int (nI 2)), (7, .int (nI (60 * k + a)))]) hx hb dX7_hours_131 hl (k := 4) rfl (xn_inc _ 1) (by decide) rfl (fun ls hl => ?_)
        refine lv_goto (tgt := 102) hx hb dX7_hours_134 (by decide) ?_
        exact ih_102 (w8 + 1) (by omega) (by omega) _ _ _ hP hS (lv_sub hl [1, 2, 3, 4, 0] rfl)
  exact LP_102 _ 0 (by omega) (Nat.lt_succ_self _) _ _ _ hP hS (lv_sub hl [3, 7, 8, 1, 0] rfl)

set_option maxHeartbeats 4000000 in
set_option maxRecDepth 100000 in
theorem a2_hours_y (l : Launch) {D : va_G} {ca : Nat → ClassId} {ad : Nat → Nat} (hI : Ij ad 18) {σ : Sg} {n p g rn : Nat} {d : Nat → Nat} {th rd : Nat → Nat → Nat} {sl sn : Nat → Nat} {sc : Nat → Nat → Int32} {ft tr : Int32} {k : Nat} {w : Nat} {a m : Nat} {y : Nat} (hJ : I2 n p g rn d th rd sl sn sc ft tr σ) (hk4 : k < 4) (hw2 : w ≤ 2) (hLw : sl k = w) (ham : a + m ≤ sn k) (hn0 : 0 < n) (hmn : m = n) (hal : ∀ x, x < m → nI 0 ≤ sc k (a + x) ∧ sc k (a + x) ≤ nI 23) (hyn : y < n) : C2i l D ca ad yX7_hours wsX7_hours { frames := 4, cells := 0, slots := 0, locals := 96 } [.ref (ad 0), .int (nI k), .int (nI w), .int (nI a), .int (nI m), .int (nI (10 + y))] σ (fun r σ' => r = ot p d g th (fun x => hv (sc k (a + x))) y ∧ I2 n p g rn d th rd sl sn sc (nI 0) tr σ') := by
  refine xk_entry cX7_hours 9 (some .int) (by decide) rfl (Nat.le_of_ble_eq_true rfl) ?_
  intro pP eE sS mM below meth cC hx hb hml hr hts hown hlk hP hK hX hS ls hl
  have hl : lv_has ls 9 [(0, .ref (ad 0)), (1, .int (nI k)), (2, .int (nI w)), (3, .int (nI a)), (4, .int (nI m)), (5, .int (nI (10 + y)))] := hl
  obtain ⟨hT, hR, hRd, hSh, hnp, hft, htr⟩ := id hJ
  have hn5 := hT.2.2.1
  have hg9 := hT.2.2.2.1
  have hp6 := hR.2.1
  have hrn8 := hRd.2.1
  have hp0 : 0 < p := hnp.mp (by omega)
  refine lv_aload_n hx hb dX7_hours_0 rfl (lv_at hl 0 rfl) ?_
  refine lv_iconst (v := nI 0) hx hb dX7_hours_1 (by decide) ?_
  refine xk_put hx hb hts (inX7_hours_X7) tyX7 tyX7_ok nmX7 hown hK hI hP hS 0 (by omega) (ci := 7) e2_obj rfl 0 (by decide) (flX7_hours_61 hts) rfl rfl (by decide +kernel) (Nat.le_of_ble_eq_true rfl) e2_loc (by rw [e2_obj]; simp [up]) dX7_hours_2 (fun H locs hP hS => ?_)
  obtain ⟨σ0, hσ0⟩ : ∃ τ, τ = up σ 0 0 (nI 0) := ⟨_, rfl⟩
  rw [← hσ0] at hP
  have hJ0 : I2 n p g rn d th rd sl sn sc (nI 0) tr σ0 := by rw [hσ0]; exact I2_ft hJ
  obtain ⟨hT, hR, hRd, hSh, -, hft, htr⟩ := id hJ0
  have hZ := hSh k hk4
  have hz60 : sl k < 3 → sn k ≤ 60 := fun q => (hZ.2.2 q).2.1
  have hL : sl k < 3 := by omega
  have hk60 := hz60 hL
  have hp0 : 0 < p := hnp.mp hn0
  have hcc : ∀ x, x < n → σ0 3 (60 * k + a + x) = nI ((fun x => hv (sc k (a + x))) x) ∧ (fun x => hv (sc k (a + x))) x ≤ 23 := fun x hx => ⟨by rw [Nat.add_assoc, (hZ.2.2 hL).2.2 (a + x) (by omega)]; exact (hv_in (hal x (by omega))).1, by exact (hv_in (hal x (by omega))).2⟩
  refine lv_iload_n hx hb dX7_hours_5 rfl (lv_at hl 1 rfl) ?_
  refine xk_fi (va_runS (As := [.int (nI k)]) (rest := []) ⟨hx, hb, hml, hown, hts⟩ (k2_isSheet_t l hI (nI k) (xn_in (by omega) (by omega) (by omega))) (va_cwS 1 hts gX7_hours_X7_isSheet rfl rfl rfl (by decide +kernel) ⟨Nat.le_of_ble_eq_true rfl, Nat.le_of_ble_eq_true rfl⟩) (xk_preS X2_ok hK hX hP) rfl rfl hl.1 rfl (lv_room (Nat.le_of_ble_eq_true rfl)) dX7_hours_6 ⟨Nat.le_of_ble_eq_true rfl, Nat.le_of_ble_eq_true rfl⟩) hS (fun H locs hP hS => ?_)
  refine xn_zne (tgt := 14) hx hb dX7_hours_9 (by decide) (by omega) (fun c_9 => ?_) (fun c_9 => absurd c_9 (by omega))
  refine lv_iload_n hx hb dX7_hours_14 rfl (lv_at hl 2 rfl) ?_
  refine xk_fi (va_runS (As := [.int (nI w)]) (rest := []) ⟨hx, hb, hml, hown, hts⟩ (k2_isSort_t l hI (nI w) (xn_in (by omega) (by omega) (by omega))) (va_cwS 1 hts gX7_hours_X7_isSort rfl rfl rfl (by decide +kernel) ⟨Nat.le_of_ble_eq_true rfl, Nat.le_of_ble_eq_true rfl⟩) (xk_preS X2_ok hK hX hP) rfl rfl hl.1 rfl (lv_room (Nat.le_of_ble_eq_true rfl)) dX7_hours_15 ⟨Nat.le_of_ble_eq_true rfl, Nat.le_of_ble_eq_true rfl⟩) hS (fun H locs hP hS => ?_)
  refine xn_zeq (tgt := 43) hx hb dX7_hours_18 (by decide) (by omega) (fun c_18 => absurd c_18 (by omega)) (fun c_18 => ?_)
  refine lv_iload hx hb dX7_hours_21 (lv_at hl 5 rfl) ?_
  refine lv_iconst (v := nI 0) hx hb dX7_hours_23 (by decide) ?_
  refine lv_iconst (v := nI 2) hx hb dX7_hours_24 (by decide) ?_
  refine xk_fi (va_runS (As := [.int (nI (10 + y)), .int (nI 0), .int (nI 2)]) (rest := []) ⟨hx, hb, hml, hown, hts⟩ (k2_within_f l hI (nI (10 + y)) (nI 0) (nI 2) (xn_out (by omega) (by omega) (by omega) (by omega))) (va_cwS 3 hts gX7_hours_X7_within rfl rfl rfl (by decide +kernel) ⟨Nat.le_of_ble_eq_true rfl, Nat.le_of_ble_eq_true rfl⟩) (xk_preS X2_ok hK hX hP) rfl rfl hl.1 rfl (lv_room (Nat.le_of_ble_eq_true rfl)) dX7_hours_25 ⟨Nat.le_of_ble_eq_true rfl, Nat.le_of_ble_eq_true rfl⟩) hS (fun H locs hP hS => ?_)
  refine xn_zne (tgt := 46) hx hb dX7_hours_28 (by decide) (by omega) (fun c_28 => absurd c_28 (by omega)) (fun c_28 => ?_)
  refine lv_iload hx hb dX7_hours_31 (lv_at hl 5 rfl) ?_
  refine lv_bipush (v := nI 10) hx hb dX7_hours_33 (by decide) ?_
  refine lv_bipush (v := nI 14) hx hb dX7_hours_35 (by decide) ?_
  refine xk_fi (va_runS (As := [.int (nI (10 + y)), .int (nI 10), .int (nI 14)]) (rest := []) ⟨hx, hb, hml, hown, hts⟩ (k2_within_t l hI (nI (10 + y)) (nI 10) (nI 14) (xn_in (by omega) (by omega) (by omega))) (va_cwS 3 hts gX7_hours_X7_within rfl rfl rfl (by decide +kernel) ⟨Nat.le_of_ble_eq_true rfl, Nat.le_of_ble_eq_true rfl⟩) (xk_preS X2_ok hK hX hP) rfl rfl hl.1 rfl (lv_room (Nat.le_of_ble_eq_true rfl)) dX7_hours_37 ⟨Nat.le_of_ble_eq_true rfl, Nat.le_of_ble_eq_true rfl⟩) hS (fun H locs hP hS => ?_)
  refine xn_zne (tgt := 46) hx hb dX7_hours_40 (by decide) (by omega) (fun c_40 => ?_) (fun c_40 => absurd c_40 (by omega))
  refine lv_aload_n hx hb dX7_hours_46 rfl (lv_at hl 0 rfl) ?_
  refine lv_iload_n hx hb dX7_hours_47 rfl (lv_at hl 1 rfl) ?_
  refine lv_iload_n hx hb dX7_hours_48 rfl (lv_at hl 2 rfl) ?_
  refine lv_iload_n hx hb dX7_hours_49 rfl (lv_at hl 3 rfl) ?_
  refine lv_iload hx hb dX7_hours_50 (lv_at hl 4 rfl) ?_
  refine xk_fi (va_runV (As := [.int (nI k), .int (nI w), .int (nI a), .int (nI m)]) (rest := []) ⟨hx, hb, hml, hown, hts⟩ (k2_ag_ok l hI (w := w) hk4 hZ hw2 hLw ham) (cwV 4 hts gX7_hours_X7_against rfl rfl rfl (by decide +kernel) ⟨Nat.le_of_ble_eq_true rfl, Nat.le_of_ble_eq_true rfl⟩) (xk_preV X2_ok hK hX hP (xk_recv hK hP 0 (by omega) (ci := 7) e2_obj rfl)) rfl rfl hl.1 rfl (lv_room (Nat.le_of_ble_eq_true rfl)) dX7_hours_52 ⟨Nat.le_of_ble_eq_true rfl, Nat.le_of_ble_eq_true rfl⟩) hS (fun H locs hP hS => ?_)
  refine lv_istore (lv' := [(6, .int (nI 0)), (0, .ref (ad 0)), (1, .int (nI k)), (2, .int (nI w)), (3, .int (nI a)), (4, .int (nI m)), (5, .int (nI (10 + y)))]) hx hb dX7_hours_55 hl (by decide) rfl (fun ls hl => ?_)
  refine lv_iload hx hb dX7_hours_57 (lv_at hl 0 rfl) ?_
  refine xn_zeq (tgt := 69) hx hb dX7_hours_59 (by decide) (by omega) (fun c_59 => ?_) (fun c_59 => absurd c_59 (by omega))
  refine lv_aload_n hx hb dX7_hours_69 rfl (lv_at hl 1 rfl) ?_
  refine xk_get hx hb hts (inX7_hours_X7) hown hK hP 0 (by omega) (ci := 7) e2_obj rfl 6 (by decide) (flX7_hours_107 hts) rfl (.int (σ0 0 6)) rfl dX7_hours_70 ?_
  refine xn_eqi (y := nI p) hR.1 ?_
  refine xn_zne (tgt := 79) hx hb dX7_hours_73 (by decide) (by omega) (fun c_73 => ?_) (fun c_73 => absurd c_73 (by omega))
  refine lv_iload hx hb dX7_hours_79 (lv_at hl 5 rfl) ?_
  refine lv_aload_n hx hb dX7_hours_81 rfl (lv_at hl 1 rfl) ?_
  refine xk_get hx hb hts (inX7_hours_X7) hown hK hP 0 (by omega) (ci := 7) e2_obj rfl 7 (by decide) (flX7_hours_71 hts) rfl (.int (σ0 0 7)) rfl dX7_hours_82 ?_
  refine xn_eqi (y := nI n) hT.2.1 ?_
  refine xn_ieq (tgt := 91) hx hb dX7_hours_85 (by decide) (by omega) (by omega) (fun c_85 => ?_) (fun c_85 => absurd c_85 (by omega))
  refine lv_bipush (v := nI 60) hx hb dX7_hours_91 (by decide) ?_
  refine lv_iload_n hx hb dX7_hours_93 rfl (lv_at hl 2 rfl) ?_
  refine xn_imul hx hb dX7_hours_94 ?_
  refine lv_iload_n hx hb dX7_hours_95 rfl (lv_at hl 4 rfl) ?_
  refine xn_iadd hx hb dX7_hours_96 ?_
  refine lv_istore (lv' := [(7, .int (nI ((60 * k) + a))), (6, .int (nI 0)), (0, .ref (ad 0)), (1, .int (nI k)), (2, .int (nI w)), (3, .int (nI a)), (4, .int (nI m)), (5, .int (nI (10 + y)))]) hx hb dX7_hours_97 hl (by decide) rfl (fun ls hl => ?_)
  refine lv_iconst (v := nI 0) hx hb dX7_hours_99 (by decide) ?_
  refine lv_istore (lv' := [(8, .int (nI 0)), (7, .int (nI ((60 * k) + a))), (6, .int (nI 0)), (0, .ref (ad 0)), (1, .int (nI k)), (2, .int (nI w)), (3, .int (nI a)), (4, .int (nI m)), (5, .int (nI (10 + y)))]) hx hb dX7_hours_100 hl (by decide) rfl (fun ls hl => ?_)
  have LP_102 : ∀ (n_102 : Nat) (w8 : Nat), (w8 ≤ m) → (m - w8) < n_102 → ∀ (H : Heap) (locs : List Loc) (ls : Array Slot), va_P D vwCl (wl ad 18 (en2 ad ca σ0)) H → va_S (AA ad 18) sS.heap H locs → lv_has ls 9 [(0, .ref (ad 0)), (4, .int (nI m)), (5, .int (nI (10 + y))), (7, .int (nI (60 * k + a))), (8, .int (nI w8))] → Wwi2 pP l eE { frames := 4, cells := 0, slots := 0, locals := 96 } sS mM [.ref (ad 0), .int (nI k), .int (nI w), .int (nI a), .int (nI m), .int (nI (10 + y))] below meth cC D ca ad (fun r σ' => r = ot p d g th (fun x => hv (sc k (a + x))) y ∧ I2 n p g rn d th rd sl sn sc (nI 0) tr σ') H locs (F0 mM 102 ls []) := by
    intro n_102
    induction n_102 with
    | zero =>
      intro w8 hqm hn_102
      exact absurd hn_102 (Nat.not_lt_zero _)
    | succ n_102 ih_102 =>
      intro w8 hqm hn_102 H locs ls hP hS hl
      refine lv_iload hx hb dX7_hours_102 (lv_at hl 4 rfl) ?_
      refine lv_iload hx hb dX7_hours_104 (lv_at hl 1 rfl) ?_
      refine xn_ige (tgt := 137) hx hb dX7_hours_106 (by decide) (by omega) (by omega) (fun c_106 => ?_) (fun c_106 => ?_)
      · refine lv_aload_n hx hb dX7_hours_137 rfl (lv_at hl 0 rfl) ?_
        refine lv_iload hx hb dX7_hours_138 (lv_at hl 3 rfl) ?_
        refine lv_iload hx hb dX7_hours_140 (lv_at hl 2 rfl) ?_
        refine xk_ci (va_runV (As := [.int (nI (60 * k + a)), .int (nI (10 + y))]) (rest := []) ⟨hx, hb, hml, hown, hts⟩ (k2_tellH_y l hI (F := 60 * k + a) (hh := (fun x => hv (sc k (a + x)))) (y := y) hT hR hp0 (by omega) hcc hyn) (cwV 2 hts gX7_hours_X7_tellHours rfl rfl rfl (by decide +kernel) ⟨Nat.le_of_ble_eq_true rfl, Nat.le_of_ble_eq_true rfl⟩) (xk_preV X2_ok hK hX hP (xk_recv hK hP 0 (by omega) (ci := 7) e2_obj rfl)) rfl rfl hl.1 rfl (lv_room (Nat.le_of_ble_eq_true rfl)) dX7_hours_142 ⟨Nat.le_of_ble_eq_true rfl, Nat.le_of_ble_eq_true rfl⟩) hS (fun r142 τ142 H locs hp hP hS => ?_)
        obtain ⟨rfl, hFm⟩ := hp
        exact xk_iret hx hb hr (vp_nar_int _) X2_ok hK hX hP hS hlk dX7_hours_145 (⟨rfl, I2_fr hJ0 hFm⟩)
      · refine lv_aload_n hx hb dX7_hours_109 rfl (lv_at hl 0 rfl) ?_
        refine xk_get hx hb hts (inX7_hours_X7) hown hK hP 0 (by omega) (ci := 7) e2_obj rfl 4 (by decide) (flX7_hours_16 hts) rfl (.ref (ad 3)) rfl dX7_hours_110 ?_
        refine lv_iload hx hb dX7_hours_113 (lv_at hl 3 rfl) ?_
        refine lv_iload hx hb dX7_hours_115 (lv_at hl 4 rfl) ?_
        refine xn_iadd hx hb dX7_hours_117 ?_
        refine xk_iald hx hb hK hP 3 (by omega) (n := 240) (e2_row 240 (by decide) rfl) rfl ((60 * k + a) + w8) (by omega) (by decide) dX7_hours_118 ?_
        refine xn_eqi (y := sc k (a + w8)) (by rw [Nat.add_assoc]; exact (hZ.2.2 hL).2.2 (a + w8) (by omega)) ?_
        refine lv_iconst (v := nI 0) hx hb dX7_hours_119 (by decide) ?_
        refine lv_bipush (v := nI 23) hx hb dX7_hours_120 (by decide) ?_
        refine xk_fi (va_runS (As := [.int (sc k (a + w8)), .int (nI 0), .int (nI 23)]) (rest := []) ⟨hx, hb, hml, hown, hts⟩ (k2_within_t l hI (sc k (a + w8)) (nI 0) (nI 23) (hal w8 (by omega))) (va_cwS 3 hts gX7_hours_X7_within rfl rfl rfl (by decide +kernel) ⟨Nat.le_of_ble_eq_true rfl, Nat.le_of_ble_eq_true rfl⟩) (xk_preS X2_ok hK hX hP) rfl rfl hl.1 rfl (lv_room (Nat.le_of_ble_eq_true rfl)) dX7_hours_122 ⟨Nat.le_of_ble_eq_true rfl, Nat.le_of_ble_eq_true rfl⟩) hS (fun H locs hP hS => ?_)
        refine xn_zne (tgt := 131) hx hb dX7_hours_125 (by decide) (by omega) (fun c_125 => ?_) (fun c_125 => absurd c_125 (by omega))
        refine lv_iinc (v := nI (w8 + 1)) (lv' := [(8, .int (nI (w8 + 1))), (0, .ref (ad 0)), (4, .int (nI m)), (5, .int (nI (10 + y))), (7, .int (nI (60 * k + a)))]) hx hb dX7_hours_131 hl (k := 4) rfl (xn_inc _ 1) (by decide) rfl (fun ls hl => ?_)
        refine lv_goto (tgt := 102) hx hb dX7_hours_134 (by decide) ?_
        exact ih_102 (w8 + 1) (by omega) (by omega) _ _ _ hP hS (lv_sub hl [1, 2, 3, 4, 0] rfl)
  exact LP_102 _ 0 (by omega) (Nat.lt_succ_self _) _ _ _ hP hS (lv_sub hl [3, 7, 8, 1, 0] rfl)

set_option maxHeartbeats 4000000 in
set_option maxRecDepth 100000 in
theorem a2_hours_yo (l : Launch) {D : va_G} {ca : Nat → ClassId} {ad : Nat → Nat} (hI : Ij ad 18) {σ : Sg} {n p g rn : Nat} {d : Nat → Nat} {th rd : Nat → Nat → Nat} {sl sn : Nat → Nat} {sc : Nat → Nat → Int32} {ft tr : Int32} {k : Nat} {w : Nat} {a m : Nat} {y : Nat} (hJ : I2 n p g rn d th rd sl sn sc ft tr σ) (hk4 : k < 4) (hw2 : w ≤ 2) (hLw : sl k = w) (ham : a + m ≤ sn k) (hn0 : 0 < n) (hmn : m = n) (hal : ∀ x, x < m → nI 0 ≤ sc k (a + x) ∧ sc k (a + x) ≤ nI 23) (hyn : n ≤ y) (hy4 : y ≤ 4) : C2i l D ca ad yX7_hours wsX7_hours { frames := 4, cells := 0, slots := 0, locals := 96 } [.ref (ad 0), .int (nI k), .int (nI w), .int (nI a), .int (nI m), .int (nI (10 + y))] σ (fun r σ' => r = -9 ∧ I2 n p g rn d th rd sl sn sc (nI 0) tr σ') := by
  refine xk_entry cX7_hours 9 (some .int) (by decide) rfl (Nat.le_of_ble_eq_true rfl) ?_
  intro pP eE sS mM below meth cC hx hb hml hr hts hown hlk hP hK hX hS ls hl
  have hl : lv_has ls 9 [(0, .ref (ad 0)), (1, .int (nI k)), (2, .int (nI w)), (3, .int (nI a)), (4, .int (nI m)), (5, .int (nI (10 + y)))] := hl
  obtain ⟨hT, hR, hRd, hSh, hnp, hft, htr⟩ := id hJ
  have hn5 := hT.2.2.1
  have hg9 := hT.2.2.2.1
  have hp6 := hR.2.1
  have hrn8 := hRd.2.1
  have hp0 : 0 < p := hnp.mp (by omega)
  refine lv_aload_n hx hb dX7_hours_0 rfl (lv_at hl 0 rfl) ?_
  refine lv_iconst (v := nI 0) hx hb dX7_hours_1 (by decide) ?_
  refine xk_put hx hb hts (inX7_hours_X7) tyX7 tyX7_ok nmX7 hown hK hI hP hS 0 (by omega) (ci := 7) e2_obj rfl 0 (by decide) (flX7_hours_61 hts) rfl rfl (by decide +kernel) (Nat.le_of_ble_eq_true rfl) e2_loc (by rw [e2_obj]; simp [up]) dX7_hours_2 (fun H locs hP hS => ?_)
  obtain ⟨σ0, hσ0⟩ : ∃ τ, τ = up σ 0 0 (nI 0) := ⟨_, rfl⟩
  rw [← hσ0] at hP
  have hJ0 : I2 n p g rn d th rd sl sn sc (nI 0) tr σ0 := by rw [hσ0]; exact I2_ft hJ
  obtain ⟨hT, hR, hRd, hSh, -, hft, htr⟩ := id hJ0
  have hZ := hSh k hk4
  have hz60 : sl k < 3 → sn k ≤ 60 := fun q => (hZ.2.2 q).2.1
  have hL : sl k < 3 := by omega
  have hk60 := hz60 hL
  have hp0 : 0 < p := hnp.mp hn0
  have hcc : ∀ x, x < n → σ0 3 (60 * k + a + x) = nI ((fun x => hv (sc k (a + x))) x) ∧ (fun x => hv (sc k (a + x))) x ≤ 23 := fun x hx => ⟨by rw [Nat.add_assoc, (hZ.2.2 hL).2.2 (a + x) (by omega)]; exact (hv_in (hal x (by omega))).1, by exact (hv_in (hal x (by omega))).2⟩
  refine lv_iload_n hx hb dX7_hours_5 rfl (lv_at hl 1 rfl) ?_
  refine xk_fi (va_runS (As := [.int (nI k)]) (rest := []) ⟨hx, hb, hml, hown, hts⟩ (k2_isSheet_t l hI (nI k) (xn_in (by omega) (by omega) (by omega))) (va_cwS 1 hts gX7_hours_X7_isSheet rfl rfl rfl (by decide +kernel) ⟨Nat.le_of_ble_eq_true rfl, Nat.le_of_ble_eq_true rfl⟩) (xk_preS X2_ok hK hX hP) rfl rfl hl.1 rfl (lv_room (Nat.le_of_ble_eq_true rfl)) dX7_hours_6 ⟨Nat.le_of_ble_eq_true rfl, Nat.le_of_ble_eq_true rfl⟩) hS (fun H locs hP hS => ?_)
  refine xn_zne (tgt := 14) hx hb dX7_hours_9 (by decide) (by omega) (fun c_9 => ?_) (fun c_9 => absurd c_9 (by omega))
  refine lv_iload_n hx hb dX7_hours_14 rfl (lv_at hl 2 rfl) ?_
  refine xk_fi (va_runS (As := [.int (nI w)]) (rest := []) ⟨hx, hb, hml, hown, hts⟩ (k2_isSort_t l hI (nI w) (xn_in (by omega) (by omega) (by omega))) (va_cwS 1 hts gX7_hours_X7_isSort rfl rfl rfl (by decide +kernel) ⟨Nat.le_of_ble_eq_true rfl, Nat.le_of_ble_eq_true rfl⟩) (xk_preS X2_ok hK hX hP) rfl rfl hl.1 rfl (lv_room (Nat.le_of_ble_eq_true rfl)) dX7_hours_15 ⟨Nat.le_of_ble_eq_true rfl, Nat.le_of_ble_eq_true rfl⟩) hS (fun H locs hP hS => ?_)
  refine xn_zeq (tgt := 43) hx hb dX7_hours_18 (by decide) (by omega) (fun c_18 => absurd c_18 (by omega)) (fun c_18 => ?_)
  refine lv_iload hx hb dX7_hours_21 (lv_at hl 5 rfl) ?_
  refine lv_iconst (v := nI 0) hx hb dX7_hours_23 (by decide) ?_
  refine lv_iconst (v := nI 2) hx hb dX7_hours_24 (by decide) ?_
  refine xk_fi (va_runS (As := [.int (nI (10 + y)), .int (nI 0), .int (nI 2)]) (rest := []) ⟨hx, hb, hml, hown, hts⟩ (k2_within_f l hI (nI (10 + y)) (nI 0) (nI 2) (xn_out (by omega) (by omega) (by omega) (by omega))) (va_cwS 3 hts gX7_hours_X7_within rfl rfl rfl (by decide +kernel) ⟨Nat.le_of_ble_eq_true rfl, Nat.le_of_ble_eq_true rfl⟩) (xk_preS X2_ok hK hX hP) rfl rfl hl.1 rfl (lv_room (Nat.le_of_ble_eq_true rfl)) dX7_hours_25 ⟨Nat.le_of_ble_eq_true rfl, Nat.le_of_ble_eq_true rfl⟩) hS (fun H locs hP hS => ?_)
  refine xn_zne (tgt := 46) hx hb dX7_hours_28 (by decide) (by omega) (fun c_28 => absurd c_28 (by omega)) (fun c_28 => ?_)
  refine lv_iload hx hb dX7_hours_31 (lv_at hl 5 rfl) ?_
  refine lv_bipush (v := nI 10) hx hb dX7_hours_33 (by decide) ?_
  refine lv_bipush (v := nI 14) hx hb dX7_hours_35 (by decide) ?_
  refine xk_fi (va_runS (As := [.int (nI (10 + y)), .int (nI 10), .int (nI 14)]) (rest := []) ⟨hx, hb, hml, hown, hts⟩ (k2_within_t l hI (nI (10 + y)) (nI 10) (nI 14) (xn_in (by omega) (by omega) (by omega))) (va_cwS 3 hts gX7_hours_X7_within rfl rfl rfl (by decide +kernel) ⟨Nat.le_of_ble_eq_true rfl, Nat.le_of_ble_eq_true rfl⟩) (xk_preS X2_ok hK hX hP) rfl rfl hl.1 rfl (lv_room (Nat.le_of_ble_eq_true rfl)) dX7_hours_37 ⟨Nat.le_of_ble_eq_true rfl, Nat.le_of_ble_eq_true rfl⟩) hS (fun H locs hP hS => ?_)
  refine xn_zne (tgt := 46) hx hb dX7_hours_40 (by decide) (by omega) (fun c_40 => ?_) (fun c_40 => absurd c_40 (by omega))
  refine lv_aload_n hx hb dX7_hours_46 rfl (lv_at hl 0 rfl) ?_
  refine lv_iload_n hx hb dX7_hours_47 rfl (lv_at hl 1 rfl) ?_
  refine lv_iload_n hx hb dX7_hours_48 rfl (lv_at hl 2 rfl) ?_
  refine lv_iload_n hx hb dX7_hours_49 rfl (lv_at hl 3 rfl) ?_
  refine lv_iload hx hb dX7_hours_50 (lv_at hl 4 rfl) ?_
  refine xk_fi (va_runV (As := [.int (nI k), .int (nI w), .int (nI a), .int (nI m)]) (rest := []) ⟨hx, hb, hml, hown, hts⟩ (k2_ag_ok l hI (w := w) hk4 hZ hw2 hLw ham) (cwV 4 hts gX7_hours_X7_against rfl rfl rfl (by decide +kernel) ⟨Nat.le_of_ble_eq_true rfl, Nat.le_of_ble_eq_true rfl⟩) (xk_preV X2_ok hK hX hP (xk_recv hK hP 0 (by omega) (ci := 7) e2_obj rfl)) rfl rfl hl.1 rfl (lv_room (Nat.le_of_ble_eq_true rfl)) dX7_hours_52 ⟨Nat.le_of_ble_eq_true rfl, Nat.le_of_ble_eq_true rfl⟩) hS (fun H locs hP hS => ?_)
  refine lv_istore (lv' := [(6, .int (nI 0)), (0, .ref (ad 0)), (1, .int (nI k)), (2, .int (nI w)), (3, .int (nI a)), (4, .int (nI m)), (5, .int (nI (10 + y)))]) hx hb dX7_hours_55 hl (by decide) rfl (fun ls hl => ?_)
  refine lv_iload hx hb dX7_hours_57 (lv_at hl 0 rfl) ?_
  refine xn_zeq (tgt := 69) hx hb dX7_hours_59 (by decide) (by omega) (fun c_59 => ?_) (fun c_59 => absurd c_59 (by omega))
  refine lv_aload_n hx hb dX7_hours_69 rfl (lv_at hl 1 rfl) ?_
  refine xk_get hx hb hts (inX7_hours_X7) hown hK hP 0 (by omega) (ci := 7) e2_obj rfl 6 (by decide) (flX7_hours_107 hts) rfl (.int (σ0 0 6)) rfl dX7_hours_70 ?_
  refine xn_eqi (y := nI p) hR.1 ?_
  refine xn_zne (tgt := 79) hx hb dX7_hours_73 (by decide) (by omega) (fun c_73 => ?_) (fun c_73 => absurd c_73 (by omega))
  refine lv_iload hx hb dX7_hours_79 (lv_at hl 5 rfl) ?_
  refine lv_aload_n hx hb dX7_hours_81 rfl (lv_at hl 1 rfl) ?_
  refine xk_get hx hb hts (inX7_hours_X7) hown hK hP 0 (by omega) (ci := 7) e2_obj rfl 7 (by decide) (flX7_hours_71 hts) rfl (.int (σ0 0 7)) rfl dX7_hours_82 ?_
  refine xn_eqi (y := nI n) hT.2.1 ?_
  refine xn_ieq (tgt := 91) hx hb dX7_hours_85 (by decide) (by omega) (by omega) (fun c_85 => ?_) (fun c_85 => absurd c_85 (by omega))
  refine lv_bipush (v := nI 60) hx hb dX7_hours_91 (by decide) ?_
  refine lv_iload_n hx hb dX7_hours_93 rfl (lv_at hl 2 rfl) ?_
  refine xn_imul hx hb dX7_hours_94 ?_
  refine lv_iload_n hx hb dX7_hours_95 rfl (lv_at hl 4 rfl) ?_
  refine xn_iadd hx hb dX7_hours_96 ?_
  refine lv_istore (lv' := [(7, .int (nI ((60 * k) + a))), (6, .int (nI 0)), (0, .ref (ad 0)), (1, .int (nI k)), (2, .int (nI w)), (3, .int (nI a)), (4, .int (nI m)), (5, .int (nI (10 + y)))]) hx hb dX7_hours_97 hl (by decide) rfl (fun ls hl => ?_)
  refine lv_iconst (v := nI 0) hx hb dX7_hours_99 (by decide) ?_
  refine lv_istore (lv' := [(8, .int (nI 0)), (7, .int (nI ((60 * k) + a))), (6, .int (nI 0)), (0, .ref (ad 0)), (1, .int (nI k)), (2, .int (nI w)), (3, .int (nI a)), (4, .int (nI m)), (5, .int (nI (10 + y)))]) hx hb dX7_hours_100 hl (by decide) rfl (fun ls hl => ?_)
  have LP_102 : ∀ (n_102 : Nat) (w8 : Nat), (w8 ≤ m) → (m - w8) < n_102 → ∀ (H : Heap) (locs : List Loc) (ls : Array Slot), va_P D vwCl (wl ad 18 (en2 ad ca σ0)) H → va_S (AA ad 18) sS.heap H locs → lv_has ls 9 [(0, .ref (ad 0)), (4, .int (nI m)), (5, .int (nI (10 + y))), (7, .int (nI (60 * k + a))), (8, .int (nI w8))] → Wwi2 pP l eE { frames := 4, cells := 0, slots := 0, locals := 96 } sS mM [.ref (ad 0), .int (nI k), .int (nI w), .int (nI a), .int (nI m), .int (nI (10 + y))] below meth cC D ca ad (fun r σ' => r = -9 ∧ I2 n p g rn d th rd sl sn sc (nI 0) tr σ') H locs (F0 mM 102 ls []) := by
    intro n_102
    induction n_102 with
    | zero =>
      intro w8 hqm hn_102
      exact absurd hn_102 (Nat.not_lt_zero _)
    | succ n_102 ih_102 =>
      intro w8 hqm hn_102 H locs ls hP hS hl
      refine lv_iload hx hb dX7_hours_102 (lv_at hl 4 rfl) ?_
      refine lv_iload hx hb dX7_hours_104 (lv_at hl 1 rfl) ?_
      refine xn_ige (tgt := 137) hx hb dX7_hours_106 (by decide) (by omega) (by omega) (fun c_106 => ?_) (fun c_106 => ?_)
      · refine lv_aload_n hx hb dX7_hours_137 rfl (lv_at hl 0 rfl) ?_
        refine lv_iload hx hb dX7_hours_138 (lv_at hl 3 rfl) ?_
        refine lv_iload hx hb dX7_hours_140 (lv_at hl 2 rfl) ?_
        refine xk_ci (va_runV (As := [.int (nI (60 * k + a)), .int (nI (10 + y))]) (rest := []) ⟨hx, hb, hml, hown, hts⟩ (k2_tellH_yo l hI (F := 60 * k + a) (hh := (fun x => hv (sc k (a + x)))) (y := y) hT hR hp0 (by omega) hcc hyn hy4) (cwV 2 hts gX7_hours_X7_tellHours rfl rfl rfl (by decide +kernel) ⟨Nat.le_of_ble_eq_true rfl, Nat.le_of_ble_eq_true rfl⟩) (xk_preV X2_ok hK hX hP (xk_recv hK hP 0 (by omega) (ci := 7) e2_obj rfl)) rfl rfl hl.1 rfl (lv_room (Nat.le_of_ble_eq_true rfl)) dX7_hours_142 ⟨Nat.le_of_ble_eq_true rfl, Nat.le_of_ble_eq_true rfl⟩) hS (fun r142 τ142 H locs hp hP hS => ?_)
        obtain ⟨rfl, hFm⟩ := hp
        exact xk_iret hx hb hr (vp_nar_int _) X2_ok hK hX hP hS hlk dX7_hours_145 (⟨rfl, I2_fr hJ0 hFm⟩)
      · refine lv_aload_n hx hb dX7_hours_109 rfl (lv_at hl 0 rfl) ?_
        refine xk_get hx hb hts (inX7_hours_X7) hown hK hP 0 (by omega) (ci := 7) e2_obj rfl 4 (by decide) (flX7_hours_16 hts) rfl (.ref (ad 3)) rfl dX7_hours_110 ?_
        refine lv_iload hx hb dX7_hours_113 (lv_at hl 3 rfl) ?_
        refine lv_iload hx hb dX7_hours_115 (lv_at hl 4 rfl) ?_
        refine xn_iadd hx hb dX7_hours_117 ?_
        refine xk_iald hx hb hK hP 3 (by omega) (n := 240) (e2_row 240 (by decide) rfl) rfl ((60 * k + a) + w8) (by omega) (by decide) dX7_hours_118 ?_
        refine xn_eqi (y := sc k (a + w8)) (by rw [Nat.add_assoc]; exact (hZ.2.2 hL).2.2 (a + w8) (by omega)) ?_
        refine lv_iconst (v := nI 0) hx hb dX7_hours_119 (by decide) ?_
        refine lv_bipush (v := nI 23) hx hb dX7_hours_120 (by decide) ?_
        refine xk_fi (va_runS (As := [.int (sc k (a + w8)), .int (nI 0), .int (nI 23)]) (rest := []) ⟨hx, hb, hml, hown, hts⟩ (k2_within_t l hI (sc k (a + w8)) (nI 0) (nI 23) (hal w8 (by omega))) (va_cwS 3 hts gX7_hours_X7_within rfl rfl rfl (by decide +kernel) ⟨Nat.le_of_ble_eq_true rfl, Nat.le_of_ble_eq_true rfl⟩) (xk_preS X2_ok hK hX hP) rfl rfl hl.1 rfl (lv_room (Nat.le_of_ble_eq_true rfl)) dX7_hours_122 ⟨Nat.le_of_ble_eq_true rfl, Nat.le_of_ble_eq_true rfl⟩) hS (fun H locs hP hS => ?_)
        refine xn_zne (tgt := 131) hx hb dX7_hours_125 (by decide) (by omega) (fun c_125 => ?_) (fun c_125 => absurd c_125 (by omega))
        refine lv_iinc (v := nI (w8 + 1)) (lv' := [(8, .int (nI (w8 + 1))), (0, .ref (ad 0)), (4, .int (nI m)), (5, .int (nI (10 + y))), (7, .int (nI (60 * k + a)))]) hx hb dX7_hours_131 hl (k := 4) rfl (xn_inc _ 1) (by decide) rfl (fun ls hl => ?_)
        refine lv_goto (tgt := 102) hx hb dX7_hours_134 (by decide) ?_
        exact ih_102 (w8 + 1) (by omega) (by omega) _ _ _ hP hS (lv_sub hl [1, 2, 3, 4, 0] rfl)
  exact LP_102 _ 0 (by omega) (Nat.lt_succ_self _) _ _ _ hP hS (lv_sub hl [3, 7, 8, 1, 0] rfl)

set_option maxRecDepth 20000 in
theorem flX7_best_107 {s : State} {av : Array Value} (hts : ∀ w ∈ wsX7_best, w.before av s = true) : (Cond.fieldLink RX7 107 "WellBackModel" "places" "I").before av s = true := hts _ (by decide +kernel)
set_option maxRecDepth 20000 in
theorem inX7_best_X7 : ∀ w ∈ u_ws RX7 TX7 30, w ∈ wsX7_best := by decide +kernel
set_option maxHeartbeats 4000000 in
set_option maxRecDepth 100000 in
theorem a2_best_no (l : Launch) {D : va_G} {ca : Nat → ClassId} {ad : Nat → Nat} (hI : Ij ad 18) {σ : Sg} {n p g rn : Nat} {d : Nat → Nat} {th rd : Nat → Nat → Nat} {sl sn : Nat → Nat} {sc : Nat → Nat → Int32} {ft tr : Int32} {k : Int32} (hJ : I2 n p g rn d th rd sl sn sc ft tr σ) (hn0 : n = 0) : C2i l D ca ad yX7_best wsX7_best { frames := 5, cells := 0, slots := 0, locals := 118 } [.ref (ad 0), .int k] σ (fun r σ' => r = -3 ∧ I2 n p g rn d th rd sl sn sc ft tr σ') := by
  refine xk_entry cX7_best 3 (some .int) (by decide) rfl (Nat.le_of_ble_eq_true rfl) ?_
  intro pP eE sS mM below meth cC hx hb hml hr hts hown hlk hP hK hX hS ls hl
  have hl : lv_has ls 3 [(0, .ref (ad 0)), (1, .int k)] := hl
  obtain ⟨hT, hR, hRd, hSh, hnp, hft, htr⟩ := id hJ
  have hn5 := hT.2.2.1
  have hg9 := hT.2.2.2.1
  have hp6 := hR.2.1
  have hrn8 := hRd.2.1
  have hp0z : p = 0 := by omega
  refine lv_aload_n hx hb dX7_best_0 rfl (lv_at hl 0 rfl) ?_
  refine xk_get hx hb hts (inX7_best_X7) hown hK hP 0 (by omega) (ci := 7) e2_obj rfl 6 (by decide) (flX7_best_107 hts) rfl (.int (σ 0 6)) rfl dX7_best_1 ?_
  refine xn_eqi (y := nI p) hR.1 ?_
  refine xn_zne (tgt := 10) hx hb dX7_best_4 (by decide) (by omega) (fun c_4 => absurd c_4 (by omega)) (fun c_4 => ?_)
  refine lv_bipush (v := (-3)) hx hb dX7_best_7 (by decide) ?_
  exact xk_iret hx hb hr (vp_nar_int _) X2_ok hK hX hP hS hlk dX7_best_9 (⟨rfl, hJ⟩)

set_option maxHeartbeats 4000000 in
set_option maxRecDepth 100000 in
theorem a2_best_ko (l : Launch) {D : va_G} {ca : Nat → ClassId} {ad : Nat → Nat} (hI : Ij ad 18) {σ : Sg} {n p g rn : Nat} {d : Nat → Nat} {th rd : Nat → Nat → Nat} {sl sn : Nat → Nat} {sc : Nat → Nat → Int32} {ft tr : Int32} {k : Int32} (hJ : I2 n p g rn d th rd sl sn sc ft tr σ) (hn0 : 0 < n) (hko : ¬ (-1 ≤ k ∧ k ≤ nI 5)) : C2i l D ca ad yX7_best wsX7_best { frames := 5, cells := 0, slots := 0, locals := 118 } [.ref (ad 0), .int k] σ (fun r σ' => r = -2 ∧ I2 n p g rn d th rd sl sn sc ft tr σ') := by
  refine xk_entry cX7_best 3 (some .int) (by decide) rfl (Nat.le_of_ble_eq_true rfl) ?_
  intro pP eE sS mM below meth cC hx hb hml hr hts hown hlk hP hK hX hS ls hl
  have hl : lv_has ls 3 [(0, .ref (ad 0)), (1, .int k)] := hl
  obtain ⟨hT, hR, hRd, hSh, hnp, hft, htr⟩ := id hJ
  have hn5 := hT.2.2.1
  have hg9 := hT.2.2.2.1
  have hp6 := hR.2.1
  have hrn8 := hRd.2.1
  have hp0 : 0 < p := hnp.mp (by omega)
  refine lv_aload_n hx hb dX7_best_0 rfl (lv_at hl 0 rfl) ?_
  refine xk_get hx hb hts (inX7_best_X7) hown hK hP 0 (by omega) (ci := 7) e2_obj rfl 6 (by decide) (flX7_best_107 hts) rfl (.int (σ 0 6)) rfl dX7_best_1 ?_
  refine xn_eqi (y := nI p) hR.1 ?_
  refine xn_zne (tgt := 10) hx hb dX7_best_4 (by decide) (by omega) (fun c_4 => ?_) (fun c_4 => absurd c_4 (by omega))
  refine lv_iload_n hx hb dX7_best_10 rfl (lv_at hl 1 rfl) ?_
  refine lv_iconst (v := (-1)) hx hb dX7_best_11 (by decide) ?_
  refine lv_iconst (v := nI 5) hx hb dX7_best_12 (by decide) ?_
  refine xk_fi (va_runS (As := [.int k, .int (-1), .int (nI 5)]) (rest := []) ⟨hx, hb, hml, hown, hts⟩ (k2_within_f l hI k (-1) (nI 5) hko) (va_cwS 3 hts gX7_best_X7_within rfl rfl rfl (by decide +kernel) ⟨Nat.le_of_ble_eq_true rfl, Nat.le_of_ble_eq_true rfl⟩) (xk_preS X2_ok hK hX hP) rfl rfl hl.1 rfl (lv_room (Nat.le_of_ble_eq_true rfl)) dX7_best_13 ⟨Nat.le_of_ble_eq_true rfl, Nat.le_of_ble_eq_true rfl⟩) hS (fun H locs hP hS => ?_)
  refine xn_zne (tgt := 22) hx hb dX7_best_16 (by decide) (by omega) (fun c_16 => absurd c_16 (by omega)) (fun c_16 => ?_)
  refine lv_bipush (v := (-2)) hx hb dX7_best_19 (by decide) ?_
  exact xk_iret hx hb hr (vp_nar_int _) X2_ok hK hX hP hS hlk dX7_best_21 (⟨rfl, hJ⟩)

set_option maxHeartbeats 4000000 in
set_option maxRecDepth 100000 in
theorem a2_best_kp (l : Launch) {D : va_G} {ca : Nat → ClassId} {ad : Nat → Nat} (hI : Ij ad 18) {σ : Sg} {n p g rn : Nat} {d : Nat → Nat} {th rd : Nat → Nat → Nat} {sl sn : Nat → Nat} {sc : Nat → Nat → Int32} {ft tr : Int32} {k : Nat} (hJ : I2 n p g rn d th rd sl sn sc ft tr σ) (hn0 : 0 < n) (hk5 : k ≤ 5) (hkp : p ≤ k) : C2i l D ca ad yX7_best wsX7_best { frames := 5, cells := 0, slots := 0, locals := 118 } [.ref (ad 0), .int (nI k)] σ (fun r σ' => r = -9 ∧ I2 n p g rn d th rd sl sn sc ft tr σ') := by
  refine xk_entry cX7_best 3 (some .int) (by decide) rfl (Nat.le_of_ble_eq_true rfl) ?_
  intro pP eE sS mM below meth cC hx hb hml hr hts hown hlk hP hK hX hS ls hl
  have hl : lv_has ls 3 [(0, .ref (ad 0)), (1, .int (nI k))] := hl
  obtain ⟨hT, hR, hRd, hSh, hnp, hft, htr⟩ := id hJ
  have hn5 := hT.2.2.1
  have hg9 := hT.2.2.2.1
  have hp6 := hR.2.1
  have hrn8 := hRd.2.1
  have hp0 : 0 < p := hnp.mp (by omega)
  refine lv_aload_n hx hb dX7_best_0 rfl (lv_at hl 0 rfl) ?_
  refine xk_get hx hb hts (inX7_best_X7) hown hK hP 0 (by omega) (ci := 7) e2_obj rfl 6 (by decide) (flX7_best_107 hts) rfl (.int (σ 0 6)) rfl dX7_best_1 ?_
  refine xn_eqi (y := nI p) hR.1 ?_
  refine xn_zne (tgt := 10) hx hb dX7_best_4 (by decide) (by omega) (fun c_4 => ?_) (fun c_4 => absurd c_4 (by omega))
  refine lv_iload_n hx hb dX7_best_10 rfl (lv_at hl 1 rfl) ?_
  refine lv_iconst (v := (-1)) hx hb dX7_best_11 (by decide) ?_
  refine lv_iconst (v := nI 5) hx hb dX7_best_12 (by decide) ?_
  refine xk_fi (va_runS (As := [.int (nI k), .int (-1), .int (nI 5)]) (rest := []) ⟨hx, hb, hml, hown, hts⟩ (k2_within_t l hI (nI k) (-1) (nI 5) ⟨m1_le (by omega), nI_le (by omega) (by omega)⟩) (va_cwS 3 hts gX7_best_X7_within rfl rfl rfl (by decide +kernel) ⟨Nat.le_of_ble_eq_true rfl, Nat.le_of_ble_eq_true rfl⟩) (xk_preS X2_ok hK hX hP) rfl rfl hl.1 rfl (lv_room (Nat.le_of_ble_eq_true rfl)) dX7_best_13 ⟨Nat.le_of_ble_eq_true rfl, Nat.le_of_ble_eq_true rfl⟩) hS (fun H locs hP hS => ?_)
  refine xn_zne (tgt := 22) hx hb dX7_best_16 (by decide) (by omega) (fun c_16 => ?_) (fun c_16 => absurd c_16 (by omega))
  refine lv_aload_n hx hb dX7_best_22 rfl (lv_at hl 0 rfl) ?_
  refine xk_ci (va_runV (As := []) (rest := []) ⟨hx, hb, hml, hown, hts⟩ (k2_findBest l hI hT hR hp0) (cwV 0 hts gX7_best_X7_findBest rfl rfl rfl (by decide +kernel) ⟨Nat.le_of_ble_eq_true rfl, Nat.le_of_ble_eq_true rfl⟩) (xk_preV X2_ok hK hX hP (xk_recv hK hP 0 (by omega) (ci := 7) e2_obj rfl)) rfl rfl hl.1 rfl (lv_room (Nat.le_of_ble_eq_true rfl)) dX7_best_23 ⟨Nat.le_of_ble_eq_true rfl, Nat.le_of_ble_eq_true rfl⟩) hS (fun r1 τ H locs hp hP hS => ?_)
  obtain ⟨b, m, rfl, hB, h14, hRb, hfz⟩ := hp
  have hJt := I2_b hJ hfz hRb
  refine lv_istore_n (lv' := [(2, .int (nI m)), (0, .ref (ad 0)), (1, .int (nI k))]) hx hb dX7_best_26 rfl hl (by decide) rfl (fun ls hl => ?_)
  refine lv_iload_n hx hb dX7_best_27 rfl (lv_at hl 2 rfl) ?_
  refine lv_iconst (v := (-1)) hx hb dX7_best_28 (by decide) ?_
  refine lv_icmp_ne (tgt := 36) hx hb dX7_best_29 (by decide) (fun c_29 => ?_) (fun c_29 => absurd c_29 (m1_ne (by omega)))
  refine lv_iload_n hx hb dX7_best_36 rfl (lv_at hl 2 rfl) ?_
  refine lv_aload_n hx hb dX7_best_37 rfl (lv_at hl 1 rfl) ?_
  refine xk_get hx hb hts (inX7_best_X7) hown hK hP 0 (by omega) (ci := 7) e2_obj rfl 6 (by decide) (flX7_best_107 hts) rfl (.int (τ 0 6)) rfl dX7_best_38 ?_
  refine xn_eqi (y := nI p) hRb.1 ?_
  refine xn_ige (tgt := 53) hx hb dX7_best_41 (by decide) (by omega) (by omega) (fun c_41 => ?_) (fun c_41 => absurd c_41 (by omega))
  refine lv_bipush (v := (-9)) hx hb dX7_best_53 (by decide) ?_
  exact xk_iret hx hb hr (vp_nar_int _) X2_ok hK hX hP hS hlk dX7_best_55 (⟨rfl, hJt⟩)

set_option maxHeartbeats 4000000 in
set_option maxRecDepth 100000 in
theorem a2_best_m1 (l : Launch) {D : va_G} {ca : Nat → ClassId} {ad : Nat → Nat} (hI : Ij ad 18) {σ : Sg} {n p g rn : Nat} {d : Nat → Nat} {th rd : Nat → Nat → Nat} {sl sn : Nat → Nat} {sc : Nat → Nat → Int32} {ft tr : Int32} (hJ : I2 n p g rn d th rd sl sn sc ft tr σ) (hn0 : 0 < n) : C2i l D ca ad yX7_best wsX7_best { frames := 5, cells := 0, slots := 0, locals := 118 } [.ref (ad 0), .int (-1)] σ (fun r σ' => ∃ b m, IsBest p g th n d b m ∧ r = nI m ∧ I2 n p g rn d th rd sl sn sc ft tr σ') := by
  refine xk_entry cX7_best 3 (some .int) (by decide) rfl (Nat.le_of_ble_eq_true rfl) ?_
  intro pP eE sS mM below meth cC hx hb hml hr hts hown hlk hP hK hX hS ls hl
  have hl : lv_has ls 3 [(0, .ref (ad 0)), (1, .int (-1))] := hl
  obtain ⟨hT, hR, hRd, hSh, hnp, hft, htr⟩ := id hJ
  have hn5 := hT.2.2.1
  have hg9 := hT.2.2.2.1
  have hp6 := hR.2.1
  have hrn8 := hRd.2.1
  have hp0 : 0 < p := hnp.mp (by omega)
  refine lv_aload_n hx hb dX7_best_0 rfl (lv_at hl 0 rfl) ?_
  refine xk_get hx hb hts (inX7_best_X7) hown hK hP 0 (by omega) (ci := 7) e2_obj rfl 6 (by decide) (flX7_best_107 hts) rfl (.int (σ 0 6)) rfl dX7_best_1 ?_
  refine xn_eqi (y := nI p) hR.1 ?_
  refine xn_zne (tgt := 10) hx hb dX7_best_4 (by decide) (by omega) (fun c_4 => ?_) (fun c_4 => absurd c_4 (by omega))
  refine lv_iload_n hx hb dX7_best_10 rfl (lv_at hl 1 rfl) ?_
  refine lv_iconst (v := (-1)) hx hb dX7_best_11 (by decide) ?_
  refine lv_iconst (v := nI 5) hx hb dX7_best_12 (by decide) ?_
  refine xk_fi (va_runS (As := [.int (-1), .int (-1), .int (nI 5)]) (rest := []) ⟨hx, hb, hml, hown, hts⟩ (k2_within_t l hI (-1) (-1) (nI 5) (by decide)) (va_cwS 3 hts gX7_best_X7_within rfl rfl rfl (by decide +kernel) ⟨Nat.le_of_ble_eq_true rfl, Nat.le_of_ble_eq_true rfl⟩) (xk_preS X2_ok hK hX hP) rfl rfl hl.1 rfl (lv_room (Nat.le_of_ble_eq_true rfl)) dX7_best_13 ⟨Nat.le_of_ble_eq_true rfl, Nat.le_of_ble_eq_true rfl⟩) hS (fun H locs hP hS => ?_)
  refine xn_zne (tgt := 22) hx hb dX7_best_16 (by decide) (by omega) (fun c_16 => ?_) (fun c_16 => absurd c_16 (by omega))
  refine lv_aload_n hx hb dX7_best_22 rfl (lv_at hl 0 rfl) ?_
  refine xk_ci (va_runV (As := []) (rest := []) ⟨hx, hb, hml, hown, hts⟩ (k2_findBest l hI hT hR hp0) (cwV 0 hts gX7_best_X7_findBest rfl rfl rfl (by decide +kernel) ⟨Nat.le_of_ble_eq_true rfl, Nat.le_of_ble_eq_true rfl⟩) (xk_preV X2_ok hK hX hP (xk_recv hK hP 0 (by omega) (ci := 7) e2_obj rfl)) rfl rfl hl.1 rfl (lv_room (Nat.le_of_ble_eq_true rfl)) dX7_best_23 ⟨Nat.le_of_ble_eq_true rfl, Nat.le_of_ble_eq_true rfl⟩) hS (fun r1 τ H locs hp hP hS => ?_)
  obtain ⟨b, m, rfl, hB, h14, hRb, hfz⟩ := hp
  have hJt := I2_b hJ hfz hRb
  refine lv_istore_n (lv' := [(2, .int (nI m)), (0, .ref (ad 0)), (1, .int (-1))]) hx hb dX7_best_26 rfl hl (by decide) rfl (fun ls hl => ?_)
  refine lv_iload_n hx hb dX7_best_27 rfl (lv_at hl 2 rfl) ?_
  refine lv_iconst (v := (-1)) hx hb dX7_best_28 (by decide) ?_
  refine lv_icmp_ne (tgt := 36) hx hb dX7_best_29 (by decide) (fun c_29 => absurd rfl c_29) (fun c_29 => ?_)
  refine lv_iload_n hx hb dX7_best_32 rfl (lv_at hl 0 rfl) ?_
  refine lv_goto (tgt := 55) hx hb dX7_best_33 (by decide) ?_
  exact xk_iret hx hb hr (vp_nar_int _) X2_ok hK hX hP hS hlk dX7_best_55 (⟨b, m, hB, rfl, hJt⟩)

set_option maxRecDepth 20000 in
theorem flX7_best_49 {s : State} {av : Array Value} (hts : ∀ w ∈ wsX7_best, w.before av s = true) : (Cond.fieldLink RX7 49 "WellBackModel" "found" "[I").before av s = true := hts _ (by decide +kernel)
set_option maxHeartbeats 4000000 in
set_option maxRecDepth 100000 in
theorem a2_best_k (l : Launch) {D : va_G} {ca : Nat → ClassId} {ad : Nat → Nat} (hI : Ij ad 18) {σ : Sg} {n p g rn : Nat} {d : Nat → Nat} {th rd : Nat → Nat → Nat} {sl sn : Nat → Nat} {sc : Nat → Nat → Int32} {ft tr : Int32} {k : Nat} (hJ : I2 n p g rn d th rd sl sn sc ft tr σ) (hn0 : 0 < n) (hk5 : k ≤ 5) (hkp : k < p) : C2i l D ca ad yX7_best wsX7_best { frames := 5, cells := 0, slots := 0, locals := 118 } [.ref (ad 0), .int (nI k)] σ (fun r σ' => ∃ b m, IsBest p g th n d b m ∧ r = nI (b k) ∧ I2 n p g rn d th rd sl sn sc ft tr σ') := by
  refine xk_entry cX7_best 3 (some .int) (by decide) rfl (Nat.le_of_ble_eq_true rfl) ?_
  intro pP eE sS mM below meth cC hx hb hml hr hts hown hlk hP hK hX hS ls hl
  have hl : lv_has ls 3 [(0, .ref (ad 0)), (1, .int (nI k))] := hl
  obtain ⟨hT, hR, hRd, hSh, hnp, hft, htr⟩ := id hJ
  have hn5 := hT.2.2.1
  have hg9 := hT.2.2.2.1
  have hp6 := hR.2.1
  have hrn8 := hRd.2.1
  have hp0 : 0 < p := hnp.mp (by omega)
  refine lv_aload_n hx hb dX7_best_0 rfl (lv_at hl 0 rfl) ?_
  refine xk_get hx hb hts (inX7_best_X7) hown hK hP 0 (by omega) (ci := 7) e2_obj rfl 6 (by decide) (flX7_best_107 hts) rfl (.int (σ 0 6)) rfl dX7_best_1 ?_
  refine xn_eqi (y := nI p) hR.1 ?_
  refine xn_zne (tgt := 10) hx hb dX7_best_4 (by decide) (by omega) (fun c_4 => ?_) (fun c_4 => absurd c_4 (by omega))
  refine lv_iload_n hx hb dX7_best_10 rfl (lv_at hl 1 rfl) ?_
  refine lv_iconst (v := (-1)) hx hb dX7_best_11 (by decide) ?_
  refine lv_iconst (v := nI 5) hx hb dX7_best_12 (by decide) ?_
  refine xk_fi (va_runS (As := [.int (nI k), .int (-1), .int (nI 5)]) (rest := []) ⟨hx, hb, hml, hown, hts⟩ (k2_within_t l hI (nI k) (-1) (nI 5) ⟨m1_le (by omega), nI_le (by omega) (by omega)⟩) (va_cwS 3 hts gX7_best_X7_within rfl rfl rfl (by decide +kernel) ⟨Nat.le_of_ble_eq_true rfl, Nat.le_of_ble_eq_true rfl⟩) (xk_preS X2_ok hK hX hP) rfl rfl hl.1 rfl (lv_room (Nat.le_of_ble_eq_true rfl)) dX7_best_13 ⟨Nat.le_of_ble_eq_true rfl, Nat.le_of_ble_eq_true rfl⟩) hS (fun H locs hP hS => ?_)
  refine xn_zne (tgt := 22) hx hb dX7_best_16 (by decide) (by omega) (fun c_16 => ?_) (fun c_16 => absurd c_16 (by omega))
  refine lv_aload_n hx hb dX7_best_22 rfl (lv_at hl 0 rfl) ?_
  refine xk_ci (va_runV (As := []) (rest := []) ⟨hx, hb, hml, hown, hts⟩ (k2_findBest l hI hT hR hp0) (cwV 0 hts gX7_best_X7_findBest rfl rfl rfl (by decide +kernel) ⟨Nat.le_of_ble_eq_true rfl, Nat.le_of_ble_eq_true rfl⟩) (xk_preV X2_ok hK hX hP (xk_recv hK hP 0 (by omega) (ci := 7) e2_obj rfl)) rfl rfl hl.1 rfl (lv_room (Nat.le_of_ble_eq_true rfl)) dX7_best_23 ⟨Nat.le_of_ble_eq_true rfl, Nat.le_of_ble_eq_true rfl⟩) hS (fun r1 τ H locs hp hP hS => ?_)
  obtain ⟨b, m, rfl, hB, h14, hRb, hfz⟩ := hp
  have hJt := I2_b hJ hfz hRb
  refine lv_istore_n (lv' := [(2, .int (nI m)), (0, .ref (ad 0)), (1, .int (nI k))]) hx hb dX7_best_26 rfl hl (by decide) rfl (fun ls hl => ?_)
  refine lv_iload_n hx hb dX7_best_27 rfl (lv_at hl 2 rfl) ?_
  refine lv_iconst (v := (-1)) hx hb dX7_best_28 (by decide) ?_
  refine lv_icmp_ne (tgt := 36) hx hb dX7_best_29 (by decide) (fun c_29 => ?_) (fun c_29 => absurd c_29 (m1_ne (by omega)))
  refine lv_iload_n hx hb dX7_best_36 rfl (lv_at hl 2 rfl) ?_
  refine lv_aload_n hx hb dX7_best_37 rfl (lv_at hl 1 rfl) ?_
  refine xk_get hx hb hts (inX7_best_X7) hown hK hP 0 (by omega) (ci := 7) e2_obj rfl 6 (by decide) (flX7_best_107 hts) rfl (.int (τ 0 6)) rfl dX7_best_38 ?_
  refine xn_eqi (y := nI p) hRb.1 ?_
  refine xn_ige (tgt := 53) hx hb dX7_best_41 (by decide) (by omega) (by omega) (fun c_41 => absurd c_41 (by omega)) (fun c_41 => ?_)
  refine lv_aload_n hx hb dX7_best_44 rfl (lv_at hl 1 rfl) ?_
  refine xk_get hx hb hts (inX7_best_X7) hown hK hP 0 (by omega) (ci := 7) e2_obj rfl 25 (by decide) (flX7_best_49 hts) rfl (.ref (ad 14)) rfl dX7_best_45 ?_
  refine lv_iload_n hx hb dX7_best_48 rfl (lv_at hl 2 rfl) ?_
  refine xk_iald hx hb hK hP 14 (by omega) (n := 6) (e2_row 6 (by decide) rfl) rfl k (by omega) (by decide) dX7_best_49 ?_
  refine xn_eqi (y := nI (b k)) (h14 _ (by omega)) ?_
  refine lv_goto (tgt := 55) hx hb dX7_best_50 (by decide) ?_
  exact xk_iret hx hb hr (vp_nar_int _) X2_ok hK hX hP hS hlk dX7_best_55 (⟨b, m, hB, rfl, hJt⟩)
