/-! the reference: sheets, texts, least terms -/
theorem cd_m1 {t : Nat → Int32} {m k : Nat} (h : m ≤ k) : cd t m k = -1 := if_neg (by omega)
theorem cd_in {t : Nat → Int32} {m k : Nat} (h : k < m) : cd t m k = t k := if_pos h
theorem dg_m1 {q : Nat} : ¬ dg (-1) q := by
  intro h
  have h1 := h.1
  rw [Int32.le_iff_toInt_le, nI_toInt (by omega)] at h1
  have : (-1 : Int32).toInt = -1 := by decide
  omega
theorem dg_k {t : Nat → Int32} {m k q : Nat} (h : dg (cd t m k) q) : k < m := by
  rcases Nat.lt_or_ge k m with z | z
  · exact z
  · rw [cd_m1 z] at h
    exact absurd h dg_m1
theorem sg_k {t : Nat → Int32} {m k C : Nat} (h : cd t m k = nI C) (hC : C < 2 ^ 31) : k < m := by
  rcases Nat.lt_or_ge k m with z | z
  · exact z
  · rw [cd_m1 z] at h
    exact absurd h.symm (m1_ne hC)

set_option maxRecDepth 20000 in
theorem flX7_fails_61 {s : State} {av : Array Value} (hts : ∀ w ∈ wsX7_fails, w.before av s = true) : (Cond.fieldLink RX7 61 "WellBackModel" "fault" "I").before av s = true := hts _ (by decide +kernel)
set_option maxRecDepth 20000 in
theorem inX7_fails_X7 : ∀ w ∈ u_ws RX7 TX7 30, w ∈ wsX7_fails := by decide +kernel
set_option maxHeartbeats 4000000 in
set_option maxRecDepth 100000 in
theorem k2_fails (l : Launch) {D : va_G} {ca : Nat → ClassId} {ad : Nat → Nat} (hI : Ij ad 18) {σ : Sg} (f : Nat)  : C2i l D ca ad yX7_fails wsX7_fails { frames := 0, cells := 0, slots := 0, locals := 0 } [.ref (ad 0), .int (nI f)] σ (xFn ((-10) - nI f) (up σ 0 0 (nI f))) := by
  refine xk_entry cX7_fails 2 (some .int) (by decide) rfl (Nat.le_of_ble_eq_true rfl) ?_
  intro pP eE sS mM below meth cC hx hb hml hr hts hown hlk hP hK hX hS ls hl
  have hl : lv_has ls 2 [(0, .ref (ad 0)), (1, .int (nI f))] := hl
  refine lv_aload_n hx hb dX7_fails_0 rfl (lv_at hl 0 rfl) ?_
  refine lv_iload_n hx hb dX7_fails_1 rfl (lv_at hl 1 rfl) ?_
  refine xk_put hx hb hts (inX7_fails_X7) tyX7 tyX7_ok nmX7 hown hK hI hP hS 0 (by omega) (ci := 7) e2_obj rfl 0 (by decide) (flX7_fails_61 hts) rfl rfl (by decide +kernel) (Nat.le_of_ble_eq_true rfl) e2_loc (by rw [e2_obj]; simp [up]) dX7_fails_2 (fun H locs hP hS => ?_)
  refine lv_bipush (v := (-10)) hx hb dX7_fails_5 (by decide) ?_
  refine lv_iload_n hx hb dX7_fails_7 rfl (lv_at hl 1 rfl) ?_
  refine lv_isub hx hb dX7_fails_8 ?_
  exact xk_iret hx hb hr (vp_nar_int _) X2_ok hK hX hP hS hlk dX7_fails_9 (⟨rfl, rfl⟩)

set_option maxRecDepth 20000 in
theorem flX7_lost_61 {s : State} {av : Array Value} (hts : ∀ w ∈ wsX7_lost, w.before av s = true) : (Cond.fieldLink RX7 61 "WellBackModel" "fault" "I").before av s = true := hts _ (by decide +kernel)
set_option maxRecDepth 20000 in
theorem inX7_lost_X7 : ∀ w ∈ u_ws RX7 TX7 30, w ∈ wsX7_lost := by decide +kernel
set_option maxHeartbeats 4000000 in
set_option maxRecDepth 100000 in
theorem k2_lost (l : Launch) {D : va_G} {ca : Nat → ClassId} {ad : Nat → Nat} (hI : Ij ad 18) {σ : Sg} (f : Nat)  : C2l l D ca ad yX7_lost wsX7_lost { frames := 0, cells := 0, slots := 0, locals := 0 } [.ref (ad 0), .int (nI f)] σ (xFl (-9223372036854775808) (up σ 0 0 (nI f))) := by
  refine xk_entry cX7_lost 2 (some .long) (by decide) rfl (Nat.le_of_ble_eq_true rfl) ?_
  intro pP eE sS mM below meth cC hx hb hml hr hts hown hlk hP hK hX hS ls hl
  have hl : lv_has ls 2 [(0, .ref (ad 0)), (1, .int (nI f))] := hl
  refine lv_aload_n hx hb dX7_lost_0 rfl (lv_at hl 0 rfl) ?_
  refine lv_iload_n hx hb dX7_lost_1 rfl (lv_at hl 1 rfl) ?_
  refine xk_put hx hb hts (inX7_lost_X7) tyX7 tyX7_ok nmX7 hown hK hI hP hS 0 (by omega) (ci := 7) e2_obj rfl 0 (by decide) (flX7_lost_61 hts) rfl rfl (by decide +kernel) (Nat.le_of_ble_eq_true rfl) e2_loc (by rw [e2_obj]; simp [up]) dX7_lost_2 (fun H locs hP hS => ?_)
  refine lv_ldc2 (v := (-9223372036854775808)) hx hb hown (hts (.constantLong RX7 65 (-9223372036854775808)) (by decide +kernel)) dX7_lost_5 ?_
  exact xk_lret hx hb hr X2_ok hK hX hP hS hlk dX7_lost_8 (⟨rfl, rfl⟩)

set_option maxRecDepth 20000 in
theorem flX7_begins_187 {s : State} {av : Array Value} (hts : ∀ w ∈ wsX7_begins, w.before av s = true) : (Cond.fieldLink RX7 187 "WellBackModel" "trace" "I").before av s = true := hts _ (by decide +kernel)
set_option maxRecDepth 20000 in
theorem inX7_begins_X7 : ∀ w ∈ u_ws RX7 TX7 30, w ∈ wsX7_begins := by decide +kernel
set_option maxHeartbeats 4000000 in
set_option maxRecDepth 100000 in
theorem k2_begins (l : Launch) {D : va_G} {ca : Nat → ClassId} {ad : Nat → Nat} (hI : Ij ad 18) {σ : Sg} {t : Int32} {v : Nat} (ht : σ 0 1 = t) : C2v l D ca ad yX7_begins wsX7_begins { frames := 0, cells := 0, slots := 0, locals := 0 } [.ref (ad 0), .int (nI v)] σ (xFv (up σ 0 1 (tc t v))) := by
  refine xk_entry cX7_begins 2 none (by decide) rfl (Nat.le_of_ble_eq_true rfl) ?_
  intro pP eE sS mM below meth cC hx hb hml hr hts hown hlk hP hK hX hS ls hl
  have hl : lv_has ls 2 [(0, .ref (ad 0)), (1, .int (nI v))] := hl
  refine lv_aload_n hx hb dX7_begins_0 rfl (lv_at hl 0 rfl) ?_
  refine lv_bipush (v := nI 31) hx hb dX7_begins_1 (by decide) ?_
  refine lv_aload_n hx hb dX7_begins_3 rfl (lv_at hl 0 rfl) ?_
  refine xk_get hx hb hts (inX7_begins_X7) hown hK hP 0 (by omega) (ci := 7) e2_obj rfl 1 (by decide) (flX7_begins_187 hts) rfl (.int (σ 0 1)) rfl dX7_begins_4 ?_
  refine xn_eqi (y := t) ht ?_
  refine lv_imul hx hb dX7_begins_7 ?_
  refine lv_iload_n hx hb dX7_begins_8 rfl (lv_at hl 1 rfl) ?_
  refine lv_iadd hx hb dX7_begins_9 ?_
  refine xk_put hx hb hts (inX7_begins_X7) tyX7 tyX7_ok nmX7 hown hK hI hP hS 0 (by omega) (ci := 7) e2_obj rfl 1 (by decide) (flX7_begins_187 hts) rfl rfl (by decide +kernel) (Nat.le_of_ble_eq_true rfl) e2_loc (by rw [e2_obj]; simp [up]) dX7_begins_10 (fun H locs hP hS => ?_)
  exact xk_vret hx hb hr X2_ok hK hX hP hS hlk dX7_begins_13 rfl

set_option maxRecDepth 20000 in
theorem flX7_against_9 {s : State} {av : Array Value} (hts : ∀ w ∈ wsX7_against, w.before av s = true) : (Cond.fieldLink RX7 9 "WellBackModel" "sorts" "[I").before av s = true := hts _ (by decide +kernel)
set_option maxRecDepth 20000 in
theorem inX7_against_X7 : ∀ w ∈ u_ws RX7 TX7 30, w ∈ wsX7_against := by decide +kernel
set_option maxHeartbeats 4000000 in
set_option maxRecDepth 100000 in
theorem k2_ag_none (l : Launch) {D : va_G} {ca : Nat → ClassId} {ad : Nat → Nat} (hI : Ij ad 18) {σ : Sg} {k L m : Nat} {cc : Nat → Int32} {w : Nat} {x y : Int32} (hk4 : k < 4) (hZ : ShM σ k L m cc) (hw : w ≤ 2) (hL3 : L = 3) : C2i l D ca ad yX7_against wsX7_against { frames := 0, cells := 0, slots := 0, locals := 0 } [.ref (ad 0), .int (nI k), .int (nI w), .int x, .int y] σ (xFn (nI 1) σ) := by
  refine xk_entry cX7_against 5 (some .int) (by decide) rfl (Nat.le_of_ble_eq_true rfl) ?_
  intro pP eE sS mM below meth cC hx hb hml hr hts hown hlk hP hK hX hS ls hl
  have hl : lv_has ls 5 [(0, .ref (ad 0)), (1, .int (nI k)), (2, .int (nI w)), (3, .int x), (4, .int y)] := hl
  have hlan : σ 1 k = -9 := by rw [hZ.1, hL3]; rfl
  refine lv_aload_n hx hb dX7_against_0 rfl (lv_at hl 0 rfl) ?_
  refine xk_get hx hb hts (inX7_against_X7) hown hK hP 0 (by omega) (ci := 7) e2_obj rfl 2 (by decide) (flX7_against_9 hts) rfl (.ref (ad 1)) rfl dX7_against_1 ?_
  refine lv_iload_n hx hb dX7_against_4 rfl (lv_at hl 1 rfl) ?_
  refine xk_iald hx hb hK hP 1 (by omega) (n := 4) (e2_row 4 (by decide) rfl) rfl k (by omega) (by decide) dX7_against_5 ?_
  refine xn_eqi (y := (-9)) hlan ?_
  refine lv_bipush (v := (-9)) hx hb dX7_against_6 (by decide) ?_
  refine lv_icmp_eq (tgt := 23) hx hb dX7_against_8 (by decide) (fun c_8 => ?_) (fun c_8 => absurd rfl c_8)
  refine lv_aload_n hx hb dX7_against_23 rfl (lv_at hl 0 rfl) ?_
  refine xk_get hx hb hts (inX7_against_X7) hown hK hP 0 (by omega) (ci := 7) e2_obj rfl 2 (by decide) (flX7_against_9 hts) rfl (.ref (ad 1)) rfl dX7_against_24 ?_
  refine lv_iload_n hx hb dX7_against_27 rfl (lv_at hl 1 rfl) ?_
  refine xk_iald hx hb hK hP 1 (by omega) (n := 4) (e2_row 4 (by decide) rfl) rfl k (by omega) (by decide) dX7_against_28 ?_
  refine xn_eqi (y := (-9)) hlan ?_
  refine lv_bipush (v := (-9)) hx hb dX7_against_29 (by decide) ?_
  refine lv_icmp_ne (tgt := 36) hx hb dX7_against_31 (by decide) (fun c_31 => absurd rfl c_31) (fun c_31 => ?_)
  refine lv_iconst (v := nI 1) hx hb dX7_against_34 (by decide) ?_
  exact xk_iret hx hb hr (vp_nar_int _) X2_ok hK hX hP hS hlk dX7_against_35 (⟨rfl, rfl⟩)

set_option maxHeartbeats 4000000 in
set_option maxRecDepth 100000 in
theorem k2_ag_cast (l : Launch) {D : va_G} {ca : Nat → ClassId} {ad : Nat → Nat} (hI : Ij ad 18) {σ : Sg} {k L m : Nat} {cc : Nat → Int32} {w : Nat} {x y : Int32} (hk4 : k < 4) (hZ : ShM σ k L m cc) (hw : w ≤ 2) (hL : L < 3) (hun : ¬ L = w) : C2i l D ca ad yX7_against wsX7_against { frames := 0, cells := 0, slots := 0, locals := 0 } [.ref (ad 0), .int (nI k), .int (nI w), .int x, .int y] σ (xFn (nI 2) σ) := by
  refine xk_entry cX7_against 5 (some .int) (by decide) rfl (Nat.le_of_ble_eq_true rfl) ?_
  intro pP eE sS mM below meth cC hx hb hml hr hts hown hlk hP hK hX hS ls hl
  have hl : lv_has ls 5 [(0, .ref (ad 0)), (1, .int (nI k)), (2, .int (nI w)), (3, .int x), (4, .int y)] := hl
  have hlan := hZ.1.trans (lz_lt hL)
  refine lv_aload_n hx hb dX7_against_0 rfl (lv_at hl 0 rfl) ?_
  refine xk_get hx hb hts (inX7_against_X7) hown hK hP 0 (by omega) (ci := 7) e2_obj rfl 2 (by decide) (flX7_against_9 hts) rfl (.ref (ad 1)) rfl dX7_against_1 ?_
  refine lv_iload_n hx hb dX7_against_4 rfl (lv_at hl 1 rfl) ?_
  refine xk_iald hx hb hK hP 1 (by omega) (n := 4) (e2_row 4 (by decide) rfl) rfl k (by omega) (by decide) dX7_against_5 ?_
  refine xn_eqi (y := nI L) hlan ?_
  refine lv_bipush (v := (-9)) hx hb dX7_against_6 (by decide) ?_
  refine lv_icmp_eq (tgt := 23) hx hb dX7_against_8 (by decide) (fun c_8 => absurd c_8 (lz_ne hL)) (fun c_8 => ?_)
  refine lv_aload_n hx hb dX7_against_11 rfl (lv_at hl 0 rfl) ?_
  refine xk_get hx hb hts (inX7_against_X7) hown hK hP 0 (by omega) (ci := 7) e2_obj rfl 2 (by decide) (flX7_against_9 hts) rfl (.ref (ad 1)) rfl dX7_against_12 ?_
  refine lv_iload_n hx hb dX7_against_15 rfl (lv_at hl 1 rfl) ?_
  refine xk_iald hx hb hK hP 1 (by omega) (n := 4) (e2_row 4 (by decide) rfl) rfl k (by omega) (by decide) dX7_against_16 ?_
  refine xn_eqi (y := nI L) hlan ?_
  refine lv_iload_n hx hb dX7_against_17 rfl (lv_at hl 2 rfl) ?_
  refine xn_ieq (tgt := 23) hx hb dX7_against_18 (by decide) (by omega) (by omega) (fun c_18 => absurd c_18 (by omega)) (fun c_18 => ?_)
  refine lv_iconst (v := nI 2) hx hb dX7_against_21 (by decide) ?_
  exact xk_iret hx hb hr (vp_nar_int _) X2_ok hK hX hP hS hlk dX7_against_22 (⟨rfl, rfl⟩)

set_option maxHeartbeats 4000000 in
set_option maxRecDepth 100000 in
theorem k2_ag_size (l : Launch) {D : va_G} {ca : Nat → ClassId} {ad : Nat → Nat} (hI : Ij ad 18) {σ : Sg} {k L m : Nat} {cc : Nat → Int32} {w : Nat} {x y : Int32} (hk4 : k < 4) (hZ : ShM σ k L m cc) (hw : w ≤ 2) (hLw : L = w) (hy : y < 0) : C2i l D ca ad yX7_against wsX7_against { frames := 0, cells := 0, slots := 0, locals := 0 } [.ref (ad 0), .int (nI k), .int (nI w), .int x, .int y] σ (xFn (nI 4) σ) := by
  refine xk_entry cX7_against 5 (some .int) (by decide) rfl (Nat.le_of_ble_eq_true rfl) ?_
  intro pP eE sS mM below meth cC hx hb hml hr hts hown hlk hP hK hX hS ls hl
  have hl : lv_has ls 5 [(0, .ref (ad 0)), (1, .int (nI k)), (2, .int (nI w)), (3, .int x), (4, .int y)] := hl
  have hL : L < 3 := by omega
  have hlan := hZ.1.trans (lz_lt hL)
  have hm60 := (hZ.2.2 hL).2.1
  refine lv_aload_n hx hb dX7_against_0 rfl (lv_at hl 0 rfl) ?_
  refine xk_get hx hb hts (inX7_against_X7) hown hK hP 0 (by omega) (ci := 7) e2_obj rfl 2 (by decide) (flX7_against_9 hts) rfl (.ref (ad 1)) rfl dX7_against_1 ?_
  refine lv_iload_n hx hb dX7_against_4 rfl (lv_at hl 1 rfl) ?_
  refine xk_iald hx hb hK hP 1 (by omega) (n := 4) (e2_row 4 (by decide) rfl) rfl k (by omega) (by decide) dX7_against_5 ?_
  refine xn_eqi (y := nI L) hlan ?_
  refine lv_bipush (v := (-9)) hx hb dX7_against_6 (by decide) ?_
  refine lv_icmp_eq (tgt := 23) hx hb dX7_against_8 (by decide) (fun c_8 => absurd c_8 (lz_ne hL)) (fun c_8 => ?_)
  refine lv_aload_n hx hb dX7_against_11 rfl (lv_at hl 0 rfl) ?_
  refine xk_get hx hb hts (inX7_against_X7) hown hK hP 0 (by omega) (ci := 7) e2_obj rfl 2 (by decide) (flX7_against_9 hts) rfl (.ref (ad 1)) rfl dX7_against_12 ?_
  refine lv_iload_n hx hb dX7_against_15 rfl (lv_at hl 1 rfl) ?_
  refine xk_iald hx hb hK hP 1 (by omega) (n := 4) (e2_row 4 (by decide) rfl) rfl k (by omega) (by decide) dX7_against_16 ?_
  refine xn_eqi (y := nI L) hlan ?_
  refine lv_iload_n hx hb dX7_against_17 rfl (lv_at hl 2 rfl) ?_
  refine xn_ieq (tgt := 23) hx hb dX7_against_18 (by decide) (by omega) (by omega) (fun c_18 => ?_) (fun c_18 => absurd c_18 (by omega))
  refine lv_aload_n hx hb dX7_against_23 rfl (lv_at hl 0 rfl) ?_
  refine xk_get hx hb hts (inX7_against_X7) hown hK hP 0 (by omega) (ci := 7) e2_obj rfl 2 (by decide) (flX7_against_9 hts) rfl (.ref (ad 1)) rfl dX7_against_24 ?_
  refine lv_iload_n hx hb dX7_against_27 rfl (lv_at hl 1 rfl) ?_
  refine xk_iald hx hb hK hP 1 (by omega) (n := 4) (e2_row 4 (by decide) rfl) rfl k (by omega) (by decide) dX7_against_28 ?_
  refine xn_eqi (y := nI L) hlan ?_
  refine lv_bipush (v := (-9)) hx hb dX7_against_29 (by decide) ?_
  refine lv_icmp_ne (tgt := 36) hx hb dX7_against_31 (by decide) (fun c_31 => ?_) (fun c_31 => absurd c_31 (lz_ne hL))
  refine lv_iload hx hb dX7_against_36 (lv_at hl 4 rfl) ?_
  refine lv_if_ge (tgt := 43) hx hb dX7_against_38 (by decide) (fun c_38 => absurd c_38 (fun z => Int32.not_lt.mpr z hy)) (fun c_38 => ?_)
  refine lv_iconst (v := nI 4) hx hb dX7_against_41 (by decide) ?_
  exact xk_iret hx hb hr (vp_nar_int _) X2_ok hK hX hP hS hlk dX7_against_42 (⟨rfl, rfl⟩)

set_option maxRecDepth 20000 in
theorem flX7_against_13 {s : State} {av : Array Value} (hts : ∀ w ∈ wsX7_against, w.before av s = true) : (Cond.fieldLink RX7 13 "WellBackModel" "sheetLong" "[I").before av s = true := hts _ (by decide +kernel)
set_option maxHeartbeats 4000000 in
set_option maxRecDepth 100000 in
theorem k2_ag_idx (l : Launch) {D : va_G} {ca : Nat → ClassId} {ad : Nat → Nat} (hI : Ij ad 18) {σ : Sg} {k L m : Nat} {cc : Nat → Int32} {w : Nat} {x : Int32} {b1 : Nat} (hk4 : k < 4) (hZ : ShM σ k L m cc) (hw : w ≤ 2) (hLw : L = w) (hb1 : b1 < 2 ^ 31) (hxy : ∀ a b, a + b ≤ m → ¬ (x = nI a ∧ nI b1 = nI b)) : C2i l D ca ad yX7_against wsX7_against { frames := 0, cells := 0, slots := 0, locals := 0 } [.ref (ad 0), .int (nI k), .int (nI w), .int x, .int (nI b1)] σ (xFn (nI 3) σ) := by
  refine xk_entry cX7_against 5 (some .int) (by decide) rfl (Nat.le_of_ble_eq_true rfl) ?_
  intro pP eE sS mM below meth cC hx hb hml hr hts hown hlk hP hK hX hS ls hl
  have hl : lv_has ls 5 [(0, .ref (ad 0)), (1, .int (nI k)), (2, .int (nI w)), (3, .int x), (4, .int (nI b1))] := hl
  have hL : L < 3 := by omega
  have hlan := hZ.1.trans (lz_lt hL)
  have hm60 := (hZ.2.2 hL).2.1
  refine lv_aload_n hx hb dX7_against_0 rfl (lv_at hl 0 rfl) ?_
  refine xk_get hx hb hts (inX7_against_X7) hown hK hP 0 (by omega) (ci := 7) e2_obj rfl 2 (by decide) (flX7_against_9 hts) rfl (.ref (ad 1)) rfl dX7_against_1 ?_
  refine lv_iload_n hx hb dX7_against_4 rfl (lv_at hl 1 rfl) ?_
  refine xk_iald hx hb hK hP 1 (by omega) (n := 4) (e2_row 4 (by decide) rfl) rfl k (by omega) (by decide) dX7_against_5 ?_
  refine xn_eqi (y := nI L) hlan ?_
  refine lv_bipush (v := (-9)) hx hb dX7_against_6 (by decide) ?_
  refine lv_icmp_eq (tgt := 23) hx hb dX7_against_8 (by decide) (fun c_8 => absurd c_8 (lz_ne hL)) (fun c_8 => ?_)
  refine lv_aload_n hx hb dX7_against_11 rfl (lv_at hl 0 rfl) ?_
  refine xk_get hx hb hts (inX7_against_X7) hown hK hP 0 (by omega) (ci := 7) e2_obj rfl 2 (by decide) (flX7_against_9 hts) rfl (.ref (ad 1)) rfl dX7_against_12 ?_
  refine lv_iload_n hx hb dX7_against_15 rfl (lv_at hl 1 rfl) ?_
  refine xk_iald hx hb hK hP 1 (by omega) (n := 4) (e2_row 4 (by decide) rfl) rfl k (by omega) (by decide) dX7_against_16 ?_
  refine xn_eqi (y := nI L) hlan ?_
  refine lv_iload_n hx hb dX7_against_17 rfl (lv_at hl 2 rfl) ?_
  refine xn_ieq (tgt := 23) hx hb dX7_against_18 (by decide) (by omega) (by omega) (fun c_18 => ?_) (fun c_18 => absurd c_18 (by omega))
  refine lv_aload_n hx hb dX7_against_23 rfl (lv_at hl 0 rfl) ?_
  refine xk_get hx hb hts (inX7_against_X7) hown hK hP 0 (by omega) (ci := 7) e2_obj rfl 2 (by decide) (flX7_against_9 hts) rfl (.ref (ad 1)) rfl dX7_against_24 ?_
  refine lv_iload_n hx hb dX7_against_27 rfl (lv_at hl 1 rfl) ?_
  refine xk_iald hx hb hK hP 1 (by omega) (n := 4) (e2_row 4 (by decide) rfl) rfl k (by omega) (by decide) dX7_against_28 ?_
  refine xn_eqi (y := nI L) hlan ?_
  refine lv_bipush (v := (-9)) hx hb dX7_against_29 (by decide) ?_
  refine lv_icmp_ne (tgt := 36) hx hb dX7_against_31 (by decide) (fun c_31 => ?_) (fun c_31 => absurd c_31 (lz_ne hL))
  refine lv_iload hx hb dX7_against_36 (lv_at hl 4 rfl) ?_
  refine xn_zge (tgt := 43) hx hb dX7_against_38 (by decide) (by omega) (fun c_38 => ?_) (fun c_38 => absurd c_38 (by omega))
  refine lv_iload_n hx hb dX7_against_43 rfl (lv_at hl 3 rfl) ?_
  refine lv_if_lt (tgt := 70) hx hb dX7_against_44 (by decide) (fun c_44 => ?_) (fun c_44 => ?_)
  · refine lv_iconst (v := nI 3) hx hb dX7_against_70 (by decide) ?_
    refine lv_goto (tgt := 75) hx hb dX7_against_71 (by decide) ?_
    exact xk_iret hx hb hr (vp_nar_int _) X2_ok hK hX hP hS hlk dX7_against_75 (⟨rfl, rfl⟩)
  · obtain ⟨a1, ha1, rfl⟩ := nI_of c_44
    refine lv_iload_n hx hb dX7_against_47 rfl (lv_at hl 3 rfl) ?_
    refine lv_aload_n hx hb dX7_against_48 rfl (lv_at hl 0 rfl) ?_
    refine xk_get hx hb hts (inX7_against_X7) hown hK hP 0 (by omega) (ci := 7) e2_obj rfl 3 (by decide) (flX7_against_13 hts) rfl (.ref (ad 2)) rfl dX7_against_49 ?_
    refine lv_iload_n hx hb dX7_against_52 rfl (lv_at hl 1 rfl) ?_
    refine xk_iald hx hb hK hP 2 (by omega) (n := 4) (e2_row 4 (by decide) rfl) rfl k (by omega) (by decide) dX7_against_53 ?_
    refine xn_eqi (y := nI m) ((hZ.2.2 hL).1) ?_
    refine xn_igt (tgt := 70) hx hb dX7_against_54 (by decide) (by omega) (by omega) (fun c_54 => ?_) (fun c_54 => ?_)
    · refine lv_iconst (v := nI 3) hx hb dX7_against_70 (by decide) ?_
      refine lv_goto (tgt := 75) hx hb dX7_against_71 (by decide) ?_
      exact xk_iret hx hb hr (vp_nar_int _) X2_ok hK hX hP hS hlk dX7_against_75 (⟨rfl, rfl⟩)
    · refine lv_iload hx hb dX7_against_57 (lv_at hl 4 rfl) ?_
      refine lv_aload_n hx hb dX7_against_59 rfl (lv_at hl 0 rfl) ?_
      refine xk_get hx hb hts (inX7_against_X7) hown hK hP 0 (by omega) (ci := 7) e2_obj rfl 3 (by decide) (flX7_against_13 hts) rfl (.ref (ad 2)) rfl dX7_against_60 ?_
      refine lv_iload_n hx hb dX7_against_63 rfl (lv_at hl 1 rfl) ?_
      refine xk_iald hx hb hK hP 2 (by omega) (n := 4) (e2_row 4 (by decide) rfl) rfl k (by omega) (by decide) dX7_against_64 ?_
      refine xn_eqi (y := nI m) ((hZ.2.2 hL).1) ?_
      refine lv_iload_n hx hb dX7_against_65 rfl (lv_at hl 3 rfl) ?_
      refine xn_isub hx hb (by omega) dX7_against_66 ?_
      refine xn_ile (tgt := 74) hx hb dX7_against_67 (by decide) (by omega) (by omega) (fun c_67 => ?_) (fun c_67 => ?_)
      · exact absurd ⟨rfl, rfl⟩ (hxy a1 b1 (by omega))
      · refine lv_iconst (v := nI 3) hx hb dX7_against_70 (by decide) ?_
        refine lv_goto (tgt := 75) hx hb dX7_against_71 (by decide) ?_
        exact xk_iret hx hb hr (vp_nar_int _) X2_ok hK hX hP hS hlk dX7_against_75 (⟨rfl, rfl⟩)

set_option maxHeartbeats 4000000 in
set_option maxRecDepth 100000 in
theorem k2_ag_ok (l : Launch) {D : va_G} {ca : Nat → ClassId} {ad : Nat → Nat} (hI : Ij ad 18) {σ : Sg} {k L m : Nat} {cc : Nat → Int32} {w a b : Nat} (hk4 : k < 4) (hZ : ShM σ k L m cc) (hw : w ≤ 2) (hLw : L = w) (hab : a + b ≤ m) : C2i l D ca ad yX7_against wsX7_against { frames := 0, cells := 0, slots := 0, locals := 0 } [.ref (ad 0), .int (nI k), .int (nI w), .int (nI a), .int (nI b)] σ (xFn (nI 0) σ) := by
  refine xk_entry cX7_against 5 (some .int) (by decide) rfl (Nat.le_of_ble_eq_true rfl) ?_
  intro pP eE sS mM below meth cC hx hb hml hr hts hown hlk hP hK hX hS ls hl
  have hl : lv_has ls 5 [(0, .ref (ad 0)), (1, .int (nI k)), (2, .int (nI w)), (3, .int (nI a)), (4, .int (nI b))] := hl
  have hL : L < 3 := by omega
  have hlan := hZ.1.trans (lz_lt hL)
  have hm60 := (hZ.2.2 hL).2.1
  refine lv_aload_n hx hb dX7_against_0 rfl (lv_at hl 0 rfl) ?_
  refine xk_get hx hb hts (inX7_against_X7) hown hK hP 0 (by omega) (ci := 7) e2_obj rfl 2 (by decide) (flX7_against_9 hts) rfl (.ref (ad 1)) rfl dX7_against_1 ?_
  refine lv_iload_n hx hb dX7_against_4 rfl (lv_at hl 1 rfl) ?_
  refine xk_iald hx hb hK hP 1 (by omega) (n := 4) (e2_row 4 (by decide) rfl) rfl k (by omega) (by decide) dX7_against_5 ?_
  refine xn_eqi (y := nI L) hlan ?_
  refine lv_bipush (v := (-9)) hx hb dX7_against_6 (by decide) ?_
  refine lv_icmp_eq (tgt := 23) hx hb dX7_against_8 (by decide) (fun c_8 => absurd c_8 (lz_ne hL)) (fun c_8 => ?_)
  refine lv_aload_n hx hb dX7_against_11 rfl (lv_at hl 0 rfl) ?_
  refine xk_get hx hb hts (inX7_against_X7) hown hK hP 0 (by omega) (ci := 7) e2_obj rfl 2 (by decide) (flX7_against_9 hts) rfl (.ref (ad 1)) rfl dX7_against_12 ?_
  refine lv_iload_n hx hb dX7_against_15 rfl (lv_at hl 1 rfl) ?_
  refine xk_iald hx hb hK hP 1 (by omega) (n := 4) (e2_row 4 (by decide) rfl) rfl k (by omega) (by decide) dX7_against_16 ?_
  refine xn_eqi (y := nI L) hlan ?_
  refine lv_iload_n hx hb dX7_against_17 rfl (lv_at hl 2 rfl) ?_
  refine xn_ieq (tgt := 23) hx hb dX7_against_18 (by decide) (by omega) (by omega) (fun c_18 => ?_) (fun c_18 => absurd c_18 (by omega))
  refine lv_aload_n hx hb dX7_against_23 rfl (lv_at hl 0 rfl) ?_
  refine xk_get hx hb hts (inX7_against_X7) hown hK hP 0 (by omega) (ci := 7) e2_obj rfl 2 (by decide) (flX7_against_9 hts) rfl (.ref (ad 1)) rfl dX7_against_24 ?_
  refine lv_iload_n hx hb dX7_against_27 rfl (lv_at hl 1 rfl) ?_
  refine xk_iald hx hb hK hP 1 (by omega) (n := 4) (e2_row 4 (by decide) rfl) rfl k (by omega) (by decide) dX7_against_28 ?_
  refine xn_eqi (y := nI L) hlan ?_
  refine lv_bipush (v := (-9)) hx hb dX7_against_29 (by decide) ?_
  refine lv_icmp_ne (tgt := 36) hx hb dX7_against_31 (by decide) (fun c_31 => ?_) (fun c_31 => absurd c_31 (lz_ne hL))
  refine lv_iload hx hb dX7_against_36 (lv_at hl 4 rfl) ?_
  refine xn_zge (tgt := 43) hx hb dX7_against_38 (by decide) (by omega) (fun c_38 => ?_) (fun c_38 => absurd c_38 (by omega))
  refine lv_iload_n hx hb dX7_against_43 rfl (lv_at hl 3 rfl) ?_
  refine xn_zlt (tgt := 70) hx hb dX7_against_44 (by decide) (by omega) (fun c_44 => absurd c_44 (by omega)) (fun c_44 => ?_)
  refine lv_iload_n hx hb dX7_against_47 rfl (lv_at hl 3 rfl) ?_
  refine lv_aload_n hx hb dX7_against_48 rfl (lv_at hl 0 rfl) ?_
  refine xk_get hx hb hts (inX7_against_X7) hown hK hP 0 (by omega) (ci := 7) e2_obj rfl 3 (by decide) (flX7_against_13 hts) rfl (.ref (ad 2)) rfl dX7_against_49 ?_
  refine lv_iload_n hx hb dX7_against_52 rfl (lv_at hl 1 rfl) ?_
  refine xk_iald hx hb hK hP 2 (by omega) (n := 4) (e2_row 4 (by decide) rfl) rfl k (by omega) (by decide) dX7_against_53 ?_
  refine xn_eqi (y := nI m) ((hZ.2.2 hL).1) ?_
  refine xn_igt (tgt := 70) hx hb dX7_against_54 (by decide) (by omega) (by omega) (fun c_54 => absurd c_54 (by omega)) (fun c_54 => ?_)
  refine lv_iload hx hb dX7_against_57 (lv_at hl 4 rfl) ?_
  refine lv_aload_n hx hb dX7_against_59 rfl (lv_at hl 0 rfl) ?_
  refine xk_get hx hb hts (inX7_against_X7) hown hK hP 0 (by omega) (ci := 7) e2_obj rfl 3 (by decide) (flX7_against_13 hts) rfl (.ref (ad 2)) rfl dX7_against_60 ?_
  refine lv_iload_n hx hb dX7_against_63 rfl (lv_at hl 1 rfl) ?_
  refine xk_iald hx hb hK hP 2 (by omega) (n := 4) (e2_row 4 (by decide) rfl) rfl k (by omega) (by decide) dX7_against_64 ?_
  refine xn_eqi (y := nI m) ((hZ.2.2 hL).1) ?_
  refine lv_iload_n hx hb dX7_against_65 rfl (lv_at hl 3 rfl) ?_
  refine xn_isub hx hb (by omega) dX7_against_66 ?_
  refine xn_ile (tgt := 74) hx hb dX7_against_67 (by decide) (by omega) (by omega) (fun c_67 => ?_) (fun c_67 => absurd c_67 (by omega))
  refine lv_iconst (v := nI 0) hx hb dX7_against_74 (by decide) ?_
  exact xk_iret hx hb hr (vp_nar_int _) X2_ok hK hX hP hS hlk dX7_against_75 (⟨rfl, rfl⟩)

set_option maxRecDepth 20000 in
theorem flX7_digit_16 {s : State} {av : Array Value} (hts : ∀ w ∈ wsX7_digit, w.before av s = true) : (Cond.fieldLink RX7 16 "WellBackModel" "cells" "[I").before av s = true := hts _ (by decide +kernel)
set_option maxRecDepth 20000 in
theorem flX7_digit_74 {s : State} {av : Array Value} (hts : ∀ w ∈ wsX7_digit, w.before av s = true) : (Cond.fieldLink RX7 74 "WellBackModel" "at" "I").before av s = true := hts _ (by decide +kernel)
set_option maxRecDepth 20000 in
theorem inX7_digit_X7 : ∀ w ∈ u_ws RX7 TX7 30, w ∈ wsX7_digit := by decide +kernel
set_option maxHeartbeats 4000000 in
set_option maxRecDepth 100000 in
theorem k2_digit_t (l : Launch) {D : va_G} {ca : Nat → ClassId} {ad : Nat → Nat} (hI : Ij ad 18) {σ : Sg} {F m k : Nat} {t : Nat → Int32} {q : Nat} (hE : F + m ≤ 240) (hC : ∀ j, j < m → σ 3 (F + j) = t j) (hA : σ 0 14 = nI (F + k)) (hkm : k ≤ m) (hq9 : q ≤ 9) (hd : dg (cd t m k) q) : C2i l D ca ad yX7_digit wsX7_digit { frames := 1, cells := 0, slots := 0, locals := 22 } [.ref (ad 0), .int (nI (F + m)), .int (nI q)] σ (xFn (nI (dv (cd t m k))) (up σ 0 14 (nI (F + k + 1)))) := by
  refine xk_entry cX7_digit 3 (some .int) (by decide) rfl (Nat.le_of_ble_eq_true rfl) ?_
  intro pP eE sS mM below meth cC hx hb hml hr hts hown hlk hP hK hX hS ls hl
  have hl : lv_has ls 3 [(0, .ref (ad 0)), (1, .int (nI (F + m))), (2, .int (nI q))] := hl
  have hkk := dg_k hd
  have hdv := dg_dv hd hq9
  refine lv_aload_n hx hb dX7_digit_0 rfl (lv_at hl 0 rfl) ?_
  refine xk_get hx hb hts (inX7_digit_X7) hown hK hP 0 (by omega) (ci := 7) e2_obj rfl 14 (by decide) (flX7_digit_74 hts) rfl (.int (σ 0 14)) rfl dX7_digit_1 ?_
  refine xn_eqi (y := nI (F + k)) hA ?_
  refine lv_iload_n hx hb dX7_digit_4 rfl (lv_at hl 1 rfl) ?_
  refine xn_ige (tgt := 29) hx hb dX7_digit_5 (by decide) (by omega) (by omega) (fun c_5 => absurd c_5 (by omega)) (fun c_5 => ?_)
  refine lv_aload_n hx hb dX7_digit_8 rfl (lv_at hl 0 rfl) ?_
  refine xk_get hx hb hts (inX7_digit_X7) hown hK hP 0 (by omega) (ci := 7) e2_obj rfl 4 (by decide) (flX7_digit_16 hts) rfl (.ref (ad 3)) rfl dX7_digit_9 ?_
  refine lv_aload_n hx hb dX7_digit_12 rfl (lv_at hl 0 rfl) ?_
  refine xk_get hx hb hts (inX7_digit_X7) hown hK hP 0 (by omega) (ci := 7) e2_obj rfl 14 (by decide) (flX7_digit_74 hts) rfl (.int (σ 0 14)) rfl dX7_digit_13 ?_
  refine xn_eqi (y := nI (F + k)) hA ?_
  refine xk_iald hx hb hK hP 3 (by omega) (n := 240) (e2_row 240 (by decide) rfl) rfl (F + k) (by omega) (by decide) dX7_digit_16 ?_
  refine xn_eqi (y := t k) (hC _ (by omega)) ?_
  refine xn_eqi (y := cd t m k) ((cd_in (by omega)).symm) ?_
  refine lv_bipush (v := nI 48) hx hb dX7_digit_17 (by decide) ?_
  refine lv_bipush (v := nI 48) hx hb dX7_digit_19 (by decide) ?_
  refine lv_iload_n hx hb dX7_digit_21 rfl (lv_at hl 2 rfl) ?_
  refine xn_iadd hx hb dX7_digit_22 ?_
  refine xk_fi (va_runS (As := [.int (cd t m k), .int (nI 48), .int (nI (48 + q))]) (rest := []) ⟨hx, hb, hml, hown, hts⟩ (k2_within_t l hI (cd t m k) (nI 48) (nI (48 + q)) hd) (va_cwS 3 hts gX7_digit_X7_within rfl rfl rfl (by decide +kernel) ⟨Nat.le_of_ble_eq_true rfl, Nat.le_of_ble_eq_true rfl⟩) (xk_preS X2_ok hK hX hP) rfl rfl hl.1 rfl (lv_room (Nat.le_of_ble_eq_true rfl)) dX7_digit_23 ⟨Nat.le_of_ble_eq_true rfl, Nat.le_of_ble_eq_true rfl⟩) hS (fun H locs hP hS => ?_)
  refine xn_zne (tgt := 32) hx hb dX7_digit_26 (by decide) (by omega) (fun c_26 => ?_) (fun c_26 => absurd c_26 (by omega))
  refine lv_aload_n hx hb dX7_digit_32 rfl (lv_at hl 0 rfl) ?_
  refine lv_dup hx hb dX7_digit_33 rfl ?_
  refine xk_get hx hb hts (inX7_digit_X7) hown hK hP 0 (by omega) (ci := 7) e2_obj rfl 14 (by decide) (flX7_digit_74 hts) rfl (.int (σ 0 14)) rfl dX7_digit_34 ?_
  refine xn_eqi (y := nI (F + k)) hA ?_
  refine lv_iconst (v := nI 1) hx hb dX7_digit_37 (by decide) ?_
  refine xn_iadd hx hb dX7_digit_38 ?_
  refine xk_put hx hb hts (inX7_digit_X7) tyX7 tyX7_ok nmX7 hown hK hI hP hS 0 (by omega) (ci := 7) e2_obj rfl 14 (by decide) (flX7_digit_74 hts) rfl rfl (by decide +kernel) (Nat.le_of_ble_eq_true rfl) e2_loc (by rw [e2_obj]; simp [up]) dX7_digit_39 (fun H locs hP hS => ?_)
  refine lv_aload_n hx hb dX7_digit_42 rfl (lv_at hl 0 rfl) ?_
  refine xk_get hx hb hts (inX7_digit_X7) hown hK hP 0 (by omega) (ci := 7) e2_obj rfl 4 (by decide) (flX7_digit_16 hts) rfl (.ref (ad 3)) rfl dX7_digit_43 ?_
  refine lv_aload_n hx hb dX7_digit_46 rfl (lv_at hl 0 rfl) ?_
  refine xk_get hx hb hts (inX7_digit_X7) hown hK hP 0 (by omega) (ci := 7) e2_obj rfl 14 (by decide) (flX7_digit_74 hts) rfl (.int ((up σ 0 14 (nI ((F + k) + 1))) 0 14)) rfl dX7_digit_47 ?_
  refine xn_eqi (y := nI ((F + k) + 1)) up_s ?_
  refine lv_iconst (v := nI 1) hx hb dX7_digit_50 (by decide) ?_
  refine xn_isub hx hb (by omega) dX7_digit_51 ?_
  refine xn_eqi (y := nI (F + k)) (by congr 1) ?_
  refine xk_iald hx hb hK hP 3 (by omega) (n := 240) (e2_row 240 (by decide) rfl) rfl (F + k) (by omega) (by decide) dX7_digit_52 ?_
  refine xn_eqi (y := t k) ((up_n (by omega)).trans (hC _ (by omega))) ?_
  refine xn_eqi (y := nI (48 + dv (cd t m k))) ((cd_in (by omega)).symm.trans hdv.1) ?_
  refine lv_bipush (v := nI 48) hx hb dX7_digit_53 (by decide) ?_
  refine xn_isub hx hb (by omega) dX7_digit_55 ?_
  exact xk_iret hx hb hr (vp_nar_int _) X2_ok hK hX hP hS hlk dX7_digit_56 (⟨by congr 1; omega, rfl⟩)

set_option maxHeartbeats 4000000 in
set_option maxRecDepth 100000 in
theorem k2_digit_f (l : Launch) {D : va_G} {ca : Nat → ClassId} {ad : Nat → Nat} (hI : Ij ad 18) {σ : Sg} {F m k : Nat} {t : Nat → Int32} {q : Nat} (hE : F + m ≤ 240) (hC : ∀ j, j < m → σ 3 (F + j) = t j) (hA : σ 0 14 = nI (F + k)) (hkm : k ≤ m) (hq9 : q ≤ 9) (hd : ¬ dg (cd t m k) q) : C2i l D ca ad yX7_digit wsX7_digit { frames := 1, cells := 0, slots := 0, locals := 22 } [.ref (ad 0), .int (nI (F + m)), .int (nI q)] σ (xFn (-9) σ) := by
  refine xk_entry cX7_digit 3 (some .int) (by decide) rfl (Nat.le_of_ble_eq_true rfl) ?_
  intro pP eE sS mM below meth cC hx hb hml hr hts hown hlk hP hK hX hS ls hl
  have hl : lv_has ls 3 [(0, .ref (ad 0)), (1, .int (nI (F + m))), (2, .int (nI q))] := hl
  refine lv_aload_n hx hb dX7_digit_0 rfl (lv_at hl 0 rfl) ?_
  refine xk_get hx hb hts (inX7_digit_X7) hown hK hP 0 (by omega) (ci := 7) e2_obj rfl 14 (by decide) (flX7_digit_74 hts) rfl (.int (σ 0 14)) rfl dX7_digit_1 ?_
  refine xn_eqi (y := nI (F + k)) hA ?_
  refine lv_iload_n hx hb dX7_digit_4 rfl (lv_at hl 1 rfl) ?_
  refine xn_ige (tgt := 29) hx hb dX7_digit_5 (by decide) (by omega) (by omega) (fun c_5 => ?_) (fun c_5 => ?_)
  · refine lv_bipush (v := (-9)) hx hb dX7_digit_29 (by decide) ?_
    exact xk_iret hx hb hr (vp_nar_int _) X2_ok hK hX hP hS hlk dX7_digit_31 (⟨rfl, rfl⟩)
  · have hkk : k < m := by omega
    refine lv_aload_n hx hb dX7_digit_8 rfl (lv_at hl 0 rfl) ?_
    refine xk_get hx hb hts (inX7_digit_X7) hown hK hP 0 (by omega) (ci := 7) e2_obj rfl 4 (by decide) (flX7_digit_16 hts) rfl (.ref (ad 3)) rfl dX7_digit_9 ?_
    refine lv_aload_n hx hb dX7_digit_12 rfl (lv_at hl 0 rfl) ?_
    refine xk_get hx hb hts (inX7_digit_X7) hown hK hP 0 (by omega) (ci := 7) e2_obj rfl 14 (by decide) (flX7_digit_74 hts) rfl (.int (σ 0 14)) rfl dX7_digit_13 ?_
    refine xn_eqi (y := nI (F + k)) hA ?_
    refine xk_iald hx hb hK hP 3 (by omega) (n := 240) (e2_row 240 (by decide) rfl) rfl (F + k) (by omega) (by decide) dX7_digit_16 ?_
    refine xn_eqi (y := t k) (hC _ (by omega)) ?_
    refine xn_eqi (y := cd t m k) ((cd_in (by omega)).symm) ?_
    refine lv_bipush (v := nI 48) hx hb dX7_digit_17 (by decide) ?_
    refine lv_bipush (v := nI 48) hx hb dX7_digit_19 (by decide) ?_
    refine lv_iload_n hx hb dX7_digit_21 rfl (lv_at hl 2 rfl) ?_
    refine xn_iadd hx hb dX7_digit_22 ?_
    refine xk_fi (va_runS (As := [.int (cd t m k), .int (nI 48), .int (nI (48 + q))]) (rest := []) ⟨hx, hb, hml, hown, hts⟩ (k2_within_f l hI (cd t m k) (nI 48) (nI (48 + q)) hd) (va_cwS 3 hts gX7_digit_X7_within rfl rfl rfl (by decide +kernel) ⟨Nat.le_of_ble_eq_true rfl, Nat.le_of_ble_eq_true rfl⟩) (xk_preS X2_ok hK hX hP) rfl rfl hl.1 rfl (lv_room (Nat.le_of_ble_eq_true rfl)) dX7_digit_23 ⟨Nat.le_of_ble_eq_true rfl, Nat.le_of_ble_eq_true rfl⟩) hS (fun H locs hP hS => ?_)
    refine xn_zne (tgt := 32) hx hb dX7_digit_26 (by decide) (by omega) (fun c_26 => absurd c_26 (by omega)) (fun c_26 => ?_)
    refine lv_bipush (v := (-9)) hx hb dX7_digit_29 (by decide) ?_
    exact xk_iret hx hb hr (vp_nar_int _) X2_ok hK hX hP hS hlk dX7_digit_31 (⟨rfl, rfl⟩)

set_option maxRecDepth 20000 in
theorem flX7_isSign_16 {s : State} {av : Array Value} (hts : ∀ w ∈ wsX7_isSign, w.before av s = true) : (Cond.fieldLink RX7 16 "WellBackModel" "cells" "[I").before av s = true := hts _ (by decide +kernel)
set_option maxRecDepth 20000 in
theorem flX7_isSign_74 {s : State} {av : Array Value} (hts : ∀ w ∈ wsX7_isSign, w.before av s = true) : (Cond.fieldLink RX7 74 "WellBackModel" "at" "I").before av s = true := hts _ (by decide +kernel)
set_option maxRecDepth 20000 in
theorem inX7_isSign_X7 : ∀ w ∈ u_ws RX7 TX7 30, w ∈ wsX7_isSign := by decide +kernel
set_option maxHeartbeats 4000000 in
set_option maxRecDepth 100000 in
theorem k2_sign_t (l : Launch) {D : va_G} {ca : Nat → ClassId} {ad : Nat → Nat} (hI : Ij ad 18) {σ : Sg} {F m k : Nat} {t : Nat → Int32} {C : Nat} (hE : F + m ≤ 240) (hC : ∀ j, j < m → σ 3 (F + j) = t j) (hA : σ 0 14 = nI (F + k)) (hkm : k ≤ m) (hC2 : C < 2 ^ 31) (hs : cd t m k = nI C) : C2i l D ca ad yX7_isSign wsX7_isSign { frames := 0, cells := 0, slots := 0, locals := 0 } [.ref (ad 0), .int (nI (F + m)), .int (nI C)] σ (xFn (nI 1) (up σ 0 14 (nI (F + k + 1)))) := by
  refine xk_entry cX7_isSign 3 (some .boolean) (by decide) rfl (Nat.le_of_ble_eq_true rfl) ?_
  intro pP eE sS mM below meth cC hx hb hml hr hts hown hlk hP hK hX hS ls hl
  have hl : lv_has ls 3 [(0, .ref (ad 0)), (1, .int (nI (F + m))), (2, .int (nI C))] := hl
  have hkk := sg_k hs hC2
  refine lv_aload_n hx hb dX7_isSign_0 rfl (lv_at hl 0 rfl) ?_
  refine xk_get hx hb hts (inX7_isSign_X7) hown hK hP 0 (by omega) (ci := 7) e2_obj rfl 14 (by decide) (flX7_isSign_74 hts) rfl (.int (σ 0 14)) rfl dX7_isSign_1 ?_
  refine xn_eqi (y := nI (F + k)) hA ?_
  refine lv_iload_n hx hb dX7_isSign_4 rfl (lv_at hl 1 rfl) ?_
  refine xn_ige (tgt := 21) hx hb dX7_isSign_5 (by decide) (by omega) (by omega) (fun c_5 => absurd c_5 (by omega)) (fun c_5 => ?_)
  refine lv_aload_n hx hb dX7_isSign_8 rfl (lv_at hl 0 rfl) ?_
  refine xk_get hx hb hts (inX7_isSign_X7) hown hK hP 0 (by omega) (ci := 7) e2_obj rfl 4 (by decide) (flX7_isSign_16 hts) rfl (.ref (ad 3)) rfl dX7_isSign_9 ?_
  refine lv_aload_n hx hb dX7_isSign_12 rfl (lv_at hl 0 rfl) ?_
  refine xk_get hx hb hts (inX7_isSign_X7) hown hK hP 0 (by omega) (ci := 7) e2_obj rfl 14 (by decide) (flX7_isSign_74 hts) rfl (.int (σ 0 14)) rfl dX7_isSign_13 ?_
  refine xn_eqi (y := nI (F + k)) hA ?_
  refine xk_iald hx hb hK hP 3 (by omega) (n := 240) (e2_row 240 (by decide) rfl) rfl (F + k) (by omega) (by decide) dX7_isSign_16 ?_
  refine xn_eqi (y := t k) (hC _ (by omega)) ?_
  refine xn_eqi (y := nI C) ((cd_in (by omega)).symm.trans hs) ?_
  refine lv_iload_n hx hb dX7_isSign_17 rfl (lv_at hl 2 rfl) ?_
  refine xn_ieq (tgt := 23) hx hb dX7_isSign_18 (by decide) (by omega) (by omega) (fun c_18 => ?_) (fun c_18 => absurd c_18 (by omega))
  refine lv_aload_n hx hb dX7_isSign_23 rfl (lv_at hl 0 rfl) ?_
  refine lv_dup hx hb dX7_isSign_24 rfl ?_
  refine xk_get hx hb hts (inX7_isSign_X7) hown hK hP 0 (by omega) (ci := 7) e2_obj rfl 14 (by decide) (flX7_isSign_74 hts) rfl (.int (σ 0 14)) rfl dX7_isSign_25 ?_
  refine xn_eqi (y := nI (F + k)) hA ?_
  refine lv_iconst (v := nI 1) hx hb dX7_isSign_28 (by decide) ?_
  refine xn_iadd hx hb dX7_isSign_29 ?_
  refine xk_put hx hb hts (inX7_isSign_X7) tyX7 tyX7_ok nmX7 hown hK hI hP hS 0 (by omega) (ci := 7) e2_obj rfl 14 (by decide) (flX7_isSign_74 hts) rfl rfl (by decide +kernel) (Nat.le_of_ble_eq_true rfl) e2_loc (by rw [e2_obj]; simp [up]) dX7_isSign_30 (fun H locs hP hS => ?_)
  refine lv_iconst (v := nI 1) hx hb dX7_isSign_33 (by decide) ?_
  exact xk_iret hx hb hr rfl X2_ok hK hX hP hS hlk dX7_isSign_34 (⟨rfl, rfl⟩)

set_option maxHeartbeats 4000000 in
set_option maxRecDepth 100000 in
theorem k2_sign_f (l : Launch) {D : va_G} {ca : Nat → ClassId} {ad : Nat → Nat} (hI : Ij ad 18) {σ : Sg} {F m k : Nat} {t : Nat → Int32} {C : Nat} (hE : F + m ≤ 240) (hC : ∀ j, j < m → σ 3 (F + j) = t j) (hA : σ 0 14 = nI (F + k)) (hkm : k ≤ m) (hC2 : C < 2 ^ 31) (hs : ¬ cd t m k = nI C) : C2i l D ca ad yX7_isSign wsX7_isSign { frames := 0, cells := 0, slots := 0, locals := 0 } [.ref (ad 0), .int (nI (F + m)), .int (nI C)] σ (xFn (nI 0) σ) := by
  refine xk_entry cX7_isSign 3 (some .boolean) (by decide) rfl (Nat.le_of_ble_eq_true rfl) ?_
  intro pP eE sS mM below meth cC hx hb hml hr hts hown hlk hP hK hX hS ls hl
  have hl : lv_has ls 3 [(0, .ref (ad 0)), (1, .int (nI (F + m))), (2, .int (nI C))] := hl
  refine lv_aload_n hx hb dX7_isSign_0 rfl (lv_at hl 0 rfl) ?_
  refine xk_get hx hb hts (inX7_isSign_X7) hown hK hP 0 (by omega) (ci := 7) e2_obj rfl 14 (by decide) (flX7_isSign_74 hts) rfl (.int (σ 0 14)) rfl dX7_isSign_1 ?_
  refine xn_eqi (y := nI (F + k)) hA ?_
  refine lv_iload_n hx hb dX7_isSign_4 rfl (lv_at hl 1 rfl) ?_
  refine xn_ige (tgt := 21) hx hb dX7_isSign_5 (by decide) (by omega) (by omega) (fun c_5 => ?_) (fun c_5 => ?_)
  · refine lv_iconst (v := nI 0) hx hb dX7_isSign_21 (by decide) ?_
    exact xk_iret hx hb hr rfl X2_ok hK hX hP hS hlk dX7_isSign_22 (⟨rfl, rfl⟩)
  · have hkk : k < m := by omega
    refine lv_aload_n hx hb dX7_isSign_8 rfl (lv_at hl 0 rfl) ?_
    refine xk_get hx hb hts (inX7_isSign_X7) hown hK hP 0 (by omega) (ci := 7) e2_obj rfl 4 (by decide) (flX7_isSign_16 hts) rfl (.ref (ad 3)) rfl dX7_isSign_9 ?_
    refine lv_aload_n hx hb dX7_isSign_12 rfl (lv_at hl 0 rfl) ?_
    refine xk_get hx hb hts (inX7_isSign_X7) hown hK hP 0 (by omega) (ci := 7) e2_obj rfl 14 (by decide) (flX7_isSign_74 hts) rfl (.int (σ 0 14)) rfl dX7_isSign_13 ?_
    refine xn_eqi (y := nI (F + k)) hA ?_
    refine xk_iald hx hb hK hP 3 (by omega) (n := 240) (e2_row 240 (by decide) rfl) rfl (F + k) (by omega) (by decide) dX7_isSign_16 ?_
    refine xn_eqi (y := t k) (hC _ (by omega)) ?_
    refine xn_eqi (y := cd t m k) ((cd_in (by omega)).symm) ?_
    refine lv_iload_n hx hb dX7_isSign_17 rfl (lv_at hl 2 rfl) ?_
    refine lv_icmp_eq (tgt := 23) hx hb dX7_isSign_18 (by decide) (fun c_18 => absurd c_18 hs) (fun c_18 => ?_)
    refine lv_iconst (v := nI 0) hx hb dX7_isSign_21 (by decide) ?_
    exact xk_iret hx hb hr rfl X2_ok hK hX hP hS hlk dX7_isSign_22 (⟨rfl, rfl⟩)

set_option maxRecDepth 20000 in
theorem flX7_readTheRota_37 {s : State} {av : Array Value} (hts : ∀ w ∈ wsX7_readTheRota, w.before av s = true) : (Cond.fieldLink RX7 37 "WellBackModel" "readRota" "[I").before av s = true := hts _ (by decide +kernel)
set_option maxRecDepth 20000 in
theorem flX7_readTheRota_104 {s : State} {av : Array Value} (hts : ∀ w ∈ wsX7_readTheRota, w.before av s = true) : (Cond.fieldLink RX7 104 "WellBackModel" "readPlaces" "I").before av s = true := hts _ (by decide +kernel)
set_option maxRecDepth 20000 in
theorem inX7_readTheRota_X7 : ∀ w ∈ u_ws RX7 TX7 30, w ∈ wsX7_readTheRota := by decide +kernel
set_option maxHeartbeats 4000000 in
set_option maxRecDepth 100000 in
theorem k2_rota (l : Launch) {D : va_G} {ca : Nat → ClassId} {ad : Nat → Nat} (hI : Ij ad 18) {σ : Sg} {F m : Nat} {t : Nat → Int32} (hE : F + m ≤ 240) (hC : ∀ j, j < m → σ 3 (F + j) = t j) (hA : σ 0 14 = nI (F + (2 + 0))) (hrp0 : σ 0 16 = nI 0) (h2m : 2 ≤ m) : C2i l D ca ad yX7_readTheRota wsX7_readTheRota { frames := 2, cells := 0, slots := 0, locals := 44 } [.ref (ad 0), .int (nI (F + m))] σ (fun r σ' => r = (if pls (cd t m) 6 0 = 0 then nI 0 else nI 1) ∧ (∀ i, i ≠ 0 → i ≠ 10 → σ' i = σ i) ∧ (∀ j, j ≠ 14 → j ≠ 16 → σ' 0 j = σ 0 j) ∧ σ' 0 14 = nI (F + (2 + pls (cd t m) 6 0)) ∧ σ' 0 16 = nI (pls (cd t m) 6 0) ∧ ∀ j, j < pls (cd t m) 6 0 → σ' 10 j = nI (dv (cd t m (2 + j)))) := by
  refine xk_entry cX7_readTheRota 3 (some .boolean) (by decide) rfl (Nat.le_of_ble_eq_true rfl) ?_
  intro pP eE sS mM below meth cC hx hb hml hr hts hown hlk hP hK hX hS ls hl
  have hl : lv_has ls 3 [(0, .ref (ad 0)), (1, .int (nI (F + m)))] := hl
  have LP_0 : ∀ (n_0 : Nat) (k : Nat) (τ : Sg), (k ≤ 6) → (2 + k ≤ m) → (pls (cd t m) (6 - k) k = pls (cd t m) 6 0) → (∀ i, i ≠ 0 → i ≠ 10 → τ i = σ i) → (∀ j, j ≠ 14 → j ≠ 16 → τ 0 j = σ 0 j) → (τ 0 14 = nI (F + (2 + k))) → (τ 0 16 = nI k) → (∀ j, j < k → τ 10 j = nI (dv (cd t m (2 + j)))) → (6 - k) < n_0 → ∀ (H : Heap) (locs : List Loc) (ls : Array Slot), va_P D vwCl (wl ad 18 (en2 ad ca τ)) H → va_S (AA ad 18) sS.heap H locs → lv_has ls 3 [(0, .ref (ad 0)), (1, .int (nI (F + m)))] → Wwi2 pP l eE { frames := 2, cells := 0, slots := 0, locals := 44 } sS mM [.ref (ad 0), .int (nI (F + m))] below meth cC D ca ad (fun r σ' => r = (if pls (cd t m) 6 0 = 0 then nI 0 else nI 1) ∧ (∀ i, i ≠ 0 → i ≠ 10 → σ' i = σ i) ∧ (∀ j, j ≠ 14 → j ≠ 16 → σ' 0 j = σ 0 j) ∧ σ' 0 14 = nI (F + (2 + pls (cd t m) 6 0)) ∧ σ' 0 16 = nI (pls (cd t m) 6 0) ∧ ∀ j, j < pls (cd t m) 6 0 → σ' 10 j = nI (dv (cd t m (2 + j)))) H locs (F0 mM 0 ls []) := by
    intro n_0
    induction n_0 with
    | zero =>
      intro k τ hk hkm hv hfr hf0 hat hrp hrr hn_0
      exact absurd hn_0 (Nat.not_lt_zero _)
    | succ n_0 ih_0 =>
      intro k τ hk hkm hv hfr hf0 hat hrp hrr hn_0 H locs ls hP hS hl
      refine lv_aload_n hx hb dX7_readTheRota_0 rfl (lv_at hl 0 rfl) ?_
      refine xk_get hx hb hts (inX7_readTheRota_X7) hown hK hP 0 (by omega) (ci := 7) e2_obj rfl 16 (by decide) (flX7_readTheRota_104 hts) rfl (.int (τ 0 16)) rfl dX7_readTheRota_1 ?_
      refine xn_eqi (y := nI k) hrp ?_
      refine lv_bipush (v := nI 6) hx hb dX7_readTheRota_4 (by decide) ?_
      refine xn_ige (tgt := 58) hx hb dX7_readTheRota_6 (by decide) (by omega) (by omega) (fun c_6 => ?_) (fun c_6 => ?_)
      · refine lv_iconst (v := nI 1) hx hb dX7_readTheRota_58 (by decide) ?_
        exact xk_iret hx hb hr rfl X2_ok hK hX hP hS hlk dX7_readTheRota_59 (⟨by rw [(by rw [← hv, show 6 - k = 0 by omega]; rfl : pls (cd t m) 6 0 = k)]; exact (if_neg (by omega)).symm, hfr, hf0, by rw [(by rw [← hv, show 6 - k = 0 by omega]; rfl : pls (cd t m) 6 0 = k)]; exact hat, by rw [(by rw [← hv, show 6 - k = 0 by omega]; rfl : pls (cd t m) 6 0 = k)]; exact hrp, fun j hj => hrr j (by rw [(by rw [← hv, show 6 - k = 0 by omega]; rfl : pls (cd t m) 6 0 = k)] at hj; exact hj)⟩)
      · refine lv_aload_n hx hb dX7_readTheRota_9 rfl (lv_at hl 0 rfl) ?_
        refine lv_iload_n hx hb dX7_readTheRota_10 rfl (lv_at hl 1 rfl) ?_
        refine lv_iconst (v := nI 4) hx hb dX7_readTheRota_11 (by decide) ?_
        by_cases q_12 : dg (cd t m (2 + k)) 4
        · refine xk_fi (va_runV (As := [.int (nI (F + m)), .int (nI 4)]) (rest := []) ⟨hx, hb, hml, hown, hts⟩ (k2_digit_t l hI (F := F) (m := m) (k := 2 + k) (t := t) (q := 4) hE (fun j hj => by rw [hfr _ (by omega) (by omega)]; exact hC j hj) hat (by omega) (by omega) q_12) (cwV 2 hts gX7_readTheRota_X7_digit rfl rfl rfl (by decide +kernel) ⟨Nat.le_of_ble_eq_true rfl, Nat.le_of_ble_eq_true rfl⟩) (xk_preV X2_ok hK hX hP (xk_recv hK hP 0 (by omega) (ci := 7) e2_obj rfl)) rfl rfl hl.1 rfl (lv_room (Nat.le_of_ble_eq_true rfl)) dX7_readTheRota_12 ⟨Nat.le_of_ble_eq_true rfl, Nat.le_of_ble_eq_true rfl⟩) hS (fun H locs hP hS => ?_)
          have hkk := dg_k q_12
          have hdv := dg_dv q_12 (by omega)
          refine lv_istore_n (lv' := [(2, .int (nI (dv (cd t m (2 + k))))), (0, .ref (ad 0)), (1, .int (nI (F + m)))]) hx hb dX7_readTheRota_15 rfl hl (by decide) rfl (fun ls hl => ?_)
          refine lv_iload_n hx hb dX7_readTheRota_16 rfl (lv_at hl 0 rfl) ?_
          refine lv_bipush (v := (-9)) hx hb dX7_readTheRota_17 (by decide) ?_
          refine lv_icmp_ne (tgt := 35) hx hb dX7_readTheRota_19 (by decide) (fun c_19 => ?_) (fun c_19 => absurd c_19 (nI_n9' (by omega)))
          refine lv_aload_n hx hb dX7_readTheRota_35 rfl (lv_at hl 1 rfl) ?_
          refine xk_get hx hb hts (inX7_readTheRota_X7) hown hK hP 0 (by omega) (ci := 7) e2_obj rfl 18 (by decide) (flX7_readTheRota_37 hts) rfl (.ref (ad 10)) rfl dX7_readTheRota_36 ?_
          refine lv_aload_n hx hb dX7_readTheRota_39 rfl (lv_at hl 1 rfl) ?_
          refine xk_get hx hb hts (inX7_readTheRota_X7) hown hK hP 0 (by omega) (ci := 7) e2_obj rfl 16 (by decide) (flX7_readTheRota_104 hts) rfl (.int ((up τ 0 14 (nI (F + (2 + k) + 1))) 0 16)) rfl dX7_readTheRota_40 ?_
          refine xn_eqi (y := nI k) ((up_n (by omega)).trans hrp) ?_
          refine lv_iload_n hx hb dX7_readTheRota_43 rfl (lv_at hl 0 rfl) ?_
          refine xk_iast hx hb hK hI hP hS 10 (by omega) (n := 6) (fun τ => (e2_row 6 (by decide) rfl)) rfl k (by omega) (by decide) e2_loc dX7_readTheRota_44 (fun H locs hP hS => ?_)
          refine lv_aload_n hx hb dX7_readTheRota_45 rfl (lv_at hl 1 rfl) ?_
          refine lv_dup hx hb dX7_readTheRota_46 rfl ?_
          refine xk_get hx hb hts (inX7_readTheRota_X7) hown hK hP 0 (by omega) (ci := 7) e2_obj rfl 16 (by decide) (flX7_readTheRota_104 hts) rfl (.int ((up (up τ 0 14 (nI (F + (2 + k) + 1))) 10 k (nI (dv (cd t m (2 + k))))) 0 16)) rfl dX7_readTheRota_47 ?_
          refine xn_eqi (y := nI k) ((up_n (by omega)).trans ((up_n (by omega)).trans hrp)) ?_
          refine lv_iconst (v := nI 1) hx hb dX7_readTheRota_50 (by decide) ?_
          refine xn_iadd hx hb dX7_readTheRota_51 ?_
          refine xk_put hx hb hts (inX7_readTheRota_X7) tyX7 tyX7_ok nmX7 hown hK hI hP hS 0 (by omega) (ci := 7) e2_obj rfl 16 (by decide) (flX7_readTheRota_104 hts) rfl rfl (by decide +kernel) (Nat.le_of_ble_eq_true rfl) e2_loc (by rw [e2_obj]; simp [up]) dX7_readTheRota_52 (fun H locs hP hS => ?_)
          refine lv_goto (tgt := 0) hx hb dX7_readTheRota_55 (by decide) ?_
          exact ih_0 (k + 1) (up (up (up τ 0 14 (nI (F + (2 + k) + 1))) 10 k (nI (dv (cd t m (2 + k))))) 0 16 (nI (k + 1))) (by omega) (by omega) (by rw [← hv, show 6 - k = (6 - (k + 1)) + 1 by omega, pls, if_pos q_12]) (fun i a b => by rw [up_r a, up_r b, up_r a]; exact hfr i a b) (fun j a b => by rw [up_n (by omega), up_n (by omega), up_n (by omega)]; exact hf0 j a b) (by rw [up_n (by omega), up_n (by omega), up_s, show F + (2 + k) + 1 = F + (2 + (k + 1)) by omega]) up_s (fun j hj => by
          rw [up_r (by omega)]
          by_cases hjk : j = k
          · rw [hjk, up_s]
          · rw [up_n (by omega), up_r (by omega)]; exact hrr j (by omega)) (by omega) _ _ _ hP hS (lv_sub hl [1, 2] rfl)
        · refine xk_fi (va_runV (As := [.int (nI (F + m)), .int (nI 4)]) (rest := []) ⟨hx, hb, hml, hown, hts⟩ (k2_digit_f l hI (F := F) (m := m) (k := 2 + k) (t := t) (q := 4) hE (fun j hj => by rw [hfr _ (by omega) (by omega)]; exact hC j hj) hat (by omega) (by omega) q_12) (cwV 2 hts gX7_readTheRota_X7_digit rfl rfl rfl (by decide +kernel) ⟨Nat.le_of_ble_eq_true rfl, Nat.le_of_ble_eq_true rfl⟩) (xk_preV X2_ok hK hX hP (xk_recv hK hP 0 (by omega) (ci := 7) e2_obj rfl)) rfl rfl hl.1 rfl (lv_room (Nat.le_of_ble_eq_true rfl)) dX7_readTheRota_12 ⟨Nat.le_of_ble_eq_true rfl, Nat.le_of_ble_eq_true rfl⟩) hS (fun H locs hP hS => ?_)
          refine lv_istore_n (lv' := [(2, .int (-9)), (0, .ref (ad 0)), (1, .int (nI (F + m)))]) hx hb dX7_readTheRota_15 rfl hl (by decide) rfl (fun ls hl => ?_)
          refine lv_iload_n hx hb dX7_readTheRota_16 rfl (lv_at hl 0 rfl) ?_
          refine lv_bipush (v := (-9)) hx hb dX7_readTheRota_17 (by decide) ?_
          refine lv_icmp_ne (tgt := 35) hx hb dX7_readTheRota_19 (by decide) (fun c_19 => absurd rfl c_19) (fun c_19 => ?_)
          refine lv_aload_n hx hb dX7_readTheRota_22 rfl (lv_at hl 1 rfl) ?_
          refine xk_get hx hb hts (inX7_readTheRota_X7) hown hK hP 0 (by omega) (ci := 7) e2_obj rfl 16 (by decide) (flX7_readTheRota_104 hts) rfl (.int (τ 0 16)) rfl dX7_readTheRota_23 ?_
          refine xn_eqi (y := nI k) hrp ?_
          refine xn_zle (tgt := 33) hx hb dX7_readTheRota_26 (by decide) (by omega) (fun c_26 => ?_) (fun c_26 => ?_)
          · refine lv_iconst (v := nI 0) hx hb dX7_readTheRota_33 (by decide) ?_
            exact xk_iret hx hb hr rfl X2_ok hK hX hP hS hlk dX7_readTheRota_34 (⟨by rw [(by rw [← hv, show 6 - k = (5 - k) + 1 by omega, pls, if_neg q_12] : pls (cd t m) 6 0 = k)]; exact (if_pos (by omega)).symm, hfr, hf0, by rw [(by rw [← hv, show 6 - k = (5 - k) + 1 by omega, pls, if_neg q_12] : pls (cd t m) 6 0 = k)]; exact hat, by rw [(by rw [← hv, show 6 - k = (5 - k) + 1 by omega, pls, if_neg q_12] : pls (cd t m) 6 0 = k)]; exact hrp, fun j hj => hrr j (by rw [(by rw [← hv, show 6 - k = (5 - k) + 1 by omega, pls, if_neg q_12] : pls (cd t m) 6 0 = k)] at hj; exact hj)⟩)
          · refine lv_iconst (v := nI 1) hx hb dX7_readTheRota_29 (by decide) ?_
            refine lv_goto (tgt := 34) hx hb dX7_readTheRota_30 (by decide) ?_
            exact xk_iret hx hb hr rfl X2_ok hK hX hP hS hlk dX7_readTheRota_34 (⟨by rw [(by rw [← hv, show 6 - k = (5 - k) + 1 by omega, pls, if_neg q_12] : pls (cd t m) 6 0 = k)]; exact (if_neg (by omega)).symm, hfr, hf0, by rw [(by rw [← hv, show 6 - k = (5 - k) + 1 by omega, pls, if_neg q_12] : pls (cd t m) 6 0 = k)]; exact hat, by rw [(by rw [← hv, show 6 - k = (5 - k) + 1 by omega, pls, if_neg q_12] : pls (cd t m) 6 0 = k)]; exact hrp, fun j hj => hrr j (by rw [(by rw [← hv, show 6 - k = (5 - k) + 1 by omega, pls, if_neg q_12] : pls (cd t m) 6 0 = k)] at hj; exact hj)⟩)
  exact LP_0 _ 0 σ (by omega) (by omega) rfl (fun _ _ _ => rfl) (fun _ _ _ => rfl) hA hrp0 (fun j hj => absurd hj (Nat.not_lt_zero _)) (Nat.lt_succ_self _) _ _ _ hP hS (lv_sub hl [0, 1] rfl)

theorem f6_n {c : Nat → Int32} {s f k : Nat} (h : ¬ gq (c (s + k)) k) : f6 c s (f + 1) k = k := if_neg h
theorem f6_y {c : Nat → Int32} {s f k : Nat} (h : gq (c (s + k)) k) : f6 c s (f + 1) k = f6 c s f (k + 1) := if_pos h
theorem gq_9 {x : Int32} {k : Nat} (h : k = 2 ∨ k = 5) : gq x k ↔ dg x 9 := by
  rcases h with rfl | rfl <;> exact Iff.rfl
theorem gq_4 {x : Int32} {k : Nat} (h : k = 3 ∨ k = 4) : gq x k ↔ dg x 4 := by
  rcases h with rfl | rfl <;> exact Iff.rfl
theorem gq_1 {x : Int32} : gq x 1 ↔ ¬ kd x = 3 := Iff.rfl
theorem kd_108 {x : Int32} (h : x = nI 108) : kd x = 1 := by rw [kd, if_pos h]
theorem kd_114 {x : Int32} (h : x = nI 114) : kd x = 2 := by rw [h]; rfl
theorem kd_116 {x : Int32} (h : x = nI 116) : kd x = 0 := by rw [h]; rfl
theorem kd_no {x : Int32} (h1 : ¬ x = nI 108) (h2 : ¬ x = nI 114) (h3 : ¬ x = nI 116) : kd x = 3 := by rw [kd, if_neg h1, if_neg h2, if_neg h3]
theorem kd_k {t : Nat → Int32} {m k : Nat} (h : kd (cd t m k) < 3) : k < m := by
  rcases Nat.lt_or_ge k m with z | z
  · exact z
  · rw [cd_m1 z] at h
    exact absurd h (by decide)
theorem kz_n9 {k : Nat} (h : k < 3) : kz k = nI k := if_neg (by omega)

set_option maxRecDepth 20000 in
theorem flX7_readThing_16 {s : State} {av : Array Value} (hts : ∀ w ∈ wsX7_readThing, w.before av s = true) : (Cond.fieldLink RX7 16 "WellBackModel" "cells" "[I").before av s = true := hts _ (by decide +kernel)
set_option maxRecDepth 20000 in
theorem flX7_readThing_40 {s : State} {av : Array Value} (hts : ∀ w ∈ wsX7_readThing, w.before av s = true) : (Cond.fieldLink RX7 40 "WellBackModel" "read" "[I").before av s = true := hts _ (by decide +kernel)
set_option maxRecDepth 20000 in
theorem flX7_readThing_74 {s : State} {av : Array Value} (hts : ∀ w ∈ wsX7_readThing, w.before av s = true) : (Cond.fieldLink RX7 74 "WellBackModel" "at" "I").before av s = true := hts _ (by decide +kernel)
set_option maxRecDepth 20000 in
theorem flX7_readThing_110 {s : State} {av : Array Value} (hts : ∀ w ∈ wsX7_readThing, w.before av s = true) : (Cond.fieldLink RX7 110 "WellBackModel" "readMany" "I").before av s = true := hts _ (by decide +kernel)
set_option maxRecDepth 20000 in
theorem inX7_readThing_X7 : ∀ w ∈ u_ws RX7 TX7 30, w ∈ wsX7_readThing := by decide +kernel
set_option maxHeartbeats 4000000 in
set_option maxRecDepth 100000 in
theorem k2_thing (l : Launch) {D : va_G} {ca : Nat → ClassId} {ad : Nat → Nat} (hI : Ij ad 18) {σ : Sg} {F m x s : Nat} {t : Nat → Int32} (hE : F + m ≤ 240) (hC : ∀ j, j < m → σ 3 (F + j) = t j) (hA : σ 0 14 = nI (F + (s + 1))) (hM17 : σ 0 17 = nI x) (hsm : s + 1 ≤ m) (hx5 : x < 5) : C2i l D ca ad yX7_readThing wsX7_readThing { frames := 2, cells := 0, slots := 0, locals := 44 } [.ref (ad 0), .int (nI (F + m))] σ (fun r σ' => ((f6 (cd t m) s 5 1 = 6 ∧ r = nI 1 ∧ s + 6 ≤ m ∧ σ' 0 14 = nI (F + (s + 6)) ∧ σ' 0 17 = nI (x + 1) ∧ σ' 11 (5 * x) = nI (kd (cd t m (s + 1))) ∧ ∀ r, 1 ≤ r → r < 5 → σ' 11 (5 * x + r) = nI (dv (cd t m (s + 1 + r)))) ∨ (f6 (cd t m) s 5 1 ≠ 6 ∧ r = nI 0 ∧ σ' 0 14 = nI (F + (s + f6 (cd t m) s 5 1)))) ∧ (∀ i, i ≠ 0 → i ≠ 11 → σ' i = σ i) ∧ (∀ j, j ≠ 14 → j ≠ 17 → σ' 0 j = σ 0 j) ∧ ∀ j, j < 5 * x ∨ 5 * x + 5 ≤ j → σ' 11 j = σ 11 j) := by
  refine xk_entry cX7_readThing 5 (some .boolean) (by decide) rfl (Nat.le_of_ble_eq_true rfl) ?_
  intro pP eE sS mM below meth cC hx hb hml hr hts hown hlk hP hK hX hS ls hl
  have hl : lv_has ls 5 [(0, .ref (ad 0)), (1, .int (nI (F + m)))] := hl
  refine lv_iconst (v := nI 5) hx hb dX7_readThing_0 (by decide) ?_
  refine lv_aload_n hx hb dX7_readThing_1 rfl (lv_at hl 0 rfl) ?_
  refine xk_get hx hb hts (inX7_readThing_X7) hown hK hP 0 (by omega) (ci := 7) e2_obj rfl 17 (by decide) (flX7_readThing_110 hts) rfl (.int (σ 0 17)) rfl dX7_readThing_2 ?_
  refine xn_eqi (y := nI x) hM17 ?_
  refine xn_imul hx hb dX7_readThing_5 ?_
  refine lv_istore_n (lv' := [(2, .int (nI (5 * x))), (0, .ref (ad 0)), (1, .int (nI (F + m)))]) hx hb dX7_readThing_6 rfl hl (by decide) rfl (fun ls hl => ?_)
  have CT_67 :  ∀ (H : Heap) (locs : List Loc) (ls : Array Slot), va_P D vwCl (wl ad 18 (en2 ad ca (up σ 11 (5 * x) (kz (kd (cd t m (s + 1))))))) H → va_S (AA ad 18) sS.heap H locs → lv_has ls 5 [(0, .ref (ad 0)), (1, .int (nI (F + m))), (2, .int (nI (5 * x)))] → Wwi2 pP l eE { frames := 2, cells := 0, slots := 0, locals := 44 } sS mM [.ref (ad 0), .int (nI (F + m))] below meth cC D ca ad (fun r σ' => ((f6 (cd t m) s 5 1 = 6 ∧ r = nI 1 ∧ s + 6 ≤ m ∧ σ' 0 14 = nI (F + (s + 6)) ∧ σ' 0 17 = nI (x + 1) ∧ σ' 11 (5 * x) = nI (kd (cd t m (s + 1))) ∧ ∀ r, 1 ≤ r → r < 5 → σ' 11 (5 * x + r) = nI (dv (cd t m (s + 1 + r)))) ∨ (f6 (cd t m) s 5 1 ≠ 6 ∧ r = nI 0 ∧ σ' 0 14 = nI (F + (s + f6 (cd t m) s 5 1)))) ∧ (∀ i, i ≠ 0 → i ≠ 11 → σ' i = σ i) ∧ (∀ j, j ≠ 14 → j ≠ 17 → σ' 0 j = σ 0 j) ∧ ∀ j, j < 5 * x ∨ 5 * x + 5 ≤ j → σ' 11 j = σ 11 j) H locs (F0 mM 67 ls []) := by
    intro  H locs ls hP hS hl
    refine lv_aload_n hx hb dX7_readThing_67 rfl (lv_at hl 0 rfl) ?_
    refine xk_get hx hb hts (inX7_readThing_X7) hown hK hP 0 (by omega) (ci := 7) e2_obj rfl 19 (by decide) (flX7_readThing_40 hts) rfl (.ref (ad 11)) rfl dX7_readThing_68 ?_
    refine lv_iload_n hx hb dX7_readThing_71 rfl (lv_at hl 2 rfl) ?_
    refine xk_iald hx hb hK hP 11 (by omega) (n := 25) (e2_row 25 (by decide) rfl) rfl (5 * x) (by omega) (by decide) dX7_readThing_72 ?_
    refine xn_eqi (y := kz (kd (cd t m (s + 1)))) up_s ?_
    refine lv_bipush (v := (-9)) hx hb dX7_readThing_73 (by decide) ?_
    refine lv_icmp_ne (tgt := 80) hx hb dX7_readThing_75 (by decide) (fun c_75 => ?_) (fun c_75 => ?_)
    · refine lv_aload_n hx hb dX7_readThing_80 rfl (lv_at hl 0 rfl) ?_
      refine lv_dup hx hb dX7_readThing_81 rfl ?_
      refine xk_get hx hb hts (inX7_readThing_X7) hown hK hP 0 (by omega) (ci := 7) e2_obj rfl 14 (by decide) (flX7_readThing_74 hts) rfl (.int ((up σ 11 (5 * x) (kz (kd (cd t m (s + 1))))) 0 14)) rfl dX7_readThing_82 ?_
      refine xn_eqi (y := nI (F + (s + 1))) ((up_n (by omega)).trans hA) ?_
      refine lv_iconst (v := nI 1) hx hb dX7_readThing_85 (by decide) ?_
      refine xn_iadd hx hb dX7_readThing_86 ?_
      refine xk_put hx hb hts (inX7_readThing_X7) tyX7 tyX7_ok nmX7 hown hK hI hP hS 0 (by omega) (ci := 7) e2_obj rfl 14 (by decide) (flX7_readThing_74 hts) rfl rfl (by decide +kernel) (Nat.le_of_ble_eq_true rfl) e2_loc (by rw [e2_obj]; simp [up]) dX7_readThing_87 (fun H locs hP hS => ?_)
      refine lv_iconst (v := nI 1) hx hb dX7_readThing_90 (by decide) ?_
      refine lv_istore (lv' := [(4, .int (nI 1)), (0, .ref (ad 0)), (1, .int (nI (F + m))), (2, .int (nI (5 * x)))]) hx hb dX7_readThing_91 hl (by decide) rfl (fun ls hl => ?_)
      have hkd3 : kd (cd t m (s + 1)) < 3 := by have := kd_le (cd t m (s + 1)); have : ¬ kd (cd t m (s + 1)) = 3 := fun z => c_75 (kz_9.mpr z); omega
      have hs1 : s + 1 < m := kd_k hkd3
      have LP_93 : ∀ (n_93 : Nat) (q : Nat) (τ : Sg), (1 ≤ q) → (q ≤ 5) → (s + 1 + q ≤ m) → (f6 (cd t m) s (5 - q) (q + 1) = f6 (cd t m) s 5 1) → (∀ i, i ≠ 0 → i ≠ 11 → τ i = σ i) → (∀ j, j ≠ 14 → τ 0 j = σ 0 j) → (τ 0 14 = nI (F + (s + 1 + q))) → (∀ j, j < 5 * x ∨ 5 * x + 5 ≤ j → τ 11 j = σ 11 j) → (τ 11 (5 * x) = nI (kd (cd t m (s + 1)))) → (∀ r, 1 ≤ r → r < q → τ 11 (5 * x + r) = nI (dv (cd t m (s + 1 + r)))) → (5 - q) < n_93 → ∀ (H : Heap) (locs : List Loc) (ls : Array Slot), va_P D vwCl (wl ad 18 (en2 ad ca τ)) H → va_S (AA ad 18) sS.heap H locs → lv_has ls 5 [(0, .ref (ad 0)), (1, .int (nI (F + m))), (2, .int (nI (5 * x))), (4, .int (nI q))] → Wwi2 pP l eE { frames := 2, cells := 0, slots := 0, locals := 44 } sS mM [.ref (ad 0), .int (nI (F + m))] below meth cC D ca ad (fun r σ' => ((f6 (cd t m) s 5 1 = 6 ∧ r = nI 1 ∧ s + 6 ≤ m ∧ σ' 0 14 = nI (F + (s + 6)) ∧ σ' 0 17 = nI (x + 1) ∧ σ' 11 (5 * x) = nI (kd (cd t m (s + 1))) ∧ ∀ r, 1 ≤ r → r < 5 → σ' 11 (5 * x + r) = nI (dv (cd t m (s + 1 + r)))) ∨ (f6 (cd t m) s 5 1 ≠ 6 ∧ r = nI 0 ∧ σ' 0 14 = nI (F + (s + f6 (cd t m) s 5 1)))) ∧ (∀ i, i ≠ 0 → i ≠ 11 → σ' i = σ i) ∧ (∀ j, j ≠ 14 → j ≠ 17 → σ' 0 j = σ 0 j) ∧ ∀ j, j < 5 * x ∨ 5 * x + 5 ≤ j → σ' 11 j = σ 11 j) H locs (F0 mM 93 ls []) := by
        intro n_93
        induction n_93 with
        | zero =>
          intro q τ hq1 hq5 hqm hf hfr hfj hat hro hr0 hrr hn_93
          exact absurd hn_93 (Nat.not_lt_zero _)
        | succ n_93 ih_93 =>
          intro q τ hq1 hq5 hqm hf hfr hfj hat hro hr0 hrr hn_93 H locs ls hP hS hl
          refine lv_iload hx hb dX7_readThing_93 (lv_at hl 3 rfl) ?_
          refine lv_iconst (v := nI 5) hx hb dX7_readThing_95 (by decide) ?_
          refine xn_ige (tgt := 153) hx hb dX7_readThing_96 (by decide) (by omega) (by omega) (fun c_96 => ?_) (fun c_96 => ?_)
          · refine lv_aload_n hx hb dX7_readThing_153 rfl (lv_at hl 0 rfl) ?_
            refine lv_dup hx hb dX7_readThing_154 rfl ?_
            refine xk_get hx hb hts (inX7_readThing_X7) hown hK hP 0 (by omega) (ci := 7) e2_obj rfl 17 (by decide) (flX7_readThing_110 hts) rfl (.int (τ 0 17)) rfl dX7_readThing_155 ?_
            refine xn_eqi (y := nI x) ((hfj 17 (by omega)).trans hM17) ?_
            refine lv_iconst (v := nI 1) hx hb dX7_readThing_158 (by decide) ?_
            refine xn_iadd hx hb dX7_readThing_159 ?_
            refine xk_put hx hb hts (inX7_readThing_X7) tyX7 tyX7_ok nmX7 hown hK hI hP hS 0 (by omega) (ci := 7) e2_obj rfl 17 (by decide) (flX7_readThing_110 hts) rfl rfl (by decide +kernel) (Nat.le_of_ble_eq_true rfl) e2_loc (by rw [e2_obj]; simp [up]) dX7_readThing_160 (fun H locs hP hS => ?_)
            refine lv_iconst (v := nI 1) hx hb dX7_readThing_163 (by decide) ?_
            exact xk_iret hx hb hr rfl X2_ok hK hX hP hS hlk dX7_readThing_164 (⟨.inl ⟨by rw [← hf, show 5 - q = 0 by omega]; simp only [f6]; omega, rfl, by omega, by rw [up_n (by omega), hat, show s + 1 + q = s + 6 by omega], up_s, by rw [up_n (by omega)]; exact hr0, fun r h1 h2 => by rw [up_n (by omega)]; exact hrr r h1 (by omega)⟩, fun i a b => by rw [up_r a]; exact hfr i a b, fun j a b => by rw [up_n (by omega)]; exact hfj j a, fun j hj => by rw [up_n (by omega)]; exact hro j hj⟩)
          · refine lv_aload_n hx hb dX7_readThing_99 rfl (lv_at hl 0 rfl) ?_
            refine xk_get hx hb hts (inX7_readThing_X7) hown hK hP 0 (by omega) (ci := 7) e2_obj rfl 19 (by decide) (flX7_readThing_40 hts) rfl (.ref (ad 11)) rfl dX7_readThing_100 ?_
            refine lv_iload_n hx hb dX7_readThing_103 rfl (lv_at hl 2 rfl) ?_
            refine lv_iload hx hb dX7_readThing_104 (lv_at hl 3 rfl) ?_
            refine xn_iadd hx hb dX7_readThing_106 ?_
            refine lv_aload_n hx hb dX7_readThing_107 rfl (lv_at hl 0 rfl) ?_
            refine lv_iload_n hx hb dX7_readThing_108 rfl (lv_at hl 1 rfl) ?_
            refine lv_iload hx hb dX7_readThing_109 (lv_at hl 3 rfl) ?_
            refine lv_iconst (v := nI 1) hx hb dX7_readThing_111 (by decide) ?_
            refine xn_ieq (tgt := 121) hx hb dX7_readThing_112 (by decide) (by omega) (by omega) (fun c_112 => ?_) (fun c_112 => ?_)
            · refine lv_bipush (v := nI 9) hx hb dX7_readThing_121 (by decide) ?_
              refine lv_goto (tgt := 127) hx hb dX7_readThing_123 (by decide) ?_
              by_cases q_127 : dg (cd t m (s + 1 + q)) 9
              · refine xk_fi (va_runV (As := [.int (nI (F + m)), .int (nI 9)]) (rest := [.int (nI ((5 * x) + q)), .ref (ad 11)]) ⟨hx, hb, hml, hown, hts⟩ (k2_digit_t l hI (F := F) (m := m) (k := s + 1 + q) (t := t) (q := 9) hE (fun j hj => by rw [hfr 3 (by omega) (by omega)]; exact hC j hj) hat (by omega) (by omega) q_127) (cwV 2 hts gX7_readThing_X7_digit rfl rfl rfl (by decide +kernel) ⟨Nat.le_of_ble_eq_true rfl, Nat.le_of_ble_eq_true rfl⟩) (xk_preV X2_ok hK hX hP (xk_recv hK hP 0 (by omega) (ci := 7) e2_obj rfl)) rfl rfl hl.1 rfl (lv_room (Nat.le_of_ble_eq_true rfl)) dX7_readThing_127 ⟨Nat.le_of_ble_eq_true rfl, Nat.le_of_ble_eq_true rfl⟩) hS (fun H locs hP hS => ?_)
                have hkk := dg_k q_127
                have hdv := dg_dv q_127 (by omega)
                refine xk_iast hx hb hK hI hP hS 11 (by omega) (n := 25) (fun τ => (e2_row 25 (by decide) rfl)) rfl ((5 * x) + q) (by omega) (by decide) e2_loc dX7_readThing_130 (fun H locs hP hS => ?_)
                refine lv_aload_n hx hb dX7_readThing_131 rfl (lv_at hl 0 rfl) ?_
                refine xk_get hx hb hts (inX7_readThing_X7) hown hK hP 0 (by omega) (ci := 7) e2_obj rfl 19 (by decide) (flX7_readThing_40 hts) rfl (.ref (ad 11)) rfl dX7_readThing_132 ?_
                refine lv_iload_n hx hb dX7_readThing_135 rfl (lv_at hl 2 rfl) ?_
                refine lv_iload hx hb dX7_readThing_136 (lv_at hl 3 rfl) ?_
                refine xn_iadd hx hb dX7_readThing_138 ?_
                refine xk_iald hx hb hK hP 11 (by omega) (n := 25) (e2_row 25 (by decide) rfl) rfl ((5 * x) + q) (by omega) (by decide) dX7_readThing_139 ?_
                refine xn_eqi (y := nI (dv (cd t m (s + 1 + q)))) up_s ?_
                refine lv_bipush (v := (-9)) hx hb dX7_readThing_140 (by decide) ?_
                refine lv_icmp_ne (tgt := 147) hx hb dX7_readThing_142 (by decide) (fun c_142 => ?_) (fun c_142 => absurd c_142 (nI_n9' (by omega)))
                refine lv_iinc (v := nI (q + 1)) (lv' := [(4, .int (nI (q + 1))), (0, .ref (ad 0)), (1, .int (nI (F + m))), (2, .int (nI (5 * x)))]) hx hb dX7_readThing_147 hl (k := 3) rfl (xn_inc _ 1) (by decide) rfl (fun ls hl => ?_)
                refine lv_goto (tgt := 93) hx hb dX7_readThing_150 (by decide) ?_
                exact ih_93 (q + 1) (up (up τ 0 14 (nI (F + (s + 1 + q) + 1))) 11 ((5 * x) + q) (nI (dv (cd t m (s + 1 + q))))) (by omega) (by omega) (by omega) (by rw [← hf, show 5 - q = (5 - (q + 1)) + 1 by omega, f6_y ((gq_9 (k := q + 1) (by omega)).mpr (by rw [show s + (q + 1) = s + 1 + q by omega]; exact q_127))]) (fun i a b => by rw [up_r b, up_r a]; exact hfr i a b) (fun j a => by rw [up_n (by omega), up_n (by omega)]; exact hfj j a) (by rw [up_n (by omega), up_s]; congr 1) (fun j hj => by rw [up_n (by omega), up_n (by omega)]; exact hro j hj) (by rw [up_n (by omega), up_n (by omega)]; exact hr0) (fun r h1 h2 => by
          by_cases hrq : r = q
          · rw [hrq, up_s]
          · rw [up_n (by omega), up_n (by omega)]; exact hrr r h1 (by omega)) (by omega) _ _ _ hP hS (lv_sub hl [1, 2, 3, 0] rfl)
              · refine xk_fi (va_runV (As := [.int (nI (F + m)), .int (nI 9)]) (rest := [.int (nI ((5 * x) + q)), .ref (ad 11)]) ⟨hx, hb, hml, hown, hts⟩ (k2_digit_f l hI (F := F) (m := m) (k := s + 1 + q) (t := t) (q := 9) hE (fun j hj => by rw [hfr 3 (by omega) (by omega)]; exact hC j hj) hat (by omega) (by omega) q_127) (cwV 2 hts gX7_readThing_X7_digit rfl rfl rfl (by decide +kernel) ⟨Nat.le_of_ble_eq_true rfl, Nat.le_of_ble_eq_true rfl⟩) (xk_preV X2_ok hK hX hP (xk_recv hK hP 0 (by omega) (ci := 7) e2_obj rfl)) rfl rfl hl.1 rfl (lv_room (Nat.le_of_ble_eq_true rfl)) dX7_readThing_127 ⟨Nat.le_of_ble_eq_true rfl, Nat.le_of_ble_eq_true rfl⟩) hS (fun H locs hP hS => ?_)
                refine xk_iast hx hb hK hI hP hS 11 (by omega) (n := 25) (fun τ => (e2_row 25 (by decide) rfl)) rfl ((5 * x) + q) (by omega) (by decide) e2_loc dX7_readThing_130 (fun H locs hP hS => ?_)
                refine lv_aload_n hx hb dX7_readThing_131 rfl (lv_at hl 0 rfl) ?_
                refine xk_get hx hb hts (inX7_readThing_X7) hown hK hP 0 (by omega) (ci := 7) e2_obj rfl 19 (by decide) (flX7_readThing_40 hts) rfl (.ref (ad 11)) rfl dX7_readThing_132 ?_
                refine lv_iload_n hx hb dX7_readThing_135 rfl (lv_at hl 2 rfl) ?_
                refine lv_iload hx hb dX7_readThing_136 (lv_at hl 3 rfl) ?_
                refine xn_iadd hx hb dX7_readThing_138 ?_
                refine xk_iald hx hb hK hP 11 (by omega) (n := 25) (e2_row 25 (by decide) rfl) rfl ((5 * x) + q) (by omega) (by decide) dX7_readThing_139 ?_
                refine xn_eqi (y := -9) up_s ?_
                refine lv_bipush (v := (-9)) hx hb dX7_readThing_140 (by decide) ?_
                refine lv_icmp_ne (tgt := 147) hx hb dX7_readThing_142 (by decide) (fun c_142 => absurd rfl c_142) (fun c_142 => ?_)
                refine lv_iconst (v := nI 0) hx hb dX7_readThing_145 (by decide) ?_
                exact xk_iret hx hb hr rfl X2_ok hK hX hP hS hlk dX7_readThing_146 (⟨.inr ⟨by rw [(by rw [← hf, show 5 - q = (4 - q) + 1 by omega]; exact f6_n (fun z => q_127 (by have := (gq_9 (k := q + 1) (by omega)).mp z; rwa [show s + (q + 1) = s + 1 + q by omega] at this)) : f6 (cd t m) s 5 1 = q + 1)]; omega, rfl, by rw [(by rw [← hf, show 5 - q = (4 - q) + 1 by omega]; exact f6_n (fun z => q_127 (by have := (gq_9 (k := q + 1) (by omega)).mp z; rwa [show s + (q + 1) = s + 1 + q by omega] at this)) : f6 (cd t m) s 5 1 = q + 1), up_r (by omega), hat, show s + 1 + q = s + (q + 1) by omega]⟩, fun i a b => by rw [up_r b]; exact hfr i a b, fun j a b => by rw [up_n (by omega)]; exact hfj j a, fun j hj => by rw [up_n (by omega)]; exact hro j hj⟩)
            · refine lv_iload hx hb dX7_readThing_115 (lv_at hl 3 rfl) ?_
              refine lv_iconst (v := nI 4) hx hb dX7_readThing_117 (by decide) ?_
              refine xn_ine (tgt := 126) hx hb dX7_readThing_118 (by decide) (by omega) (by omega) (fun c_118 => ?_) (fun c_118 => ?_)
              · refine lv_iconst (v := nI 4) hx hb dX7_readThing_126 (by decide) ?_
                by_cases q_127 : dg (cd t m (s + 1 + q)) 4
                · refine xk_fi (va_runV (As := [.int (nI (F + m)), .int (nI 4)]) (rest := [.int (nI ((5 * x) + q)), .ref (ad 11)]) ⟨hx, hb, hml, hown, hts⟩ (k2_digit_t l hI (F := F) (m := m) (k := s + 1 + q) (t := t) (q := 4) hE (fun j hj => by rw [hfr 3 (by omega) (by omega)]; exact hC j hj) hat (by omega) (by omega) q_127) (cwV 2 hts gX7_readThing_X7_digit rfl rfl rfl (by decide +kernel) ⟨Nat.le_of_ble_eq_true rfl, Nat.le_of_ble_eq_true rfl⟩) (xk_preV X2_ok hK hX hP (xk_recv hK hP 0 (by omega) (ci := 7) e2_obj rfl)) rfl rfl hl.1 rfl (lv_room (Nat.le_of_ble_eq_true rfl)) dX7_readThing_127 ⟨Nat.le_of_ble_eq_true rfl, Nat.le_of_ble_eq_true rfl⟩) hS (fun H locs hP hS => ?_)
                  have hkk := dg_k q_127
                  have hdv := dg_dv q_127 (by omega)
                  refine xk_iast hx hb hK hI hP hS 11 (by omega) (n := 25) (fun τ => (e2_row 25 (by decide) rfl)) rfl ((5 * x) + q) (by omega) (by decide) e2_loc dX7_readThing_130 (fun H locs hP hS => ?_)
                  refine lv_aload_n hx hb dX7_readThing_131 rfl (lv_at hl 0 rfl) ?_
                  refine xk_get hx hb hts (inX7_readThing_X7) hown hK hP 0 (by omega) (ci := 7) e2_obj rfl 19 (by decide) (flX7_readThing_40 hts) rfl (.ref (ad 11)) rfl dX7_readThing_132 ?_
                  refine lv_iload_n hx hb dX7_readThing_135 rfl (lv_at hl 2 rfl) ?_
                  refine lv_iload hx hb dX7_readThing_136 (lv_at hl 3 rfl) ?_
                  refine xn_iadd hx hb dX7_readThing_138 ?_
                  refine xk_iald hx hb hK hP 11 (by omega) (n := 25) (e2_row 25 (by decide) rfl) rfl ((5 * x) + q) (by omega) (by decide) dX7_readThing_139 ?_
                  refine xn_eqi (y := nI (dv (cd t m (s + 1 + q)))) up_s ?_
                  refine lv_bipush (v := (-9)) hx hb dX7_readThing_140 (by decide) ?_
                  refine lv_icmp_ne (tgt := 147) hx hb dX7_readThing_142 (by decide) (fun c_142 => ?_) (fun c_142 => absurd c_142 (nI_n9' (by omega)))
                  refine lv_iinc (v := nI (q + 1)) (lv' := [(4, .int (nI (q + 1))), (0, .ref (ad 0)), (1, .int (nI (F + m))), (2, .int (nI (5 * x)))]) hx hb dX7_readThing_147 hl (k := 3) rfl (xn_inc _ 1) (by decide) rfl (fun ls hl => ?_)
                  refine lv_goto (tgt := 93) hx hb dX7_readThing_150 (by decide) ?_
                  exact ih_93 (q + 1) (up (up τ 0 14 (nI (F + (s + 1 + q) + 1))) 11 ((5 * x) + q) (nI (dv (cd t m (s + 1 + q))))) (by omega) (by omega) (by omega) (by rw [← hf, show 5 - q = (5 - (q + 1)) + 1 by omega, f6_y ((gq_4 (k := q + 1) (by omega)).mpr (by rw [show s + (q + 1) = s + 1 + q by omega]; exact q_127))]) (fun i a b => by rw [up_r b, up_r a]; exact hfr i a b) (fun j a => by rw [up_n (by omega), up_n (by omega)]; exact hfj j a) (by rw [up_n (by omega), up_s]; congr 1) (fun j hj => by rw [up_n (by omega), up_n (by omega)]; exact hro j hj) (by rw [up_n (by omega), up_n (by omega)]; exact hr0) (fun r h1 h2 => by
          by_cases hrq : r = q
          · rw [hrq, up_s]
          · rw [up_n (by omega), up_n (by omega)]; exact hrr r h1 (by omega)) (by omega) _ _ _ hP hS (lv_sub hl [1, 2, 3, 0] rfl)
                · refine xk_fi (va_runV (As := [.int (nI (F + m)), .int (nI 4)]) (rest := [.int (nI ((5 * x) + q)), .ref (ad 11)]) ⟨hx, hb, hml, hown, hts⟩ (k2_digit_f l hI (F := F) (m := m) (k := s + 1 + q) (t := t) (q := 4) hE (fun j hj => by rw [hfr 3 (by omega) (by omega)]; exact hC j hj) hat (by omega) (by omega) q_127) (cwV 2 hts gX7_readThing_X7_digit rfl rfl rfl (by decide +kernel) ⟨Nat.le_of_ble_eq_true rfl, Nat.le_of_ble_eq_true rfl⟩) (xk_preV X2_ok hK hX hP (xk_recv hK hP 0 (by omega) (ci := 7) e2_obj rfl)) rfl rfl hl.1 rfl (lv_room (Nat.le_of_ble_eq_true rfl)) dX7_readThing_127 ⟨Nat.le_of_ble_eq_true rfl, Nat.le_of_ble_eq_true rfl⟩) hS (fun H locs hP hS => ?_)
                  refine xk_iast hx hb hK hI hP hS 11 (by omega) (n := 25) (fun τ => (e2_row 25 (by decide) rfl)) rfl ((5 * x) + q) (by omega) (by decide) e2_loc dX7_readThing_130 (fun H locs hP hS => ?_)
                  refine lv_aload_n hx hb dX7_readThing_131 rfl (lv_at hl 0 rfl) ?_
                  refine xk_get hx hb hts (inX7_readThing_X7) hown hK hP 0 (by omega) (ci := 7) e2_obj rfl 19 (by decide) (flX7_readThing_40 hts) rfl (.ref (ad 11)) rfl dX7_readThing_132 ?_
                  refine lv_iload_n hx hb dX7_readThing_135 rfl (lv_at hl 2 rfl) ?_
                  refine lv_iload hx hb dX7_readThing_136 (lv_at hl 3 rfl) ?_
                  refine xn_iadd hx hb dX7_readThing_138 ?_
                  refine xk_iald hx hb hK hP 11 (by omega) (n := 25) (e2_row 25 (by decide) rfl) rfl ((5 * x) + q) (by omega) (by decide) dX7_readThing_139 ?_
                  refine xn_eqi (y := -9) up_s ?_
                  refine lv_bipush (v := (-9)) hx hb dX7_readThing_140 (by decide) ?_
                  refine lv_icmp_ne (tgt := 147) hx hb dX7_readThing_142 (by decide) (fun c_142 => absurd rfl c_142) (fun c_142 => ?_)
                  refine lv_iconst (v := nI 0) hx hb dX7_readThing_145 (by decide) ?_
                  exact xk_iret hx hb hr rfl X2_ok hK hX hP hS hlk dX7_readThing_146 (⟨.inr ⟨by rw [(by rw [← hf, show 5 - q = (4 - q) + 1 by omega]; exact f6_n (fun z => q_127 (by have := (gq_4 (k := q + 1) (by omega)).mp z; rwa [show s + (q + 1) = s + 1 + q by omega] at this)) : f6 (cd t m) s 5 1 = q + 1)]; omega, rfl, by rw [(by rw [← hf, show 5 - q = (4 - q) + 1 by omega]; exact f6_n (fun z => q_127 (by have := (gq_4 (k := q + 1) (by omega)).mp z; rwa [show s + (q + 1) = s + 1 + q by omega] at this)) : f6 (cd t m) s 5 1 = q + 1), up_r (by omega), hat, show s + 1 + q = s + (q + 1) by omega]⟩, fun i a b => by rw [up_r b]; exact hfr i a b, fun j a b => by rw [up_n (by omega)]; exact hfj j a, fun j hj => by rw [up_n (by omega)]; exact hro j hj⟩)
              · refine lv_bipush (v := nI 9) hx hb dX7_readThing_121 (by decide) ?_
                refine lv_goto (tgt := 127) hx hb dX7_readThing_123 (by decide) ?_
                by_cases q_127 : dg (cd t m (s + 1 + q)) 9
                · refine xk_fi (va_runV (As := [.int (nI (F + m)), .int (nI 9)]) (rest := [.int (nI ((5 * x) + q)), .ref (ad 11)]) ⟨hx, hb, hml, hown, hts⟩ (k2_digit_t l hI (F := F) (m := m) (k := s + 1 + q) (t := t) (q := 9) hE (fun j hj => by rw [hfr 3 (by omega) (by omega)]; exact hC j hj) hat (by omega) (by omega) q_127) (cwV 2 hts gX7_readThing_X7_digit rfl rfl rfl (by decide +kernel) ⟨Nat.le_of_ble_eq_true rfl, Nat.le_of_ble_eq_true rfl⟩) (xk_preV X2_ok hK hX hP (xk_recv hK hP 0 (by omega) (ci := 7) e2_obj rfl)) rfl rfl hl.1 rfl (lv_room (Nat.le_of_ble_eq_true rfl)) dX7_readThing_127 ⟨Nat.le_of_ble_eq_true rfl, Nat.le_of_ble_eq_true rfl⟩) hS (fun H locs hP hS => ?_)
                  have hkk := dg_k q_127
                  have hdv := dg_dv q_127 (by omega)
                  refine xk_iast hx hb hK hI hP hS 11 (by omega) (n := 25) (fun τ => (e2_row 25 (by decide) rfl)) rfl ((5 * x) + q) (by omega) (by decide) e2_loc dX7_readThing_130 (fun H locs hP hS => ?_)
                  refine lv_aload_n hx hb dX7_readThing_131 rfl (lv_at hl 0 rfl) ?_
                  refine xk_get hx hb hts (inX7_readThing_X7) hown hK hP 0 (by omega) (ci := 7) e2_obj rfl 19 (by decide) (flX7_readThing_40 hts) rfl (.ref (ad 11)) rfl dX7_readThing_132 ?_
                  refine lv_iload_n hx hb dX7_readThing_135 rfl (lv_at hl 2 rfl) ?_
                  refine lv_iload hx hb dX7_readThing_136 (lv_at hl 3 rfl) ?_
                  refine xn_iadd hx hb dX7_readThing_138 ?_
                  refine xk_iald hx hb hK hP 11 (by omega) (n := 25) (e2_row 25 (by decide) rfl) rfl ((5 * x) + q) (by omega) (by decide) dX7_readThing_139 ?_
                  refine xn_eqi (y := nI (dv (cd t m (s + 1 + q)))) up_s ?_
                  refine lv_bipush (v := (-9)) hx hb dX7_readThing_140 (by decide) ?_
                  refine lv_icmp_ne (tgt := 147) hx hb dX7_readThing_142 (by decide) (fun c_142 => ?_) (fun c_142 => absurd c_142 (nI_n9' (by omega)))
                  refine lv_iinc (v := nI (q + 1)) (lv' := [(4, .int (nI (q + 1))), (0, .ref (ad 0)), (1, .int (nI (F + m))), (2, .int (nI (5 * x)))]) hx hb dX7_readThing_147 hl (k := 3) rfl (xn_inc _ 1) (by decide) rfl (fun ls hl => ?_)
                  refine lv_goto (tgt := 93) hx hb dX7_readThing_150 (by decide) ?_
                  exact ih_93 (q + 1) (up (up τ 0 14 (nI (F + (s + 1 + q) + 1))) 11 ((5 * x) + q) (nI (dv (cd t m (s + 1 + q))))) (by omega) (by omega) (by omega) (by rw [← hf, show 5 - q = (5 - (q + 1)) + 1 by omega, f6_y ((gq_9 (k := q + 1) (by omega)).mpr (by rw [show s + (q + 1) = s + 1 + q by omega]; exact q_127))]) (fun i a b => by rw [up_r b, up_r a]; exact hfr i a b) (fun j a => by rw [up_n (by omega), up_n (by omega)]; exact hfj j a) (by rw [up_n (by omega), up_s]; congr 1) (fun j hj => by rw [up_n (by omega), up_n (by omega)]; exact hro j hj) (by rw [up_n (by omega), up_n (by omega)]; exact hr0) (fun r h1 h2 => by
          by_cases hrq : r = q
          · rw [hrq, up_s]
          · rw [up_n (by omega), up_n (by omega)]; exact hrr r h1 (by omega)) (by omega) _ _ _ hP hS (lv_sub hl [1, 2, 3, 0] rfl)
                · refine xk_fi (va_runV (As := [.int (nI (F + m)), .int (nI 9)]) (rest := [.int (nI ((5 * x) + q)), .ref (ad 11)]) ⟨hx, hb, hml, hown, hts⟩ (k2_digit_f l hI (F := F) (m := m) (k := s + 1 + q) (t := t) (q := 9) hE (fun j hj => by rw [hfr 3 (by omega) (by omega)]; exact hC j hj) hat (by omega) (by omega) q_127) (cwV 2 hts gX7_readThing_X7_digit rfl rfl rfl (by decide +kernel) ⟨Nat.le_of_ble_eq_true rfl, Nat.le_of_ble_eq_true rfl⟩) (xk_preV X2_ok hK hX hP (xk_recv hK hP 0 (by omega) (ci := 7) e2_obj rfl)) rfl rfl hl.1 rfl (lv_room (Nat.le_of_ble_eq_true rfl)) dX7_readThing_127 ⟨Nat.le_of_ble_eq_true rfl, Nat.le_of_ble_eq_true rfl⟩) hS (fun H locs hP hS => ?_)
                  refine xk_iast hx hb hK hI hP hS 11 (by omega) (n := 25) (fun τ => (e2_row 25 (by decide) rfl)) rfl ((5 * x) + q) (by omega) (by decide) e2_loc dX7_readThing_130 (fun H locs hP hS => ?_)
                  refine lv_aload_n hx hb dX7_readThing_131 rfl (lv_at hl 0 rfl) ?_
                  refine xk_get hx hb hts (inX7_readThing_X7) hown hK hP 0 (by omega) (ci := 7) e2_obj rfl 19 (by decide) (flX7_readThing_40 hts) rfl (.ref (ad 11)) rfl dX7_readThing_132 ?_
                  refine lv_iload_n hx hb dX7_readThing_135 rfl (lv_at hl 2 rfl) ?_
                  refine lv_iload hx hb dX7_readThing_136 (lv_at hl 3 rfl) ?_
                  refine xn_iadd hx hb dX7_readThing_138 ?_
                  refine xk_iald hx hb hK hP 11 (by omega) (n := 25) (e2_row 25 (by decide) rfl) rfl ((5 * x) + q) (by omega) (by decide) dX7_readThing_139 ?_
                  refine xn_eqi (y := -9) up_s ?_
                  refine lv_bipush (v := (-9)) hx hb dX7_readThing_140 (by decide) ?_
                  refine lv_icmp_ne (tgt := 147) hx hb dX7_readThing_142 (by decide) (fun c_142 => absurd rfl c_142) (fun c_142 => ?_)
                  refine lv_iconst (v := nI 0) hx hb dX7_readThing_145 (by decide) ?_
                  exact xk_iret hx hb hr rfl X2_ok hK hX hP hS hlk dX7_readThing_146 (⟨.inr ⟨by rw [(by rw [← hf, show 5 - q = (4 - q) + 1 by omega]; exact f6_n (fun z => q_127 (by have := (gq_9 (k := q + 1) (by omega)).mp z; rwa [show s + (q + 1) = s + 1 + q by omega] at this)) : f6 (cd t m) s 5 1 = q + 1)]; omega, rfl, by rw [(by rw [← hf, show 5 - q = (4 - q) + 1 by omega]; exact f6_n (fun z => q_127 (by have := (gq_9 (k := q + 1) (by omega)).mp z; rwa [show s + (q + 1) = s + 1 + q by omega] at this)) : f6 (cd t m) s 5 1 = q + 1), up_r (by omega), hat, show s + 1 + q = s + (q + 1) by omega]⟩, fun i a b => by rw [up_r b]; exact hfr i a b, fun j a b => by rw [up_n (by omega)]; exact hfj j a, fun j hj => by rw [up_n (by omega)]; exact hro j hj⟩)
      exact LP_93 _ 1 (up (up σ 11 (5 * x) (kz (kd (cd t m (s + 1))))) 0 14 (nI ((F + (s + 1)) + 1))) (by omega) (by omega) (by omega) ((f6_y (c := cd t m) (s := s) (f := 4) (k := 1) (gq_1.mpr (by omega))).symm) (fun i a b => by rw [up_r a, up_r b]) (fun j a => by rw [up_n (by omega), up_n (by omega)]) (by rw [up_s]; congr 1) (fun j hj => by rw [up_n (by omega), up_n (by omega)]) (by rw [up_n (by omega), up_s]; exact kz_n9 hkd3) (fun r h1 h2 => absurd h2 (by omega)) (Nat.lt_succ_self _) _ _ _ hP hS (lv_sub hl [1, 2, 3, 0] rfl)
    · refine lv_iconst (v := nI 0) hx hb dX7_readThing_78 (by decide) ?_
      exact xk_iret hx hb hr rfl X2_ok hK hX hP hS hlk dX7_readThing_79 (⟨.inr ⟨by rw [f6_n (c := cd t m) (s := s) (f := 4) (k := 1) (fun z => gq_1.mp z (kz_9.mp c_75))]; omega, rfl, by rw [f6_n (c := cd t m) (s := s) (f := 4) (k := 1) (fun z => gq_1.mp z (kz_9.mp c_75)), up_r (by omega)]; exact hA⟩, fun i a b => up_r b, fun j a b => up_n (by omega), fun j hj => up_n (by omega)⟩)
  have CT_29 : ∀ (v : Int32), (kd v = kd (cd t m (s + 1))) → ∀ (H : Heap) (locs : List Loc) (ls : Array Slot), va_P D vwCl (wl ad 18 (en2 ad ca σ)) H → va_S (AA ad 18) sS.heap H locs → lv_has ls 5 [(0, .ref (ad 0)), (1, .int (nI (F + m))), (2, .int (nI (5 * x))), (3, .int v)] → Wwi2 pP l eE { frames := 2, cells := 0, slots := 0, locals := 44 } sS mM [.ref (ad 0), .int (nI (F + m))] below meth cC D ca ad (fun r σ' => ((f6 (cd t m) s 5 1 = 6 ∧ r = nI 1 ∧ s + 6 ≤ m ∧ σ' 0 14 = nI (F + (s + 6)) ∧ σ' 0 17 = nI (x + 1) ∧ σ' 11 (5 * x) = nI (kd (cd t m (s + 1))) ∧ ∀ r, 1 ≤ r → r < 5 → σ' 11 (5 * x + r) = nI (dv (cd t m (s + 1 + r)))) ∨ (f6 (cd t m) s 5 1 ≠ 6 ∧ r = nI 0 ∧ σ' 0 14 = nI (F + (s + f6 (cd t m) s 5 1)))) ∧ (∀ i, i ≠ 0 → i ≠ 11 → σ' i = σ i) ∧ (∀ j, j ≠ 14 → j ≠ 17 → σ' 0 j = σ 0 j) ∧ ∀ j, j < 5 * x ∨ 5 * x + 5 ≤ j → σ' 11 j = σ 11 j) H locs (F0 mM 29 ls []) := by
    intro v hv H locs ls hP hS hl
    refine lv_aload_n hx hb dX7_readThing_29 rfl (lv_at hl 0 rfl) ?_
    refine xk_get hx hb hts (inX7_readThing_X7) hown hK hP 0 (by omega) (ci := 7) e2_obj rfl 19 (by decide) (flX7_readThing_40 hts) rfl (.ref (ad 11)) rfl dX7_readThing_30 ?_
    refine lv_iload_n hx hb dX7_readThing_33 rfl (lv_at hl 2 rfl) ?_
    refine lv_iload_n hx hb dX7_readThing_34 rfl (lv_at hl 3 rfl) ?_
    refine lv_bipush (v := nI 116) hx hb dX7_readThing_35 (by decide) ?_
    refine lv_icmp_ne (tgt := 44) hx hb dX7_readThing_37 (by decide) (fun c_37 => ?_) (fun c_37 => ?_)
    · refine lv_iload_n hx hb dX7_readThing_44 rfl (lv_at hl 3 rfl) ?_
      refine lv_bipush (v := nI 108) hx hb dX7_readThing_45 (by decide) ?_
      refine lv_icmp_ne (tgt := 54) hx hb dX7_readThing_47 (by decide) (fun c_47 => ?_) (fun c_47 => ?_)
      · refine lv_iload_n hx hb dX7_readThing_54 rfl (lv_at hl 3 rfl) ?_
        refine lv_bipush (v := nI 114) hx hb dX7_readThing_55 (by decide) ?_
        refine lv_icmp_ne (tgt := 64) hx hb dX7_readThing_57 (by decide) (fun c_57 => ?_) (fun c_57 => ?_)
        · refine lv_bipush (v := (-9)) hx hb dX7_readThing_64 (by decide) ?_
          refine xn_eqi (y := kz (kd (cd t m (s + 1)))) (by rw [← hv, kd_no c_47 c_57 c_37]; rfl) ?_
          refine xk_iast hx hb hK hI hP hS 11 (by omega) (n := 25) (fun τ => (e2_row 25 (by decide) rfl)) rfl (5 * x) (by omega) (by decide) e2_loc dX7_readThing_66 (fun H locs hP hS => ?_)
          exact CT_67   _ _ _ hP hS (lv_sub hl [0, 1, 2] rfl)
        · refine lv_iconst (v := nI 2) hx hb dX7_readThing_60 (by decide) ?_
          refine lv_goto (tgt := 66) hx hb dX7_readThing_61 (by decide) ?_
          refine xn_eqi (y := kz (kd (cd t m (s + 1)))) (by rw [← hv, kd_114 c_57]; rfl) ?_
          refine xk_iast hx hb hK hI hP hS 11 (by omega) (n := 25) (fun τ => (e2_row 25 (by decide) rfl)) rfl (5 * x) (by omega) (by decide) e2_loc dX7_readThing_66 (fun H locs hP hS => ?_)
          exact CT_67   _ _ _ hP hS (lv_sub hl [0, 1, 2] rfl)
      · refine lv_iconst (v := nI 1) hx hb dX7_readThing_50 (by decide) ?_
        refine lv_goto (tgt := 66) hx hb dX7_readThing_51 (by decide) ?_
        refine xn_eqi (y := kz (kd (cd t m (s + 1)))) (by rw [← hv, kd_108 c_47]; rfl) ?_
        refine xk_iast hx hb hK hI hP hS 11 (by omega) (n := 25) (fun τ => (e2_row 25 (by decide) rfl)) rfl (5 * x) (by omega) (by decide) e2_loc dX7_readThing_66 (fun H locs hP hS => ?_)
        exact CT_67   _ _ _ hP hS (lv_sub hl [0, 1, 2] rfl)
    · refine lv_iconst (v := nI 0) hx hb dX7_readThing_40 (by decide) ?_
      refine lv_goto (tgt := 66) hx hb dX7_readThing_41 (by decide) ?_
      refine xn_eqi (y := kz (kd (cd t m (s + 1)))) (by rw [← hv, kd_116 c_37]; rfl) ?_
      refine xk_iast hx hb hK hI hP hS 11 (by omega) (n := 25) (fun τ => (e2_row 25 (by decide) rfl)) rfl (5 * x) (by omega) (by decide) e2_loc dX7_readThing_66 (fun H locs hP hS => ?_)
      exact CT_67   _ _ _ hP hS (lv_sub hl [0, 1, 2] rfl)
  refine lv_aload_n hx hb dX7_readThing_7 rfl (lv_at hl 1 rfl) ?_
  refine xk_get hx hb hts (inX7_readThing_X7) hown hK hP 0 (by omega) (ci := 7) e2_obj rfl 14 (by decide) (flX7_readThing_74 hts) rfl (.int (σ 0 14)) rfl dX7_readThing_8 ?_
  refine xn_eqi (y := nI (F + (s + 1))) hA ?_
  refine lv_iload_n hx hb dX7_readThing_11 rfl (lv_at hl 2 rfl) ?_
  refine xn_ige (tgt := 27) hx hb dX7_readThing_12 (by decide) (by omega) (by omega) (fun c_12 => ?_) (fun c_12 => ?_)
  · refine lv_iconst (v := nI 0) hx hb dX7_readThing_27 (by decide) ?_
    refine lv_istore_n (lv' := [(3, .int (nI 0)), (2, .int (nI (5 * x))), (0, .ref (ad 0)), (1, .int (nI (F + m)))]) hx hb dX7_readThing_28 rfl hl (by decide) rfl (fun ls hl => ?_)
    exact CT_29 (nI 0) (by rw [cd_m1 (by omega)]; rfl) _ _ _ hP hS (lv_sub hl [2, 3, 1, 0] rfl)
  · refine lv_aload_n hx hb dX7_readThing_15 rfl (lv_at hl 1 rfl) ?_
    refine xk_get hx hb hts (inX7_readThing_X7) hown hK hP 0 (by omega) (ci := 7) e2_obj rfl 4 (by decide) (flX7_readThing_16 hts) rfl (.ref (ad 3)) rfl dX7_readThing_16 ?_
    refine lv_aload_n hx hb dX7_readThing_19 rfl (lv_at hl 1 rfl) ?_
    refine xk_get hx hb hts (inX7_readThing_X7) hown hK hP 0 (by omega) (ci := 7) e2_obj rfl 14 (by decide) (flX7_readThing_74 hts) rfl (.int (σ 0 14)) rfl dX7_readThing_20 ?_
    refine xn_eqi (y := nI (F + (s + 1))) hA ?_
    refine xk_iald hx hb hK hP 3 (by omega) (n := 240) (e2_row 240 (by decide) rfl) rfl (F + (s + 1)) (by omega) (by decide) dX7_readThing_23 ?_
    refine xn_eqi (y := t (s + 1)) (hC _ (by omega)) ?_
    refine lv_goto (tgt := 28) hx hb dX7_readThing_24 (by decide) ?_
    refine lv_istore_n (lv' := [(3, .int (t (s + 1))), (2, .int (nI (5 * x))), (0, .ref (ad 0)), (1, .int (nI (F + m)))]) hx hb dX7_readThing_28 rfl hl (by decide) rfl (fun ls hl => ?_)
    exact CT_29 (t (s + 1)) (by rw [cd_in (by omega)]) _ _ _ hP hS (lv_sub hl [2, 3, 1, 0] rfl)
