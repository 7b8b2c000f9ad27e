set_option maxRecDepth 20000 in
theorem flX7_mostDrawn_43 {s : State} {av : Array Value} (hts : ∀ w ∈ wsX7_mostDrawn, w.before av s = true) : (Cond.fieldLink RX7 43 "WellBackModel" "count" "[I").before av s = true := hts _ (by decide +kernel)
set_option maxRecDepth 20000 in
theorem inX7_mostDrawn_X7 : ∀ w ∈ u_ws RX7 TX7 30, w ∈ wsX7_mostDrawn := by decide +kernel
set_option maxHeartbeats 4000000 in
set_option maxRecDepth 100000 in
theorem k2_most (l : Launch) {D : va_G} {ca : Nat → ClassId} {ad : Nat → Nat} (hI : Ij ad 18) {σ : Sg} {f : Nat → Nat} (hcn : ∀ k, k < 5 → σ 12 k = nI (f k)) (hf5 : ∀ k, f k ≤ 5) : C2i l D ca ad yX7_mostDrawn wsX7_mostDrawn { frames := 0, cells := 0, slots := 0, locals := 0 } [.ref (ad 0)] σ (xFn (bsy f 5).1 σ) := by
  refine xk_entry cX7_mostDrawn 4 (some .int) (by decide) rfl (Nat.le_of_ble_eq_true rfl) ?_
  intro pP eE sS mM below meth cC hx hb hml hr hts hown hlk hP hK hX hS ls hl
  have hl : lv_has ls 4 [(0, .ref (ad 0))] := hl
  refine lv_bipush (v := (-9)) hx hb dX7_mostDrawn_0 (by decide) ?_
  refine lv_istore_n (lv' := [(1, .int (-9)), (0, .ref (ad 0))]) hx hb dX7_mostDrawn_2 rfl hl (by decide) rfl (fun ls hl => ?_)
  refine lv_iconst (v := nI 0) hx hb dX7_mostDrawn_3 (by decide) ?_
  refine lv_istore_n (lv' := [(2, .int (nI 0)), (1, .int (-9)), (0, .ref (ad 0))]) hx hb dX7_mostDrawn_4 rfl hl (by decide) rfl (fun ls hl => ?_)
  refine lv_iconst (v := nI 0) hx hb dX7_mostDrawn_5 (by decide) ?_
  refine lv_istore_n (lv' := [(3, .int (nI 0)), (2, .int (nI 0)), (1, .int (-9)), (0, .ref (ad 0))]) hx hb dX7_mostDrawn_6 rfl hl (by decide) rfl (fun ls hl => ?_)
  have LP_7 : ∀ (n_7 : Nat) (k : Nat), (k ≤ 5) → (5 - k) < n_7 → ∀ (H : Heap) (locs : List Loc) (ls : Array Slot), va_P D vwCl (wl ad 18 (en2 ad ca σ)) H → va_S (AA ad 18) sS.heap H locs → lv_has ls 4 [(0, .ref (ad 0)), (1, .int ((bsy f k).1)), (2, .int (nI ((bsy f k).2))), (3, .int (nI k))] → Wwi2 pP l eE { frames := 0, cells := 0, slots := 0, locals := 0 } sS mM [.ref (ad 0)] below meth cC D ca ad (xFn (bsy f 5).1 σ) H locs (F0 mM 7 ls []) := by
    intro n_7
    induction n_7 with
    | zero =>
      intro k hk5 hn_7
      exact absurd hn_7 (Nat.not_lt_zero _)
    | succ n_7 ih_7 =>
      intro k hk5 hn_7 H locs ls hP hS hl
      refine lv_iload_n hx hb dX7_mostDrawn_7 rfl (lv_at hl 3 rfl) ?_
      refine lv_iconst (v := nI 5) hx hb dX7_mostDrawn_8 (by decide) ?_
      refine xn_ige (tgt := 37) hx hb dX7_mostDrawn_9 (by decide) (by omega) (by omega) (fun c_9 => ?_) (fun c_9 => ?_)
      · refine lv_iload_n hx hb dX7_mostDrawn_37 rfl (lv_at hl 1 rfl) ?_
        exact xk_iret hx hb hr (vp_nar_int _) X2_ok hK hX hP hS hlk dX7_mostDrawn_38 (⟨by rw [show k = 5 by omega], rfl⟩)
      · have hbl := bsy_le (f := f) (N := 5) hf5 k
        have hfk := hf5 k
        refine lv_aload_n hx hb dX7_mostDrawn_12 rfl (lv_at hl 0 rfl) ?_
        refine xk_get hx hb hts (inX7_mostDrawn_X7) hown hK hP 0 (by omega) (ci := 7) e2_obj rfl 23 (by decide) (flX7_mostDrawn_43 hts) rfl (.ref (ad 12)) rfl dX7_mostDrawn_13 ?_
        refine lv_iload_n hx hb dX7_mostDrawn_16 rfl (lv_at hl 3 rfl) ?_
        refine xk_iald hx hb hK hP 12 (by omega) (n := 5) (e2_row 5 (by decide) rfl) rfl k (by omega) (by decide) dX7_mostDrawn_17 ?_
        refine xn_eqi (y := nI (f k)) (hcn _ (by omega)) ?_
        refine lv_iload_n hx hb dX7_mostDrawn_18 rfl (lv_at hl 2 rfl) ?_
        refine xn_ile (tgt := 31) hx hb dX7_mostDrawn_19 (by decide) (by omega) (by omega) (fun c_19 => ?_) (fun c_19 => ?_)
        · refine lv_iinc (v := nI (k + 1)) (lv' := [(3, .int (nI (k + 1))), (0, .ref (ad 0)), (1, .int ((bsy f k).1)), (2, .int (nI ((bsy f k).2)))]) hx hb dX7_mostDrawn_31 hl (k := 3) rfl (xn_inc _ 1) (by decide) rfl (fun ls hl => ?_)
          refine lv_goto (tgt := 7) hx hb dX7_mostDrawn_34 (by decide) ?_
          have hbs : bsy f (k + 1) = bsy f k := by simp only [bsy]; exact if_neg (by omega)
          rw [← hbs] at hl
          exact ih_7 (k + 1) (by omega) (by omega) _ _ _ hP hS (lv_sub hl [1, 2, 3, 0] rfl)
        · refine lv_iload_n hx hb dX7_mostDrawn_22 rfl (lv_at hl 3 rfl) ?_
          refine lv_istore_n (lv' := [(1, .int (nI k)), (0, .ref (ad 0)), (2, .int (nI ((bsy f k).2))), (3, .int (nI k))]) hx hb dX7_mostDrawn_23 rfl hl (by decide) rfl (fun ls hl => ?_)
          refine lv_aload_n hx hb dX7_mostDrawn_24 rfl (lv_at hl 1 rfl) ?_
          refine xk_get hx hb hts (inX7_mostDrawn_X7) hown hK hP 0 (by omega) (ci := 7) e2_obj rfl 23 (by decide) (flX7_mostDrawn_43 hts) rfl (.ref (ad 12)) rfl dX7_mostDrawn_25 ?_
          refine lv_iload_n hx hb dX7_mostDrawn_28 rfl (lv_at hl 3 rfl) ?_
          refine xk_iald hx hb hK hP 12 (by omega) (n := 5) (e2_row 5 (by decide) rfl) rfl k (by omega) (by decide) dX7_mostDrawn_29 ?_
          refine xn_eqi (y := nI (f k)) (hcn _ (by omega)) ?_
          refine lv_istore_n (lv' := [(2, .int (nI (f k))), (1, .int (nI k)), (0, .ref (ad 0)), (3, .int (nI k))]) hx hb dX7_mostDrawn_30 rfl hl (by decide) rfl (fun ls hl => ?_)
          refine lv_iinc (v := nI (k + 1)) (lv' := [(3, .int (nI (k + 1))), (2, .int (nI (f k))), (1, .int (nI k)), (0, .ref (ad 0))]) hx hb dX7_mostDrawn_31 hl (k := 3) rfl (xn_inc _ 1) (by decide) rfl (fun ls hl => ?_)
          refine lv_goto (tgt := 7) hx hb dX7_mostDrawn_34 (by decide) ?_
          have hbs : bsy f (k + 1) = (nI k, f k) := by simp only [bsy]; exact if_pos (by omega)
          have hl : lv_has ls 4 [(3, .int (nI (k + 1))), (2, .int (nI ((bsy f (k + 1)).2))), (1, .int ((bsy f (k + 1)).1)), (0, .ref (ad 0))] := by rw [hbs]; exact hl
          exact ih_7 (k + 1) (by omega) (by omega) _ _ _ hP hS (lv_sub hl [3, 2, 1, 0] rfl)
  exact LP_7 _ 0 (by omega) (Nat.lt_succ_self _) _ _ _ hP hS (lv_sub hl [3, 2, 1, 0] rfl)

theorem FrM_12 {σ : Sg} {k : Nat} {v : Int32} : FrM σ (up σ 12 k v) := ⟨fun j _ => up_n (by omega), fun i _ _ => up_r (by omega)⟩
theorem or_0 {x : Int32} : x ||| nI 0 = x := Int32.or_zero
theorem oth_some {p : Nat} {d : Nat → Nat} {e h y : Nat} (hc : ¬ cta p d e h y p 1 = 0) : oth p d e h y = nI (d ((h + cta p d e h y p 1 * y) % p)) := if_neg hc
theorem oth_none {p : Nat} {d : Nat → Nat} {e h y : Nat} (hc : cta p d e h y p 1 = 0) : oth p d e h y = -9 := if_pos hc

set_option maxRecDepth 20000 in
theorem flX7_tellHours_16 {s : State} {av : Array Value} (hts : ∀ w ∈ wsX7_tellHours, w.before av s = true) : (Cond.fieldLink RX7 16 "WellBackModel" "cells" "[I").before av s = true := hts _ (by decide +kernel)
set_option maxRecDepth 20000 in
theorem inX7_tellHours_X7 : ∀ w ∈ u_ws RX7 TX7 30, w ∈ wsX7_tellHours := by decide +kernel
set_option maxHeartbeats 4000000 in
set_option maxRecDepth 100000 in
theorem k2_tellH_y (l : Launch) {D : va_G} {ca : Nat → ClassId} {ad : Nat → Nat} (hI : Ij ad 18) {σ : Sg} {n g : Nat} {th : Nat → Nat → Nat} {p : Nat} {d : Nat → Nat} {F : Nat} {hh : Nat → Nat} {y : Nat} (hT : ThM σ n g th) (hR : RotaM σ p d) (hp0 : 0 < p) (hFb : F + n ≤ 240) (hcc : ∀ x, x < n → σ 3 (F + x) = nI (hh x) ∧ hh x ≤ 23) (hyn : y < n) : C2i l D ca ad yX7_tellHours wsX7_tellHours { frames := 3, cells := 0, slots := 0, locals := 70 } [.ref (ad 0), .int (nI F), .int (nI (10 + y))] σ (fun r σ' => r = ot p d g th hh y ∧ FrM σ σ') := by
  refine xk_entry cX7_tellHours 7 (some .int) (by decide) rfl (Nat.le_of_ble_eq_true rfl) ?_
  intro pP eE sS mM below meth cC hx hb hml hr hts hown hlk hP hK hX hS ls hl
  have hl : lv_has ls 7 [(0, .ref (ad 0)), (1, .int (nI F)), (2, .int (nI (10 + y)))] := hl
  have hn5 := hT.2.2.1
  have hg9 := hT.2.2.2.1
  have hp6 := hR.2.1
  have hFc : FrF σ σ := FrF.rf
  have hTc := hT
  have hRc := hR
  have hhy := (hcc y hyn).2
  refine lv_iload_n hx hb dX7_tellHours_0 rfl (lv_at hl 2 rfl) ?_
  refine lv_bipush (v := nI 10) hx hb dX7_tellHours_1 (by decide) ?_
  refine xn_ilt (tgt := 42) hx hb dX7_tellHours_3 (by decide) (by omega) (by omega) (fun c_3 => absurd c_3 (by omega)) (fun c_3 => ?_)
  refine lv_aload_n hx hb dX7_tellHours_6 rfl (lv_at hl 0 rfl) ?_
  refine lv_iload_n hx hb dX7_tellHours_7 rfl (lv_at hl 2 rfl) ?_
  refine lv_bipush (v := nI 10) hx hb dX7_tellHours_8 (by decide) ?_
  refine xn_isub hx hb (by omega) dX7_tellHours_10 ?_
  refine xn_eqi (y := nI y) (by congr 1; omega) ?_
  refine xk_fi (va_runV (As := [.int (nI y)]) (rest := []) ⟨hx, hb, hml, hown, hts⟩ (k2_isThing_in l hI (x := y) hT hyn) (cwV 1 hts gX7_tellHours_X7_isThing rfl rfl rfl (by decide +kernel) ⟨Nat.le_of_ble_eq_true rfl, Nat.le_of_ble_eq_true rfl⟩) (xk_preV X2_ok hK hX hP (xk_recv hK hP 0 (by omega) (ci := 7) e2_obj rfl)) rfl rfl hl.1 rfl (lv_room (Nat.le_of_ble_eq_true rfl)) dX7_tellHours_11 ⟨Nat.le_of_ble_eq_true rfl, Nat.le_of_ble_eq_true rfl⟩) hS (fun H locs hP hS => ?_)
  refine xn_zeq (tgt := 39) hx hb dX7_tellHours_14 (by decide) (by omega) (fun c_14 => absurd c_14 (by omega)) (fun c_14 => ?_)
  refine lv_aload_n hx hb dX7_tellHours_17 rfl (lv_at hl 0 rfl) ?_
  refine lv_iload_n hx hb dX7_tellHours_18 rfl (lv_at hl 2 rfl) ?_
  refine lv_bipush (v := nI 10) hx hb dX7_tellHours_19 (by decide) ?_
  refine xn_isub hx hb (by omega) dX7_tellHours_21 ?_
  refine xn_eqi (y := nI y) (by congr 1; omega) ?_
  refine lv_aload_n hx hb dX7_tellHours_22 rfl (lv_at hl 0 rfl) ?_
  refine xk_get hx hb hts (inX7_tellHours_X7) hown hK hP 0 (by omega) (ci := 7) e2_obj rfl 4 (by decide) (flX7_tellHours_16 hts) rfl (.ref (ad 3)) rfl dX7_tellHours_23 ?_
  refine lv_iload_n hx hb dX7_tellHours_26 rfl (lv_at hl 1 rfl) ?_
  refine lv_iload_n hx hb dX7_tellHours_27 rfl (lv_at hl 2 rfl) ?_
  refine xn_iadd hx hb dX7_tellHours_28 ?_
  refine lv_bipush (v := nI 10) hx hb dX7_tellHours_29 (by decide) ?_
  refine xn_isub hx hb (by omega) dX7_tellHours_31 ?_
  refine xn_eqi (y := nI (F + y)) (by congr 1; omega) ?_
  refine xk_iald hx hb hK hP 3 (by omega) (n := 240) (e2_row 240 (by decide) rfl) rfl (F + y) (by omega) (by decide) dX7_tellHours_32 ?_
  refine xn_eqi (y := nI (hh y)) ((hcc _ (by omega)).1) ?_
  refine xk_ci (va_runV (As := [.int (nI y), .int (nI (hh y))]) (rest := []) ⟨hx, hb, hml, hown, hts⟩ (k2_drawerBy l hI (x := y) (h := hh y) hTc hRc hp0 (by omega) (by omega)) (cwV 2 hts gX7_tellHours_X7_drawerBy rfl rfl rfl (by decide +kernel) ⟨Nat.le_of_ble_eq_true rfl, Nat.le_of_ble_eq_true rfl⟩) (xk_preV X2_ok hK hX hP (xk_recv hK hP 0 (by omega) (ci := 7) e2_obj rfl)) rfl rfl hl.1 rfl (lv_room (Nat.le_of_ble_eq_true rfl)) dX7_tellHours_33 ⟨Nat.le_of_ble_eq_true rfl, Nat.le_of_ble_eq_true rfl⟩) hS (fun r33 τ33 H locs hp hP hS => ?_)
  obtain ⟨rfl, hdn, hF33⟩ := hp
  refine lv_goto (tgt := 41) hx hb dX7_tellHours_36 (by decide) ?_
  exact xk_iret hx hb hr (vp_nar_int _) X2_ok hK hX hP hS hlk dX7_tellHours_41 (⟨rfl, hF33.M⟩)

set_option maxHeartbeats 4000000 in
set_option maxRecDepth 100000 in
theorem k2_tellH_yo (l : Launch) {D : va_G} {ca : Nat → ClassId} {ad : Nat → Nat} (hI : Ij ad 18) {σ : Sg} {n g : Nat} {th : Nat → Nat → Nat} {p : Nat} {d : Nat → Nat} {F : Nat} {hh : Nat → Nat} {y : Nat} (hT : ThM σ n g th) (hR : RotaM σ p d) (hp0 : 0 < p) (hFb : F + n ≤ 240) (hcc : ∀ x, x < n → σ 3 (F + x) = nI (hh x) ∧ hh x ≤ 23) (hyn : n ≤ y) (hy4 : y ≤ 4) : C2i l D ca ad yX7_tellHours wsX7_tellHours { frames := 3, cells := 0, slots := 0, locals := 70 } [.ref (ad 0), .int (nI F), .int (nI (10 + y))] σ (fun r σ' => r = -9 ∧ FrM σ σ') := by
  refine xk_entry cX7_tellHours 7 (some .int) (by decide) rfl (Nat.le_of_ble_eq_true rfl) ?_
  intro pP eE sS mM below meth cC hx hb hml hr hts hown hlk hP hK hX hS ls hl
  have hl : lv_has ls 7 [(0, .ref (ad 0)), (1, .int (nI F)), (2, .int (nI (10 + y)))] := hl
  have hn5 := hT.2.2.1
  have hg9 := hT.2.2.2.1
  have hp6 := hR.2.1
  have hFc : FrF σ σ := FrF.rf
  have hTc := hT
  have hRc := hR
  refine lv_iload_n hx hb dX7_tellHours_0 rfl (lv_at hl 2 rfl) ?_
  refine lv_bipush (v := nI 10) hx hb dX7_tellHours_1 (by decide) ?_
  refine xn_ilt (tgt := 42) hx hb dX7_tellHours_3 (by decide) (by omega) (by omega) (fun c_3 => absurd c_3 (by omega)) (fun c_3 => ?_)
  refine lv_aload_n hx hb dX7_tellHours_6 rfl (lv_at hl 0 rfl) ?_
  refine lv_iload_n hx hb dX7_tellHours_7 rfl (lv_at hl 2 rfl) ?_
  refine lv_bipush (v := nI 10) hx hb dX7_tellHours_8 (by decide) ?_
  refine xn_isub hx hb (by omega) dX7_tellHours_10 ?_
  refine xn_eqi (y := nI y) (by congr 1; omega) ?_
  refine xk_fi (va_runV (As := [.int (nI y)]) (rest := []) ⟨hx, hb, hml, hown, hts⟩ (k2_isThing_out l hI (x := nI y) hT (fun j hj e => by have := (nI_eq (by omega) (by omega)).mp e; omega)) (cwV 1 hts gX7_tellHours_X7_isThing rfl rfl rfl (by decide +kernel) ⟨Nat.le_of_ble_eq_true rfl, Nat.le_of_ble_eq_true rfl⟩) (xk_preV X2_ok hK hX hP (xk_recv hK hP 0 (by omega) (ci := 7) e2_obj rfl)) rfl rfl hl.1 rfl (lv_room (Nat.le_of_ble_eq_true rfl)) dX7_tellHours_11 ⟨Nat.le_of_ble_eq_true rfl, Nat.le_of_ble_eq_true rfl⟩) hS (fun H locs hP hS => ?_)
  refine xn_zeq (tgt := 39) hx hb dX7_tellHours_14 (by decide) (by omega) (fun c_14 => ?_) (fun c_14 => absurd c_14 (by omega))
  refine lv_bipush (v := (-9)) hx hb dX7_tellHours_39 (by decide) ?_
  exact xk_iret hx hb hr (vp_nar_int _) X2_ok hK hX hP hS hlk dX7_tellHours_41 (⟨rfl, FrM.rf⟩)

set_option maxRecDepth 20000 in
theorem flX7_tellHours_31 {s : State} {av : Array Value} (hts : ∀ w ∈ wsX7_tellHours, w.before av s = true) : (Cond.fieldLink RX7 31 "WellBackModel" "goal" "[I").before av s = true := hts _ (by decide +kernel)
set_option maxRecDepth 20000 in
theorem flX7_tellHours_43 {s : State} {av : Array Value} (hts : ∀ w ∈ wsX7_tellHours, w.before av s = true) : (Cond.fieldLink RX7 43 "WellBackModel" "count" "[I").before av s = true := hts _ (by decide +kernel)
set_option maxRecDepth 20000 in
theorem flX7_tellHours_71 {s : State} {av : Array Value} (hts : ∀ w ∈ wsX7_tellHours, w.before av s = true) : (Cond.fieldLink RX7 71 "WellBackModel" "things" "I").before av s = true := hts _ (by decide +kernel)
set_option maxRecDepth 20000 in
theorem flX7_tellHours_141 {s : State} {av : Array Value} (hts : ∀ w ∈ wsX7_tellHours, w.before av s = true) : (Cond.fieldLink RX7 141 "WellBackModel" "drawn" "I").before av s = true := hts _ (by decide +kernel)
set_option maxHeartbeats 4000000 in
set_option maxRecDepth 100000 in
theorem k2_tellH_0 (l : Launch) {D : va_G} {ca : Nat → ClassId} {ad : Nat → Nat} (hI : Ij ad 18) {σ : Sg} {n g : Nat} {th : Nat → Nat → Nat} {p : Nat} {d : Nat → Nat} {F : Nat} {hh : Nat → Nat} (hT : ThM σ n g th) (hR : RotaM σ p d) (hp0 : 0 < p) (hFb : F + n ≤ 240) (hcc : ∀ x, x < n → σ 3 (F + x) = nI (hh x) ∧ hh x ≤ 23) : C2i l D ca ad yX7_tellHours wsX7_tellHours { frames := 3, cells := 0, slots := 0, locals := 70 } [.ref (ad 0), .int (nI F), .int (nI 0)] σ (fun r σ' => r = sbt (fun x => decide (rt p d g th x (hh x))) n ∧ FrM σ σ') := by
  refine xk_entry cX7_tellHours 7 (some .int) (by decide) rfl (Nat.le_of_ble_eq_true rfl) ?_
  intro pP eE sS mM below meth cC hx hb hml hr hts hown hlk hP hK hX hS ls hl
  have hl : lv_has ls 7 [(0, .ref (ad 0)), (1, .int (nI F)), (2, .int (nI 0))] := hl
  have hn5 := hT.2.2.1
  have hg9 := hT.2.2.2.1
  have hp6 := hR.2.1
  have hFc : FrF σ σ := FrF.rf
  have hTc := hT
  have hRc := hR
  refine lv_iload_n hx hb dX7_tellHours_0 rfl (lv_at hl 2 rfl) ?_
  refine lv_bipush (v := nI 10) hx hb dX7_tellHours_1 (by decide) ?_
  refine xn_ilt (tgt := 42) hx hb dX7_tellHours_3 (by decide) (by omega) (by omega) (fun c_3 => ?_) (fun c_3 => absurd c_3 (by omega))
  refine lv_iconst (v := nI 0) hx hb dX7_tellHours_42 (by decide) ?_
  refine lv_istore_n (lv' := [(3, .int (nI 0)), (0, .ref (ad 0)), (1, .int (nI F)), (2, .int (nI 0))]) hx hb dX7_tellHours_43 rfl hl (by decide) rfl (fun ls hl => ?_)
  refine lv_bipush (v := (-9)) hx hb dX7_tellHours_44 (by decide) ?_
  refine lv_istore (lv' := [(4, .int (-9)), (3, .int (nI 0)), (0, .ref (ad 0)), (1, .int (nI F)), (2, .int (nI 0))]) hx hb dX7_tellHours_46 hl (by decide) rfl (fun ls hl => ?_)
  refine lv_iconst (v := nI 0) hx hb dX7_tellHours_48 (by decide) ?_
  refine lv_istore (lv' := [(5, .int (nI 0)), (4, .int (-9)), (3, .int (nI 0)), (0, .ref (ad 0)), (1, .int (nI F)), (2, .int (nI 0))]) hx hb dX7_tellHours_49 hl (by decide) rfl (fun ls hl => ?_)
  have LP_51 : ∀ (n_51 : Nat) (k : Nat) (τ : Sg), (k ≤ 5) → (FrM σ τ) → (∀ j, j < k → τ 12 j = nI 0) → (5 - k) < n_51 → ∀ (H : Heap) (locs : List Loc) (ls : Array Slot), va_P D vwCl (wl ad 18 (en2 ad ca τ)) H → va_S (AA ad 18) sS.heap H locs → lv_has ls 7 [(0, .ref (ad 0)), (1, .int (nI F)), (2, .int (nI 0)), (3, .int (nI 0)), (4, .int (-9)), (5, .int (nI k))] → Wwi2 pP l eE { frames := 3, cells := 0, slots := 0, locals := 70 } sS mM [.ref (ad 0), .int (nI F), .int (nI 0)] below meth cC D ca ad (fun r σ' => r = sbt (fun x => decide (rt p d g th x (hh x))) n ∧ FrM σ σ') H locs (F0 mM 51 ls []) := by
    intro n_51
    induction n_51 with
    | zero =>
      intro k τ hk hFm hz hn_51
      exact absurd hn_51 (Nat.not_lt_zero _)
    | succ n_51 ih_51 =>
      intro k τ hk hFm hz hn_51 H locs ls hP hS hl
      refine lv_iload hx hb dX7_tellHours_51 (lv_at hl 5 rfl) ?_
      refine lv_iconst (v := nI 5) hx hb dX7_tellHours_53 (by decide) ?_
      refine xn_ige (tgt := 71) hx hb dX7_tellHours_54 (by decide) (by omega) (by omega) (fun c_54 => ?_) (fun c_54 => ?_)
      · have hz5 : ∀ j, j < 5 → τ 12 j = nI 0 := fun j hj => hz j (by omega)
        refine lv_iconst (v := nI 0) hx hb dX7_tellHours_71 (by decide) ?_
        refine lv_istore (lv' := [(5, .int (nI 0)), (0, .ref (ad 0)), (1, .int (nI F)), (2, .int (nI 0)), (3, .int (nI 0)), (4, .int (-9))]) hx hb dX7_tellHours_72 hl (by decide) rfl (fun ls hl => ?_)
        have LP_74 : ∀ (n_74 : Nat) (x : Nat) (τ2 : Sg), (x ≤ n) → (FrM σ τ2) → (∀ k, k < 5 → τ2 12 k = nI (cb (fun z => decide (ot p d g th hh z = nI k)) x)) → (n - x) < n_74 → ∀ (H : Heap) (locs : List Loc) (ls : Array Slot), va_P D vwCl (wl ad 18 (en2 ad ca τ2)) H → va_S (AA ad 18) sS.heap H locs → lv_has ls 7 [(0, .ref (ad 0)), (1, .int (nI F)), (2, .int (nI 0)), (3, .int (sbt (fun x => decide (rt p d g th x (hh x))) x)), (4, .int (lts (fun x => dwn p d (th x 2) (hh x) (dl g th x)) x)), (5, .int (nI x))] → Wwi2 pP l eE { frames := 3, cells := 0, slots := 0, locals := 70 } sS mM [.ref (ad 0), .int (nI F), .int (nI 0)] below meth cC D ca ad (fun r σ' => r = sbt (fun x => decide (rt p d g th x (hh x))) n ∧ FrM σ σ') H locs (F0 mM 74 ls []) := by
          intro n_74
          induction n_74 with
          | zero =>
            intro x τ2 hx0 hFn hcn2 hn_74
            exact absurd hn_74 (Nat.not_lt_zero _)
          | succ n_74 ih_74 =>
            intro x τ2 hx0 hFn hcn2 hn_74 H locs ls hP hS hl
            have hTc := ThM_fr hT hFn
            have hRc := RotaM_fr hR hFn
            have hcr : τ2 3 = σ 3 := hFn.2 3 (by omega) (by omega)
            refine lv_iload hx hb dX7_tellHours_74 (lv_at hl 5 rfl) ?_
            refine lv_aload_n hx hb dX7_tellHours_76 rfl (lv_at hl 0 rfl) ?_
            refine xk_get hx hb hts (inX7_tellHours_X7) hown hK hP 0 (by omega) (ci := 7) e2_obj rfl 7 (by decide) (flX7_tellHours_71 hts) rfl (.int (τ2 0 7)) rfl dX7_tellHours_77 ?_
            refine xn_eqi (y := nI n) hTc.2.1 ?_
            refine xn_ige (tgt := 167) hx hb dX7_tellHours_80 (by decide) (by omega) (by omega) (fun c_80 => ?_) (fun c_80 => ?_)
            · refine lv_iload_n hx hb dX7_tellHours_167 rfl (lv_at hl 2 rfl) ?_
              refine xn_zne (tgt := 175) hx hb dX7_tellHours_168 (by decide) (by omega) (fun c_168 => absurd c_168 (by omega)) (fun c_168 => ?_)
              refine lv_iload_n hx hb dX7_tellHours_171 rfl (lv_at hl 3 rfl) ?_
              refine lv_goto (tgt := 189) hx hb dX7_tellHours_172 (by decide) ?_
              exact xk_iret hx hb hr (vp_nar_int _) X2_ok hK hX hP hS hlk dX7_tellHours_189 (⟨by rw [show x = n by omega], hFn⟩)
            · have hXxc := hTc.2.2.2.2 x c_80
              obtain ⟨ho0, ho1, ho2, ho3, ho4⟩ := (hT.2.2.2.2 x c_80).2
              have hhx := (hcc x c_80).2
              have hdlx : dl g th x ≤ 36 := dly_le hg9 ho1
              refine lv_aload_n hx hb dX7_tellHours_83 rfl (lv_at hl 0 rfl) ?_
              refine lv_iload hx hb dX7_tellHours_84 (lv_at hl 5 rfl) ?_
              refine lv_aload_n hx hb dX7_tellHours_86 rfl (lv_at hl 0 rfl) ?_
              refine xk_get hx hb hts (inX7_tellHours_X7) hown hK hP 0 (by omega) (ci := 7) e2_obj rfl 4 (by decide) (flX7_tellHours_16 hts) rfl (.ref (ad 3)) rfl dX7_tellHours_87 ?_
              refine lv_iload_n hx hb dX7_tellHours_90 rfl (lv_at hl 1 rfl) ?_
              refine lv_iload hx hb dX7_tellHours_91 (lv_at hl 5 rfl) ?_
              refine xn_iadd hx hb dX7_tellHours_93 ?_
              refine xk_iald hx hb hK hP 3 (by omega) (n := 240) (e2_row 240 (by decide) rfl) rfl (F + x) (by omega) (by decide) dX7_tellHours_94 ?_
              refine xn_eqi (y := nI (hh x)) (by rw [hcr]; exact (hcc _ (by omega)).1) ?_
              refine xk_ci (va_runV (As := [.int (nI x), .int (nI (hh x))]) (rest := []) ⟨hx, hb, hml, hown, hts⟩ (k2_drawerBy l hI (x := x) (h := hh x) hTc hRc hp0 (by omega) (by omega)) (cwV 2 hts gX7_tellHours_X7_drawerBy rfl rfl rfl (by decide +kernel) ⟨Nat.le_of_ble_eq_true rfl, Nat.le_of_ble_eq_true rfl⟩) (xk_preV X2_ok hK hX hP (xk_recv hK hP 0 (by omega) (ci := 7) e2_obj rfl)) rfl rfl hl.1 rfl (lv_room (Nat.le_of_ble_eq_true rfl)) dX7_tellHours_95 ⟨Nat.le_of_ble_eq_true rfl, Nat.le_of_ble_eq_true rfl⟩) hS (fun r95 τ95 H locs hp hP hS => ?_)
              obtain ⟨rfl, hdn, hF95⟩ := hp
              have hFo := hFn.tr hF95.M
              have hTc := ThM_fr hT hFo
              have hRc := RotaM_fr hR hFo
              have hXxc := hTc.2.2.2.2 x c_80
              have hcn3 : ∀ k, k < 5 → τ95 12 k = nI (cb (fun z => decide (ot p d g th hh z = nI k)) x) := fun k hk => by rw [hF95.2 12 (by omega)]; exact hcn2 k hk
              refine lv_istore (lv' := [(6, .int (oth p d (th x 2) (hh x) (dl g th x))), (0, .ref (ad 0)), (1, .int (nI F)), (2, .int (nI 0)), (3, .int (sbt (fun x => decide (rt p d g th x (hh x))) x)), (4, .int (lts (fun x => dwn p d (th x 2) (hh x) (dl g th x)) x)), (5, .int (nI x))]) hx hb dX7_tellHours_98 hl (by decide) rfl (fun ls hl => ?_)
              refine lv_iload_n hx hb dX7_tellHours_100 rfl (lv_at hl 4 rfl) ?_
              refine lv_iload hx hb dX7_tellHours_101 (lv_at hl 0 rfl) ?_
              refine lv_aload_n hx hb dX7_tellHours_103 rfl (lv_at hl 1 rfl) ?_
              refine xk_get hx hb hts (inX7_tellHours_X7) hown hK hP 0 (by omega) (ci := 7) e2_obj rfl 12 (by decide) (flX7_tellHours_31 hts) rfl (.ref (ad 8)) rfl dX7_tellHours_104 ?_
              refine lv_iload hx hb dX7_tellHours_107 (lv_at hl 6 rfl) ?_
              refine xk_iald hx hb hK hP 8 (by omega) (n := 5) (e2_row 5 (by decide) rfl) rfl x (by omega) (by decide) dX7_tellHours_109 ?_
              refine xn_eqi (y := nI (th x 3)) (hXxc.1 3 (by omega)) ?_
              refine lv_icmp_ne (tgt := 120) hx hb dX7_tellHours_110 (by decide) (fun c_110 => ?_) (fun c_110 => ?_)
              · refine lv_iconst (v := nI 0) hx hb dX7_tellHours_120 (by decide) ?_
                refine lv_ior hx hb dX7_tellHours_121 ?_
                refine xn_eqi (y := sbt (fun x => decide (rt p d g th x (hh x))) (x + 1)) (by simp only [sbt]; rw [if_neg (by simpa using c_110)]; exact or_0) ?_
                refine lv_istore_n (lv' := [(3, .int (sbt (fun x => decide (rt p d g th x (hh x))) (x + 1))), (6, .int (oth p d (th x 2) (hh x) (dl g th x))), (0, .ref (ad 0)), (1, .int (nI F)), (2, .int (nI 0)), (4, .int (lts (fun x => dwn p d (th x 2) (hh x) (dl g th x)) x)), (5, .int (nI x))]) hx hb dX7_tellHours_122 rfl hl (by decide) rfl (fun ls hl => ?_)
                refine lv_aload_n hx hb dX7_tellHours_123 rfl (lv_at hl 2 rfl) ?_
                refine xk_get hx hb hts (inX7_tellHours_X7) hown hK hP 0 (by omega) (ci := 7) e2_obj rfl 21 (by decide) (flX7_tellHours_141 hts) rfl (.int (τ95 0 21)) rfl dX7_tellHours_124 ?_
                refine xn_eqi (y := dwn p d (th x 2) (hh x) (dl g th x)) hdn ?_
                refine lv_iload hx hb dX7_tellHours_127 (lv_at hl 5 rfl) ?_
                refine lv_icmp_le (tgt := 139) hx hb dX7_tellHours_129 (by decide) (fun c_129 => ?_) (fun c_129 => ?_)
                · refine lv_iload hx hb dX7_tellHours_139 (lv_at hl 5 rfl) ?_
                  refine xn_eqi (y := lts (fun x => dwn p d (th x 2) (hh x) (dl g th x)) (x + 1)) (by simp only [lts]; exact (if_neg (Int32.not_lt.mpr c_129)).symm) ?_
                  refine lv_istore (lv' := [(4, .int (lts (fun x => dwn p d (th x 2) (hh x) (dl g th x)) (x + 1))), (3, .int (sbt (fun x => decide (rt p d g th x (hh x))) (x + 1))), (6, .int (oth p d (th x 2) (hh x) (dl g th x))), (0, .ref (ad 0)), (1, .int (nI F)), (2, .int (nI 0)), (5, .int (nI x))]) hx hb dX7_tellHours_141 hl (by decide) rfl (fun ls hl => ?_)
                  by_cases q_143 : cta p d (th x 2) (hh x) (dl g th x) p 1 = 0
                  · have hoN := oth_none q_143
                    rw [hoN] at hl
                    refine lv_iload hx hb dX7_tellHours_143 (lv_at hl 2 rfl) ?_
                    refine lv_bipush (v := (-9)) hx hb dX7_tellHours_145 (by decide) ?_
                    refine lv_icmp_eq (tgt := 161) hx hb dX7_tellHours_147 (by decide) (fun c_147 => ?_) (fun c_147 => absurd rfl c_147)
                    refine lv_iinc (v := nI (x + 1)) (lv' := [(5, .int (nI (x + 1))), (4, .int (lts (fun x => dwn p d (th x 2) (hh x) (dl g th x)) (x + 1))), (3, .int (sbt (fun x => decide (rt p d g th x (hh x))) (x + 1))), (6, .int (-9)), (0, .ref (ad 0)), (1, .int (nI F)), (2, .int (nI 0))]) hx hb dX7_tellHours_161 hl (k := 6) rfl (xn_inc _ 1) (by decide) rfl (fun ls hl => ?_)
                    refine lv_goto (tgt := 74) hx hb dX7_tellHours_164 (by decide) ?_
                    exact ih_74 (x + 1) τ95 (by omega) hFo (fun k hk => by
            simp only [cb]
            rw [if_neg (by rw [decide_eq_true_eq]; show ¬ oth p d (th x 2) (hh x) (dl g th x) = nI k; rw [hoN]; exact nI_n9 (by omega))]
            exact hcn3 k hk) (by omega) _ _ _ hP hS (lv_sub hl [4, 5, 6, 2, 1, 0] rfl)
                  · have hoN := oth_some q_143
                    rw [hoN] at hl
                    have hd5 := (hR.2.2 _ (Nat.mod_lt (hh x + cta p d (th x 2) (hh x) (dl g th x) p 1 * dl g th x) hp0)).2
                    have hcbl := cb_le (fun z => decide (ot p d g th hh z = nI (d ((hh x + cta p d (th x 2) (hh x) (dl g th x) p 1 * dl g th x) % p)))) x
                    refine lv_iload hx hb dX7_tellHours_143 (lv_at hl 2 rfl) ?_
                    refine lv_bipush (v := (-9)) hx hb dX7_tellHours_145 (by decide) ?_
                    refine lv_icmp_eq (tgt := 161) hx hb dX7_tellHours_147 (by decide) (fun c_147 => absurd c_147 (nI_n9' (by omega))) (fun c_147 => ?_)
                    refine lv_aload_n hx hb dX7_tellHours_150 rfl (lv_at hl 3 rfl) ?_
                    refine xk_get hx hb hts (inX7_tellHours_X7) hown hK hP 0 (by omega) (ci := 7) e2_obj rfl 23 (by decide) (flX7_tellHours_43 hts) rfl (.ref (ad 12)) rfl dX7_tellHours_151 ?_
                    refine lv_iload hx hb dX7_tellHours_154 (lv_at hl 2 rfl) ?_
                    refine lv_dup2_11 hx hb dX7_tellHours_156 rfl rfl ?_
                    refine xk_iald hx hb hK hP 12 (by omega) (n := 5) (e2_row 5 (by decide) rfl) rfl (d ((hh x + cta p d (th x 2) (hh x) (dl g th x) p 1 * dl g th x) % p)) (by omega) (by decide) dX7_tellHours_157 ?_
                    refine xn_eqi (y := nI (cb (fun z => decide (ot p d g th hh z = nI (d ((hh x + cta p d (th x 2) (hh x) (dl g th x) p 1 * dl g th x) % p)))) x)) (hcn3 _ (by omega)) ?_
                    refine lv_iconst (v := nI 1) hx hb dX7_tellHours_158 (by decide) ?_
                    refine xn_iadd hx hb dX7_tellHours_159 ?_
                    refine xk_iast hx hb hK hI hP hS 12 (by omega) (n := 5) (fun τ => (e2_row 5 (by decide) rfl)) rfl (d ((hh x + cta p d (th x 2) (hh x) (dl g th x) p 1 * dl g th x) % p)) (by omega) (by decide) e2_loc dX7_tellHours_160 (fun H locs hP hS => ?_)
                    refine lv_iinc (v := nI (x + 1)) (lv' := [(5, .int (nI (x + 1))), (4, .int (lts (fun x => dwn p d (th x 2) (hh x) (dl g th x)) (x + 1))), (3, .int (sbt (fun x => decide (rt p d g th x (hh x))) (x + 1))), (6, .int (nI (d ((hh x + cta p d (th x 2) (hh x) (dl g th x) p 1 * dl g th x) % p)))), (0, .ref (ad 0)), (1, .int (nI F)), (2, .int (nI 0))]) hx hb dX7_tellHours_161 hl (k := 6) rfl (xn_inc _ 1) (by decide) rfl (fun ls hl => ?_)
                    refine lv_goto (tgt := 74) hx hb dX7_tellHours_164 (by decide) ?_
                    exact ih_74 (x + 1) (up τ95 12 (d ((hh x + cta p d (th x 2) (hh x) (dl g th x) p 1 * dl g th x) % p)) (nI ((cb (fun z => decide (ot p d g th hh z = nI (d ((hh x + cta p d (th x 2) (hh x) (dl g th x) p 1 * dl g th x) % p)))) x) + 1))) (by omega) (hFo.tr FrM_12) (fun k hk => by
            have hdec : decide (ot p d g th hh x = nI k) = decide (d ((hh x + cta p d (th x 2) (hh x) (dl g th x) p 1 * dl g th x) % p) = k) := by show decide (oth p d (th x 2) (hh x) (dl g th x) = nI k) = _; rw [hoN]; exact decide_eq_decide.mpr (nI_eq (by omega) (by omega))
            simp only [cb, hdec]
            by_cases hk2 : d ((hh x + cta p d (th x 2) (hh x) (dl g th x) p 1 * dl g th x) % p) = k
            · rw [if_pos (decide_eq_true hk2), ← hk2, up_s]
            · rw [if_neg (by rw [decide_eq_true_eq]; exact hk2), up_n (by omega)]; exact hcn3 k hk) (by omega) _ _ _ hP hS (lv_sub hl [4, 5, 6, 2, 1, 0] rfl)
                · refine lv_aload_n hx hb dX7_tellHours_132 rfl (lv_at hl 2 rfl) ?_
                  refine xk_get hx hb hts (inX7_tellHours_X7) hown hK hP 0 (by omega) (ci := 7) e2_obj rfl 21 (by decide) (flX7_tellHours_141 hts) rfl (.int (τ95 0 21)) rfl dX7_tellHours_133 ?_
                  refine xn_eqi (y := dwn p d (th x 2) (hh x) (dl g th x)) hdn ?_
                  refine lv_goto (tgt := 141) hx hb dX7_tellHours_136 (by decide) ?_
                  refine xn_eqi (y := lts (fun x => dwn p d (th x 2) (hh x) (dl g th x)) (x + 1)) (by simp only [lts]; exact (if_pos (Int32.not_le.mp c_129)).symm) ?_
                  refine lv_istore (lv' := [(4, .int (lts (fun x => dwn p d (th x 2) (hh x) (dl g th x)) (x + 1))), (3, .int (sbt (fun x => decide (rt p d g th x (hh x))) (x + 1))), (6, .int (oth p d (th x 2) (hh x) (dl g th x))), (0, .ref (ad 0)), (1, .int (nI F)), (2, .int (nI 0)), (5, .int (nI x))]) hx hb dX7_tellHours_141 hl (by decide) rfl (fun ls hl => ?_)
                  by_cases q_143 : cta p d (th x 2) (hh x) (dl g th x) p 1 = 0
                  · have hoN := oth_none q_143
                    rw [hoN] at hl
                    refine lv_iload hx hb dX7_tellHours_143 (lv_at hl 2 rfl) ?_
                    refine lv_bipush (v := (-9)) hx hb dX7_tellHours_145 (by decide) ?_
                    refine lv_icmp_eq (tgt := 161) hx hb dX7_tellHours_147 (by decide) (fun c_147 => ?_) (fun c_147 => absurd rfl c_147)
                    refine lv_iinc (v := nI (x + 1)) (lv' := [(5, .int (nI (x + 1))), (4, .int (lts (fun x => dwn p d (th x 2) (hh x) (dl g th x)) (x + 1))), (3, .int (sbt (fun x => decide (rt p d g th x (hh x))) (x + 1))), (6, .int (-9)), (0, .ref (ad 0)), (1, .int (nI F)), (2, .int (nI 0))]) hx hb dX7_tellHours_161 hl (k := 6) rfl (xn_inc _ 1) (by decide) rfl (fun ls hl => ?_)
                    refine lv_goto (tgt := 74) hx hb dX7_tellHours_164 (by decide) ?_
                    exact ih_74 (x + 1) τ95 (by omega) hFo (fun k hk => by
            simp only [cb]
            rw [if_neg (by rw [decide_eq_true_eq]; show ¬ oth p d (th x 2) (hh x) (dl g th x) = nI k; rw [hoN]; exact nI_n9 (by omega))]
            exact hcn3 k hk) (by omega) _ _ _ hP hS (lv_sub hl [4, 5, 6, 2, 1, 0] rfl)
                  · have hoN := oth_some q_143
                    rw [hoN] at hl
                    have hd5 := (hR.2.2 _ (Nat.mod_lt (hh x + cta p d (th x 2) (hh x) (dl g th x) p 1 * dl g th x) hp0)).2
                    have hcbl := cb_le (fun z => decide (ot p d g th hh z = nI (d ((hh x + cta p d (th x 2) (hh x) (dl g th x) p 1 * dl g th x) % p)))) x
                    refine lv_iload hx hb dX7_tellHours_143 (lv_at hl 2 rfl) ?_
                    refine lv_bipush (v := (-9)) hx hb dX7_tellHours_145 (by decide) ?_
                    refine lv_icmp_eq (tgt := 161) hx hb dX7_tellHours_147 (by decide) (fun c_147 => absurd c_147 (nI_n9' (by omega))) (fun c_147 => ?_)
                    refine lv_aload_n hx hb dX7_tellHours_150 rfl (lv_at hl 3 rfl) ?_
                    refine xk_get hx hb hts (inX7_tellHours_X7) hown hK hP 0 (by omega) (ci := 7) e2_obj rfl 23 (by decide) (flX7_tellHours_43 hts) rfl (.ref (ad 12)) rfl dX7_tellHours_151 ?_
                    refine lv_iload hx hb dX7_tellHours_154 (lv_at hl 2 rfl) ?_
                    refine lv_dup2_11 hx hb dX7_tellHours_156 rfl rfl ?_
                    refine xk_iald hx hb hK hP 12 (by omega) (n := 5) (e2_row 5 (by decide) rfl) rfl (d ((hh x + cta p d (th x 2) (hh x) (dl g th x) p 1 * dl g th x) % p)) (by omega) (by decide) dX7_tellHours_157 ?_
                    refine xn_eqi (y := nI (cb (fun z => decide (ot p d g th hh z = nI (d ((hh x + cta p d (th x 2) (hh x) (dl g th x) p 1 * dl g th x) % p)))) x)) (hcn3 _ (by omega)) ?_
                    refine lv_iconst (v := nI 1) hx hb dX7_tellHours_158 (by decide) ?_
                    refine xn_iadd hx hb dX7_tellHours_159 ?_
                    refine xk_iast hx hb hK hI hP hS 12 (by omega) (n := 5) (fun τ => (e2_row 5 (by decide) rfl)) rfl (d ((hh x + cta p d (th x 2) (hh x) (dl g th x) p 1 * dl g th x) % p)) (by omega) (by decide) e2_loc dX7_tellHours_160 (fun H locs hP hS => ?_)
                    refine lv_iinc (v := nI (x + 1)) (lv' := [(5, .int (nI (x + 1))), (4, .int (lts (fun x => dwn p d (th x 2) (hh x) (dl g th x)) (x + 1))), (3, .int (sbt (fun x => decide (rt p d g th x (hh x))) (x + 1))), (6, .int (nI (d ((hh x + cta p d (th x 2) (hh x) (dl g th x) p 1 * dl g th x) % p)))), (0, .ref (ad 0)), (1, .int (nI F)), (2, .int (nI 0))]) hx hb dX7_tellHours_161 hl (k := 6) rfl (xn_inc _ 1) (by decide) rfl (fun ls hl => ?_)
                    refine lv_goto (tgt := 74) hx hb dX7_tellHours_164 (by decide) ?_
                    exact ih_74 (x + 1) (up τ95 12 (d ((hh x + cta p d (th x 2) (hh x) (dl g th x) p 1 * dl g th x) % p)) (nI ((cb (fun z => decide (ot p d g th hh z = nI (d ((hh x + cta p d (th x 2) (hh x) (dl g th x) p 1 * dl g th x) % p)))) x) + 1))) (by omega) (hFo.tr FrM_12) (fun k hk => by
            have hdec : decide (ot p d g th hh x = nI k) = decide (d ((hh x + cta p d (th x 2) (hh x) (dl g th x) p 1 * dl g th x) % p) = k) := by show decide (oth p d (th x 2) (hh x) (dl g th x) = nI k) = _; rw [hoN]; exact decide_eq_decide.mpr (nI_eq (by omega) (by omega))
            simp only [cb, hdec]
            by_cases hk2 : d ((hh x + cta p d (th x 2) (hh x) (dl g th x) p 1 * dl g th x) % p) = k
            · rw [if_pos (decide_eq_true hk2), ← hk2, up_s]
            · rw [if_neg (by rw [decide_eq_true_eq]; exact hk2), up_n (by omega)]; exact hcn3 k hk) (by omega) _ _ _ hP hS (lv_sub hl [4, 5, 6, 2, 1, 0] rfl)
              · refine lv_iconst (v := nI 1) hx hb dX7_tellHours_113 (by decide) ?_
                refine lv_iload hx hb dX7_tellHours_114 (lv_at hl 6 rfl) ?_
                refine lv_ishl hx hb dX7_tellHours_116 ?_
                refine lv_goto (tgt := 121) hx hb dX7_tellHours_117 (by decide) ?_
                refine lv_ior hx hb dX7_tellHours_121 ?_
                refine xn_eqi (y := sbt (fun x => decide (rt p d g th x (hh x))) (x + 1)) (by simp only [sbt]; rw [if_pos (by simpa using c_110)]) ?_
                refine lv_istore_n (lv' := [(3, .int (sbt (fun x => decide (rt p d g th x (hh x))) (x + 1))), (6, .int (oth p d (th x 2) (hh x) (dl g th x))), (0, .ref (ad 0)), (1, .int (nI F)), (2, .int (nI 0)), (4, .int (lts (fun x => dwn p d (th x 2) (hh x) (dl g th x)) x)), (5, .int (nI x))]) hx hb dX7_tellHours_122 rfl hl (by decide) rfl (fun ls hl => ?_)
                refine lv_aload_n hx hb dX7_tellHours_123 rfl (lv_at hl 2 rfl) ?_
                refine xk_get hx hb hts (inX7_tellHours_X7) hown hK hP 0 (by omega) (ci := 7) e2_obj rfl 21 (by decide) (flX7_tellHours_141 hts) rfl (.int (τ95 0 21)) rfl dX7_tellHours_124 ?_
                refine xn_eqi (y := dwn p d (th x 2) (hh x) (dl g th x)) hdn ?_
                refine lv_iload hx hb dX7_tellHours_127 (lv_at hl 5 rfl) ?_
                refine lv_icmp_le (tgt := 139) hx hb dX7_tellHours_129 (by decide) (fun c_129 => ?_) (fun c_129 => ?_)
                · refine lv_iload hx hb dX7_tellHours_139 (lv_at hl 5 rfl) ?_
                  refine xn_eqi (y := lts (fun x => dwn p d (th x 2) (hh x) (dl g th x)) (x + 1)) (by simp only [lts]; exact (if_neg (Int32.not_lt.mpr c_129)).symm) ?_
                  refine lv_istore (lv' := [(4, .int (lts (fun x => dwn p d (th x 2) (hh x) (dl g th x)) (x + 1))), (3, .int (sbt (fun x => decide (rt p d g th x (hh x))) (x + 1))), (6, .int (oth p d (th x 2) (hh x) (dl g th x))), (0, .ref (ad 0)), (1, .int (nI F)), (2, .int (nI 0)), (5, .int (nI x))]) hx hb dX7_tellHours_141 hl (by decide) rfl (fun ls hl => ?_)
                  by_cases q_143 : cta p d (th x 2) (hh x) (dl g th x) p 1 = 0
                  · have hoN := oth_none q_143
                    rw [hoN] at hl
                    refine lv_iload hx hb dX7_tellHours_143 (lv_at hl 2 rfl) ?_
                    refine lv_bipush (v := (-9)) hx hb dX7_tellHours_145 (by decide) ?_
                    refine lv_icmp_eq (tgt := 161) hx hb dX7_tellHours_147 (by decide) (fun c_147 => ?_) (fun c_147 => absurd rfl c_147)
                    refine lv_iinc (v := nI (x + 1)) (lv' := [(5, .int (nI (x + 1))), (4, .int (lts (fun x => dwn p d (th x 2) (hh x) (dl g th x)) (x + 1))), (3, .int (sbt (fun x => decide (rt p d g th x (hh x))) (x + 1))), (6, .int (-9)), (0, .ref (ad 0)), (1, .int (nI F)), (2, .int (nI 0))]) hx hb dX7_tellHours_161 hl (k := 6) rfl (xn_inc _ 1) (by decide) rfl (fun ls hl => ?_)
                    refine lv_goto (tgt := 74) hx hb dX7_tellHours_164 (by decide) ?_
                    exact ih_74 (x + 1) τ95 (by omega) hFo (fun k hk => by
            simp only [cb]
            rw [if_neg (by rw [decide_eq_true_eq]; show ¬ oth p d (th x 2) (hh x) (dl g th x) = nI k; rw [hoN]; exact nI_n9 (by omega))]
            exact hcn3 k hk) (by omega) _ _ _ hP hS (lv_sub hl [4, 5, 6, 2, 1, 0] rfl)
                  · have hoN := oth_some q_143
                    rw [hoN] at hl
                    have hd5 := (hR.2.2 _ (Nat.mod_lt (hh x + cta p d (th x 2) (hh x) (dl g th x) p 1 * dl g th x) hp0)).2
                    have hcbl := cb_le (fun z => decide (ot p d g th hh z = nI (d ((hh x + cta p d (th x 2) (hh x) (dl g th x) p 1 * dl g th x) % p)))) x
                    refine lv_iload hx hb dX7_tellHours_143 (lv_at hl 2 rfl) ?_
                    refine lv_bipush (v := (-9)) hx hb dX7_tellHours_145 (by decide) ?_
                    refine lv_icmp_eq (tgt := 161) hx hb dX7_tellHours_147 (by decide) (fun c_147 => absurd c_147 (nI_n9' (by omega))) (fun c_147 => ?_)
                    refine lv_aload_n hx hb dX7_tellHours_150 rfl (lv_at hl 3 rfl) ?_
                    refine xk_get hx hb hts (inX7_tellHours_X7) hown hK hP 0 (by omega) (ci := 7) e2_obj rfl 23 (by decide) (flX7_tellHours_43 hts) rfl (.ref (ad 12)) rfl dX7_tellHours_151 ?_
                    refine lv_iload hx hb dX7_tellHours_154 (lv_at hl 2 rfl) ?_
                    refine lv_dup2_11 hx hb dX7_tellHours_156 rfl rfl ?_
                    refine xk_iald hx hb hK hP 12 (by omega) (n := 5) (e2_row 5 (by decide) rfl) rfl (d ((hh x + cta p d (th x 2) (hh x) (dl g th x) p 1 * dl g th x) % p)) (by omega) (by decide) dX7_tellHours_157 ?_
                    refine xn_eqi (y := nI (cb (fun z => decide (ot p d g th hh z = nI (d ((hh x + cta p d (th x 2) (hh x) (dl g th x) p 1 * dl g th x) % p)))) x)) (hcn3 _ (by omega)) ?_
                    refine lv_iconst (v := nI 1) hx hb dX7_tellHours_158 (by decide) ?_
                    refine xn_iadd hx hb dX7_tellHours_159 ?_
                    refine xk_iast hx hb hK hI hP hS 12 (by omega) (n := 5) (fun τ => (e2_row 5 (by decide) rfl)) rfl (d ((hh x + cta p d (th x 2) (hh x) (dl g th x) p 1 * dl g th x) % p)) (by omega) (by decide) e2_loc dX7_tellHours_160 (fun H locs hP hS => ?_)
                    refine lv_iinc (v := nI (x + 1)) (lv' := [(5, .int (nI (x + 1))), (4, .int (lts (fun x => dwn p d (th x 2) (hh x) (dl g th x)) (x + 1))), (3, .int (sbt (fun x => decide (rt p d g th x (hh x))) (x + 1))), (6, .int (nI (d ((hh x + cta p d (th x 2) (hh x) (dl g th x) p 1 * dl g th x) % p)))), (0, .ref (ad 0)), (1, .int (nI F)), (2, .int (nI 0))]) hx hb dX7_tellHours_161 hl (k := 6) rfl (xn_inc _ 1) (by decide) rfl (fun ls hl => ?_)
                    refine lv_goto (tgt := 74) hx hb dX7_tellHours_164 (by decide) ?_
                    exact ih_74 (x + 1) (up τ95 12 (d ((hh x + cta p d (th x 2) (hh x) (dl g th x) p 1 * dl g th x) % p)) (nI ((cb (fun z => decide (ot p d g th hh z = nI (d ((hh x + cta p d (th x 2) (hh x) (dl g th x) p 1 * dl g th x) % p)))) x) + 1))) (by omega) (hFo.tr FrM_12) (fun k hk => by
            have hdec : decide (ot p d g th hh x = nI k) = decide (d ((hh x + cta p d (th x 2) (hh x) (dl g th x) p 1 * dl g th x) % p) = k) := by show decide (oth p d (th x 2) (hh x) (dl g th x) = nI k) = _; rw [hoN]; exact decide_eq_decide.mpr (nI_eq (by omega) (by omega))
            simp only [cb, hdec]
            by_cases hk2 : d ((hh x + cta p d (th x 2) (hh x) (dl g th x) p 1 * dl g th x) % p) = k
            · rw [if_pos (decide_eq_true hk2), ← hk2, up_s]
            · rw [if_neg (by rw [decide_eq_true_eq]; exact hk2), up_n (by omega)]; exact hcn3 k hk) (by omega) _ _ _ hP hS (lv_sub hl [4, 5, 6, 2, 1, 0] rfl)
                · refine lv_aload_n hx hb dX7_tellHours_132 rfl (lv_at hl 2 rfl) ?_
                  refine xk_get hx hb hts (inX7_tellHours_X7) hown hK hP 0 (by omega) (ci := 7) e2_obj rfl 21 (by decide) (flX7_tellHours_141 hts) rfl (.int (τ95 0 21)) rfl dX7_tellHours_133 ?_
                  refine xn_eqi (y := dwn p d (th x 2) (hh x) (dl g th x)) hdn ?_
                  refine lv_goto (tgt := 141) hx hb dX7_tellHours_136 (by decide) ?_
                  refine xn_eqi (y := lts (fun x => dwn p d (th x 2) (hh x) (dl g th x)) (x + 1)) (by simp only [lts]; exact (if_pos (Int32.not_le.mp c_129)).symm) ?_
                  refine lv_istore (lv' := [(4, .int (lts (fun x => dwn p d (th x 2) (hh x) (dl g th x)) (x + 1))), (3, .int (sbt (fun x => decide (rt p d g th x (hh x))) (x + 1))), (6, .int (oth p d (th x 2) (hh x) (dl g th x))), (0, .ref (ad 0)), (1, .int (nI F)), (2, .int (nI 0)), (5, .int (nI x))]) hx hb dX7_tellHours_141 hl (by decide) rfl (fun ls hl => ?_)
                  by_cases q_143 : cta p d (th x 2) (hh x) (dl g th x) p 1 = 0
                  · have hoN := oth_none q_143
                    rw [hoN] at hl
                    refine lv_iload hx hb dX7_tellHours_143 (lv_at hl 2 rfl) ?_
                    refine lv_bipush (v := (-9)) hx hb dX7_tellHours_145 (by decide) ?_
                    refine lv_icmp_eq (tgt := 161) hx hb dX7_tellHours_147 (by decide) (fun c_147 => ?_) (fun c_147 => absurd rfl c_147)
                    refine lv_iinc (v := nI (x + 1)) (lv' := [(5, .int (nI (x + 1))), (4, .int (lts (fun x => dwn p d (th x 2) (hh x) (dl g th x)) (x + 1))), (3, .int (sbt (fun x => decide (rt p d g th x (hh x))) (x + 1))), (6, .int (-9)), (0, .ref (ad 0)), (1, .int (nI F)), (2, .int (nI 0))]) hx hb dX7_tellHours_161 hl (k := 6) rfl (xn_inc _ 1) (by decide) rfl (fun ls hl => ?_)
                    refine lv_goto (tgt := 74) hx hb dX7_tellHours_164 (by decide) ?_
                    exact ih_74 (x + 1) τ95 (by omega) hFo (fun k hk => by
            simp only [cb]
            rw [if_neg (by rw [decide_eq_true_eq]; show ¬ oth p d (th x 2) (hh x) (dl g th x) = nI k; rw [hoN]; exact nI_n9 (by omega))]
            exact hcn3 k hk) (by omega) _ _ _ hP hS (lv_sub hl [4, 5, 6, 2, 1, 0] rfl)
                  · have hoN := oth_some q_143
                    rw [hoN] at hl
                    have hd5 := (hR.2.2 _ (Nat.mod_lt (hh x + cta p d (th x 2) (hh x) (dl g th x) p 1 * dl g th x) hp0)).2
                    have hcbl := cb_le (fun z => decide (ot p d g th hh z = nI (d ((hh x + cta p d (th x 2) (hh x) (dl g th x) p 1 * dl g th x) % p)))) x
                    refine lv_iload hx hb dX7_tellHours_143 (lv_at hl 2 rfl) ?_
                    refine lv_bipush (v := (-9)) hx hb dX7_tellHours_145 (by decide) ?_
                    refine lv_icmp_eq (tgt := 161) hx hb dX7_tellHours_147 (by decide) (fun c_147 => absurd c_147 (nI_n9' (by omega))) (fun c_147 => ?_)
                    refine lv_aload_n hx hb dX7_tellHours_150 rfl (lv_at hl 3 rfl) ?_
                    refine xk_get hx hb hts (inX7_tellHours_X7) hown hK hP 0 (by omega) (ci := 7) e2_obj rfl 23 (by decide) (flX7_tellHours_43 hts) rfl (.ref (ad 12)) rfl dX7_tellHours_151 ?_
                    refine lv_iload hx hb dX7_tellHours_154 (lv_at hl 2 rfl) ?_
                    refine lv_dup2_11 hx hb dX7_tellHours_156 rfl rfl ?_
                    refine xk_iald hx hb hK hP 12 (by omega) (n := 5) (e2_row 5 (by decide) rfl) rfl (d ((hh x + cta p d (th x 2) (hh x) (dl g th x) p 1 * dl g th x) % p)) (by omega) (by decide) dX7_tellHours_157 ?_
                    refine xn_eqi (y := nI (cb (fun z => decide (ot p d g th hh z = nI (d ((hh x + cta p d (th x 2) (hh x) (dl g th x) p 1 * dl g th x) % p)))) x)) (hcn3 _ (by omega)) ?_
                    refine lv_iconst (v := nI 1) hx hb dX7_tellHours_158 (by decide) ?_
                    refine xn_iadd hx hb dX7_tellHours_159 ?_
                    refine xk_iast hx hb hK hI hP hS 12 (by omega) (n := 5) (fun τ => (e2_row 5 (by decide) rfl)) rfl (d ((hh x + cta p d (th x 2) (hh x) (dl g th x) p 1 * dl g th x) % p)) (by omega) (by decide) e2_loc dX7_tellHours_160 (fun H locs hP hS => ?_)
                    refine lv_iinc (v := nI (x + 1)) (lv' := [(5, .int (nI (x + 1))), (4, .int (lts (fun x => dwn p d (th x 2) (hh x) (dl g th x)) (x + 1))), (3, .int (sbt (fun x => decide (rt p d g th x (hh x))) (x + 1))), (6, .int (nI (d ((hh x + cta p d (th x 2) (hh x) (dl g th x) p 1 * dl g th x) % p)))), (0, .ref (ad 0)), (1, .int (nI F)), (2, .int (nI 0))]) hx hb dX7_tellHours_161 hl (k := 6) rfl (xn_inc _ 1) (by decide) rfl (fun ls hl => ?_)
                    refine lv_goto (tgt := 74) hx hb dX7_tellHours_164 (by decide) ?_
                    exact ih_74 (x + 1) (up τ95 12 (d ((hh x + cta p d (th x 2) (hh x) (dl g th x) p 1 * dl g th x) % p)) (nI ((cb (fun z => decide (ot p d g th hh z = nI (d ((hh x + cta p d (th x 2) (hh x) (dl g th x) p 1 * dl g th x) % p)))) x) + 1))) (by omega) (hFo.tr FrM_12) (fun k hk => by
            have hdec : decide (ot p d g th hh x = nI k) = decide (d ((hh x + cta p d (th x 2) (hh x) (dl g th x) p 1 * dl g th x) % p) = k) := by show decide (oth p d (th x 2) (hh x) (dl g th x) = nI k) = _; rw [hoN]; exact decide_eq_decide.mpr (nI_eq (by omega) (by omega))
            simp only [cb, hdec]
            by_cases hk2 : d ((hh x + cta p d (th x 2) (hh x) (dl g th x) p 1 * dl g th x) % p) = k
            · rw [if_pos (decide_eq_true hk2), ← hk2, up_s]
            · rw [if_neg (by rw [decide_eq_true_eq]; exact hk2), up_n (by omega)]; exact hcn3 k hk) (by omega) _ _ _ hP hS (lv_sub hl [4, 5, 6, 2, 1, 0] rfl)
        exact LP_74 _ 0 τ (by omega) hFm (fun k hk => hz5 k hk) (Nat.lt_succ_self _) _ _ _ hP hS (lv_sub hl [1, 2, 3, 4, 5, 0] rfl)
      · refine lv_aload_n hx hb dX7_tellHours_57 rfl (lv_at hl 0 rfl) ?_
        refine xk_get hx hb hts (inX7_tellHours_X7) hown hK hP 0 (by omega) (ci := 7) e2_obj rfl 23 (by decide) (flX7_tellHours_43 hts) rfl (.ref (ad 12)) rfl dX7_tellHours_58 ?_
        refine lv_iload hx hb dX7_tellHours_61 (lv_at hl 5 rfl) ?_
        refine lv_iconst (v := nI 0) hx hb dX7_tellHours_63 (by decide) ?_
        refine xk_iast hx hb hK hI hP hS 12 (by omega) (n := 5) (fun τ => (e2_row 5 (by decide) rfl)) rfl k (by omega) (by decide) e2_loc dX7_tellHours_64 (fun H locs hP hS => ?_)
        refine lv_iinc (v := nI (k + 1)) (lv' := [(5, .int (nI (k + 1))), (0, .ref (ad 0)), (1, .int (nI F)), (2, .int (nI 0)), (3, .int (nI 0)), (4, .int (-9))]) hx hb dX7_tellHours_65 hl (k := 5) rfl (xn_inc _ 1) (by decide) rfl (fun ls hl => ?_)
        refine lv_goto (tgt := 51) hx hb dX7_tellHours_68 (by decide) ?_
        exact ih_51 (k + 1) (up τ 12 k (nI 0)) (by omega) (hFm.tr FrM_12) (fun j hj => by
          by_cases hjk : j = k
          · rw [hjk, up_s]
          · rw [up_n (by omega)]; exact hz j (by omega)) (by omega) _ _ _ hP hS (lv_sub hl [1, 2, 3, 4, 5, 0] rfl)
  exact LP_51 _ 0 σ (by omega) FrM.rf (fun j hj => absurd hj (Nat.not_lt_zero _)) (Nat.lt_succ_self _) _ _ _ hP hS (lv_sub hl [3, 4, 5, 2, 1, 0] rfl)

set_option maxHeartbeats 4000000 in
set_option maxRecDepth 100000 in
theorem k2_tellH_1 (l : Launch) {D : va_G} {ca : Nat → ClassId} {ad : Nat → Nat} (hI : Ij ad 18) {σ : Sg} {n g : Nat} {th : Nat → Nat → Nat} {p : Nat} {d : Nat → Nat} {F : Nat} {hh : Nat → Nat} (hT : ThM σ n g th) (hR : RotaM σ p d) (hp0 : 0 < p) (hFb : F + n ≤ 240) (hcc : ∀ x, x < n → σ 3 (F + x) = nI (hh x) ∧ hh x ≤ 23) : C2i l D ca ad yX7_tellHours wsX7_tellHours { frames := 3, cells := 0, slots := 0, locals := 70 } [.ref (ad 0), .int (nI F), .int (nI 1)] σ (fun r σ' => r = lts (fun x => dwn p d (th x 2) (hh x) (dl g th x)) n ∧ FrM σ σ') := by
  refine xk_entry cX7_tellHours 7 (some .int) (by decide) rfl (Nat.le_of_ble_eq_true rfl) ?_
  intro pP eE sS mM below meth cC hx hb hml hr hts hown hlk hP hK hX hS ls hl
  have hl : lv_has ls 7 [(0, .ref (ad 0)), (1, .int (nI F)), (2, .int (nI 1))] := hl
  have hn5 := hT.2.2.1
  have hg9 := hT.2.2.2.1
  have hp6 := hR.2.1
  have hFc : FrF σ σ := FrF.rf
  have hTc := hT
  have hRc := hR
  refine lv_iload_n hx hb dX7_tellHours_0 rfl (lv_at hl 2 rfl) ?_
  refine lv_bipush (v := nI 10) hx hb dX7_tellHours_1 (by decide) ?_
  refine xn_ilt (tgt := 42) hx hb dX7_tellHours_3 (by decide) (by omega) (by omega) (fun c_3 => ?_) (fun c_3 => absurd c_3 (by omega))
  refine lv_iconst (v := nI 0) hx hb dX7_tellHours_42 (by decide) ?_
  refine lv_istore_n (lv' := [(3, .int (nI 0)), (0, .ref (ad 0)), (1, .int (nI F)), (2, .int (nI 1))]) hx hb dX7_tellHours_43 rfl hl (by decide) rfl (fun ls hl => ?_)
  refine lv_bipush (v := (-9)) hx hb dX7_tellHours_44 (by decide) ?_
  refine lv_istore (lv' := [(4, .int (-9)), (3, .int (nI 0)), (0, .ref (ad 0)), (1, .int (nI F)), (2, .int (nI 1))]) hx hb dX7_tellHours_46 hl (by decide) rfl (fun ls hl => ?_)
  refine lv_iconst (v := nI 0) hx hb dX7_tellHours_48 (by decide) ?_
  refine lv_istore (lv' := [(5, .int (nI 0)), (4, .int (-9)), (3, .int (nI 0)), (0, .ref (ad 0)), (1, .int (nI F)), (2, .int (nI 1))]) hx hb dX7_tellHours_49 hl (by decide) rfl (fun ls hl => ?_)
  have LP_51 : ∀ (n_51 : Nat) (k : Nat) (τ : Sg), (k ≤ 5) → (FrM σ τ) → (∀ j, j < k → τ 12 j = nI 0) → (5 - k) < n_51 → ∀ (H : Heap) (locs : List Loc) (ls : Array Slot), va_P D vwCl (wl ad 18 (en2 ad ca τ)) H → va_S (AA ad 18) sS.heap H locs → lv_has ls 7 [(0, .ref (ad 0)), (1, .int (nI F)), (2, .int (nI 1)), (3, .int (nI 0)), (4, .int (-9)), (5, .int (nI k))] → Wwi2 pP l eE { frames := 3, cells := 0, slots := 0, locals := 70 } sS mM [.ref (ad 0), .int (nI F), .int (nI 1)] below meth cC D ca ad (fun r σ' => r = lts (fun x => dwn p d (th x 2) (hh x) (dl g th x)) n ∧ FrM σ σ') H locs (F0 mM 51 ls []) := by
    intro n_51
    induction n_51 with
    | zero =>
      intro k τ hk hFm hz hn_51
      exact absurd hn_51 (Nat.not_lt_zero _)
    | succ n_51 ih_51 =>
      intro k τ hk hFm hz hn_51 H locs ls hP hS hl
      refine lv_iload hx hb dX7_tellHours_51 (lv_at hl 5 rfl) ?_
      refine lv_iconst (v := nI 5) hx hb dX7_tellHours_53 (by decide) ?_
      refine xn_ige (tgt := 71) hx hb dX7_tellHours_54 (by decide) (by omega) (by omega) (fun c_54 => ?_) (fun c_54 => ?_)
      · have hz5 : ∀ j, j < 5 → τ 12 j = nI 0 := fun j hj => hz j (by omega)
        refine lv_iconst (v := nI 0) hx hb dX7_tellHours_71 (by decide) ?_
        refine lv_istore (lv' := [(5, .int (nI 0)), (0, .ref (ad 0)), (1, .int (nI F)), (2, .int (nI 1)), (3, .int (nI 0)), (4, .int (-9))]) hx hb dX7_tellHours_72 hl (by decide) rfl (fun ls hl => ?_)
        have LP_74 : ∀ (n_74 : Nat) (x : Nat) (τ2 : Sg), (x ≤ n) → (FrM σ τ2) → (∀ k, k < 5 → τ2 12 k = nI (cb (fun z => decide (ot p d g th hh z = nI k)) x)) → (n - x) < n_74 → ∀ (H : Heap) (locs : List Loc) (ls : Array Slot), va_P D vwCl (wl ad 18 (en2 ad ca τ2)) H → va_S (AA ad 18) sS.heap H locs → lv_has ls 7 [(0, .ref (ad 0)), (1, .int (nI F)), (2, .int (nI 1)), (3, .int (sbt (fun x => decide (rt p d g th x (hh x))) x)), (4, .int (lts (fun x => dwn p d (th x 2) (hh x) (dl g th x)) x)), (5, .int (nI x))] → Wwi2 pP l eE { frames := 3, cells := 0, slots := 0, locals := 70 } sS mM [.ref (ad 0), .int (nI F), .int (nI 1)] below meth cC D ca ad (fun r σ' => r = lts (fun x => dwn p d (th x 2) (hh x) (dl g th x)) n ∧ FrM σ σ') H locs (F0 mM 74 ls []) := by
          intro n_74
          induction n_74 with
          | zero =>
            intro x τ2 hx0 hFn hcn2 hn_74
            exact absurd hn_74 (Nat.not_lt_zero _)
          | succ n_74 ih_74 =>
            intro x τ2 hx0 hFn hcn2 hn_74 H locs ls hP hS hl
            have hTc := ThM_fr hT hFn
            have hRc := RotaM_fr hR hFn
            have hcr : τ2 3 = σ 3 := hFn.2 3 (by omega) (by omega)
            refine lv_iload hx hb dX7_tellHours_74 (lv_at hl 5 rfl) ?_
            refine lv_aload_n hx hb dX7_tellHours_76 rfl (lv_at hl 0 rfl) ?_
            refine xk_get hx hb hts (inX7_tellHours_X7) hown hK hP 0 (by omega) (ci := 7) e2_obj rfl 7 (by decide) (flX7_tellHours_71 hts) rfl (.int (τ2 0 7)) rfl dX7_tellHours_77 ?_
            refine xn_eqi (y := nI n) hTc.2.1 ?_
            refine xn_ige (tgt := 167) hx hb dX7_tellHours_80 (by decide) (by omega) (by omega) (fun c_80 => ?_) (fun c_80 => ?_)
            · refine lv_iload_n hx hb dX7_tellHours_167 rfl (lv_at hl 2 rfl) ?_
              refine xn_zne (tgt := 175) hx hb dX7_tellHours_168 (by decide) (by omega) (fun c_168 => ?_) (fun c_168 => absurd c_168 (by omega))
              refine lv_iload_n hx hb dX7_tellHours_175 rfl (lv_at hl 2 rfl) ?_
              refine lv_iconst (v := nI 1) hx hb dX7_tellHours_176 (by decide) ?_
              refine xn_ine (tgt := 185) hx hb dX7_tellHours_177 (by decide) (by omega) (by omega) (fun c_177 => absurd c_177 (by omega)) (fun c_177 => ?_)
              refine lv_iload hx hb dX7_tellHours_180 (lv_at hl 4 rfl) ?_
              refine lv_goto (tgt := 189) hx hb dX7_tellHours_182 (by decide) ?_
              exact xk_iret hx hb hr (vp_nar_int _) X2_ok hK hX hP hS hlk dX7_tellHours_189 (⟨by rw [show x = n by omega], hFn⟩)
            · have hXxc := hTc.2.2.2.2 x c_80
              obtain ⟨ho0, ho1, ho2, ho3, ho4⟩ := (hT.2.2.2.2 x c_80).2
              have hhx := (hcc x c_80).2
              have hdlx : dl g th x ≤ 36 := dly_le hg9 ho1
              refine lv_aload_n hx hb dX7_tellHours_83 rfl (lv_at hl 0 rfl) ?_
              refine lv_iload hx hb dX7_tellHours_84 (lv_at hl 5 rfl) ?_
              refine lv_aload_n hx hb dX7_tellHours_86 rfl (lv_at hl 0 rfl) ?_
              refine xk_get hx hb hts (inX7_tellHours_X7) hown hK hP 0 (by omega) (ci := 7) e2_obj rfl 4 (by decide) (flX7_tellHours_16 hts) rfl (.ref (ad 3)) rfl dX7_tellHours_87 ?_
              refine lv_iload_n hx hb dX7_tellHours_90 rfl (lv_at hl 1 rfl) ?_
              refine lv_iload hx hb dX7_tellHours_91 (lv_at hl 5 rfl) ?_
              refine xn_iadd hx hb dX7_tellHours_93 ?_
              refine xk_iald hx hb hK hP 3 (by omega) (n := 240) (e2_row 240 (by decide) rfl) rfl (F + x) (by omega) (by decide) dX7_tellHours_94 ?_
              refine xn_eqi (y := nI (hh x)) (by rw [hcr]; exact (hcc _ (by omega)).1) ?_
              refine xk_ci (va_runV (As := [.int (nI x), .int (nI (hh x))]) (rest := []) ⟨hx, hb, hml, hown, hts⟩ (k2_drawerBy l hI (x := x) (h := hh x) hTc hRc hp0 (by omega) (by omega)) (cwV 2 hts gX7_tellHours_X7_drawerBy rfl rfl rfl (by decide +kernel) ⟨Nat.le_of_ble_eq_true rfl, Nat.le_of_ble_eq_true rfl⟩) (xk_preV X2_ok hK hX hP (xk_recv hK hP 0 (by omega) (ci := 7) e2_obj rfl)) rfl rfl hl.1 rfl (lv_room (Nat.le_of_ble_eq_true rfl)) dX7_tellHours_95 ⟨Nat.le_of_ble_eq_true rfl, Nat.le_of_ble_eq_true rfl⟩) hS (fun r95 τ95 H locs hp hP hS => ?_)
              obtain ⟨rfl, hdn, hF95⟩ := hp
              have hFo := hFn.tr hF95.M
              have hTc := ThM_fr hT hFo
              have hRc := RotaM_fr hR hFo
              have hXxc := hTc.2.2.2.2 x c_80
              have hcn3 : ∀ k, k < 5 → τ95 12 k = nI (cb (fun z => decide (ot p d g th hh z = nI k)) x) := fun k hk => by rw [hF95.2 12 (by omega)]; exact hcn2 k hk
              refine lv_istore (lv' := [(6, .int (oth p d (th x 2) (hh x) (dl g th x))), (0, .ref (ad 0)), (1, .int (nI F)), (2, .int (nI 1)), (3, .int (sbt (fun x => decide (rt p d g th x (hh x))) x)), (4, .int (lts (fun x => dwn p d (th x 2) (hh x) (dl g th x)) x)), (5, .int (nI x))]) hx hb dX7_tellHours_98 hl (by decide) rfl (fun ls hl => ?_)
              refine lv_iload_n hx hb dX7_tellHours_100 rfl (lv_at hl 4 rfl) ?_
              refine lv_iload hx hb dX7_tellHours_101 (lv_at hl 0 rfl) ?_
              refine lv_aload_n hx hb dX7_tellHours_103 rfl (lv_at hl 1 rfl) ?_
              refine xk_get hx hb hts (inX7_tellHours_X7) hown hK hP 0 (by omega) (ci := 7) e2_obj rfl 12 (by decide) (flX7_tellHours_31 hts) rfl (.ref (ad 8)) rfl dX7_tellHours_104 ?_
              refine lv_iload hx hb dX7_tellHours_107 (lv_at hl 6 rfl) ?_
              refine xk_iald hx hb hK hP 8 (by omega) (n := 5) (e2_row 5 (by decide) rfl) rfl x (by omega) (by decide) dX7_tellHours_109 ?_
              refine xn_eqi (y := nI (th x 3)) (hXxc.1 3 (by omega)) ?_
              refine lv_icmp_ne (tgt := 120) hx hb dX7_tellHours_110 (by decide) (fun c_110 => ?_) (fun c_110 => ?_)
              · refine lv_iconst (v := nI 0) hx hb dX7_tellHours_120 (by decide) ?_
                refine lv_ior hx hb dX7_tellHours_121 ?_
                refine xn_eqi (y := sbt (fun x => decide (rt p d g th x (hh x))) (x + 1)) (by simp only [sbt]; rw [if_neg (by simpa using c_110)]; exact or_0) ?_
                refine lv_istore_n (lv' := [(3, .int (sbt (fun x => decide (rt p d g th x (hh x))) (x + 1))), (6, .int (oth p d (th x 2) (hh x) (dl g th x))), (0, .ref (ad 0)), (1, .int (nI F)), (2, .int (nI 1)), (4, .int (lts (fun x => dwn p d (th x 2) (hh x) (dl g th x)) x)), (5, .int (nI x))]) hx hb dX7_tellHours_122 rfl hl (by decide) rfl (fun ls hl => ?_)
                refine lv_aload_n hx hb dX7_tellHours_123 rfl (lv_at hl 2 rfl) ?_
                refine xk_get hx hb hts (inX7_tellHours_X7) hown hK hP 0 (by omega) (ci := 7) e2_obj rfl 21 (by decide) (flX7_tellHours_141 hts) rfl (.int (τ95 0 21)) rfl dX7_tellHours_124 ?_
                refine xn_eqi (y := dwn p d (th x 2) (hh x) (dl g th x)) hdn ?_
                refine lv_iload hx hb dX7_tellHours_127 (lv_at hl 5 rfl) ?_
                refine lv_icmp_le (tgt := 139) hx hb dX7_tellHours_129 (by decide) (fun c_129 => ?_) (fun c_129 => ?_)
                · refine lv_iload hx hb dX7_tellHours_139 (lv_at hl 5 rfl) ?_
                  refine xn_eqi (y := lts (fun x => dwn p d (th x 2) (hh x) (dl g th x)) (x + 1)) (by simp only [lts]; exact (if_neg (Int32.not_lt.mpr c_129)).symm) ?_
                  refine lv_istore (lv' := [(4, .int (lts (fun x => dwn p d (th x 2) (hh x) (dl g th x)) (x + 1))), (3, .int (sbt (fun x => decide (rt p d g th x (hh x))) (x + 1))), (6, .int (oth p d (th x 2) (hh x) (dl g th x))), (0, .ref (ad 0)), (1, .int (nI F)), (2, .int (nI 1)), (5, .int (nI x))]) hx hb dX7_tellHours_141 hl (by decide) rfl (fun ls hl => ?_)
                  by_cases q_143 : cta p d (th x 2) (hh x) (dl g th x) p 1 = 0
                  · have hoN := oth_none q_143
                    rw [hoN] at hl
                    refine lv_iload hx hb dX7_tellHours_143 (lv_at hl 2 rfl) ?_
                    refine lv_bipush (v := (-9)) hx hb dX7_tellHours_145 (by decide) ?_
                    refine lv_icmp_eq (tgt := 161) hx hb dX7_tellHours_147 (by decide) (fun c_147 => ?_) (fun c_147 => absurd rfl c_147)
                    refine lv_iinc (v := nI (x + 1)) (lv' := [(5, .int (nI (x + 1))), (4, .int (lts (fun x => dwn p d (th x 2) (hh x) (dl g th x)) (x + 1))), (3, .int (sbt (fun x => decide (rt p d g th x (hh x))) (x + 1))), (6, .int (-9)), (0, .ref (ad 0)), (1, .int (nI F)), (2, .int (nI 1))]) hx hb dX7_tellHours_161 hl (k := 6) rfl (xn_inc _ 1) (by decide) rfl (fun ls hl => ?_)
                    refine lv_goto (tgt := 74) hx hb dX7_tellHours_164 (by decide) ?_
                    exact ih_74 (x + 1) τ95 (by omega) hFo (fun k hk => by
            simp only [cb]
            rw [if_neg (by rw [decide_eq_true_eq]; show ¬ oth p d (th x 2) (hh x) (dl g th x) = nI k; rw [hoN]; exact nI_n9 (by omega))]
            exact hcn3 k hk) (by omega) _ _ _ hP hS (lv_sub hl [4, 5, 6, 2, 1, 0] rfl)
                  · have hoN := oth_some q_143
                    rw [hoN] at hl
                    have hd5 := (hR.2.2 _ (Nat.mod_lt (hh x + cta p d (th x 2) (hh x) (dl g th x) p 1 * dl g th x) hp0)).2
                    have hcbl := cb_le (fun z => decide (ot p d g th hh z = nI (d ((hh x + cta p d (th x 2) (hh x) (dl g th x) p 1 * dl g th x) % p)))) x
                    refine lv_iload hx hb dX7_tellHours_143 (lv_at hl 2 rfl) ?_
                    refine lv_bipush (v := (-9)) hx hb dX7_tellHours_145 (by decide) ?_
                    refine lv_icmp_eq (tgt := 161) hx hb dX7_tellHours_147 (by decide) (fun c_147 => absurd c_147 (nI_n9' (by omega))) (fun c_147 => ?_)
                    refine lv_aload_n hx hb dX7_tellHours_150 rfl (lv_at hl 3 rfl) ?_
                    refine xk_get hx hb hts (inX7_tellHours_X7) hown hK hP 0 (by omega) (ci := 7) e2_obj rfl 23 (by decide) (flX7_tellHours_43 hts) rfl (.ref (ad 12)) rfl dX7_tellHours_151 ?_
                    refine lv_iload hx hb dX7_tellHours_154 (lv_at hl 2 rfl) ?_
                    refine lv_dup2_11 hx hb dX7_tellHours_156 rfl rfl ?_
                    refine xk_iald hx hb hK hP 12 (by omega) (n := 5) (e2_row 5 (by decide) rfl) rfl (d ((hh x + cta p d (th x 2) (hh x) (dl g th x) p 1 * dl g th x) % p)) (by omega) (by decide) dX7_tellHours_157 ?_
                    refine xn_eqi (y := nI (cb (fun z => decide (ot p d g th hh z = nI (d ((hh x + cta p d (th x 2) (hh x) (dl g th x) p 1 * dl g th x) % p)))) x)) (hcn3 _ (by omega)) ?_
                    refine lv_iconst (v := nI 1) hx hb dX7_tellHours_158 (by decide) ?_
                    refine xn_iadd hx hb dX7_tellHours_159 ?_
                    refine xk_iast hx hb hK hI hP hS 12 (by omega) (n := 5) (fun τ => (e2_row 5 (by decide) rfl)) rfl (d ((hh x + cta p d (th x 2) (hh x) (dl g th x) p 1 * dl g th x) % p)) (by omega) (by decide) e2_loc dX7_tellHours_160 (fun H locs hP hS => ?_)
                    refine lv_iinc (v := nI (x + 1)) (lv' := [(5, .int (nI (x + 1))), (4, .int (lts (fun x => dwn p d (th x 2) (hh x) (dl g th x)) (x + 1))), (3, .int (sbt (fun x => decide (rt p d g th x (hh x))) (x + 1))), (6, .int (nI (d ((hh x + cta p d (th x 2) (hh x) (dl g th x) p 1 * dl g th x) % p)))), (0, .ref (ad 0)), (1, .int (nI F)), (2, .int (nI 1))]) hx hb dX7_tellHours_161 hl (k := 6) rfl (xn_inc _ 1) (by decide) rfl (fun ls hl => ?_)
                    refine lv_goto (tgt := 74) hx hb dX7_tellHours_164 (by decide) ?_
                    exact ih_74 (x + 1) (up τ95 12 (d ((hh x + cta p d (th x 2) (hh x) (dl g th x) p 1 * dl g th x) % p)) (nI ((cb (fun z => decide (ot p d g th hh z = nI (d ((hh x + cta p d (th x 2) (hh x) (dl g th x) p 1 * dl g th x) % p)))) x) + 1))) (by omega) (hFo.tr FrM_12) (fun k hk => by
            have hdec : decide (ot p d g th hh x = nI k) = decide (d ((hh x + cta p d (th x 2) (hh x) (dl g th x) p 1 * dl g th x) % p) = k) := by show decide (oth p d (th x 2) (hh x) (dl g th x) = nI k) = _; rw [hoN]; exact decide_eq_decide.mpr (nI_eq (by omega) (by omega))
            simp only [cb, hdec]
            by_cases hk2 : d ((hh x + cta p d (th x 2) (hh x) (dl g th x) p 1 * dl g th x) % p) = k
            · rw [if_pos (decide_eq_true hk2), ← hk2, up_s]
            · rw [if_neg (by rw [decide_eq_true_eq]; exact hk2), up_n (by omega)]; exact hcn3 k hk) (by omega) _ _ _ hP hS (lv_sub hl [4, 5, 6, 2, 1, 0] rfl)
                · refine lv_aload_n hx hb dX7_tellHours_132 rfl (lv_at hl 2 rfl) ?_
                  refine xk_get hx hb hts (inX7_tellHours_X7) hown hK hP 0 (by omega) (ci := 7) e2_obj rfl 21 (by decide) (flX7_tellHours_141 hts) rfl (.int (τ95 0 21)) rfl dX7_tellHours_133 ?_
                  refine xn_eqi (y := dwn p d (th x 2) (hh x) (dl g th x)) hdn ?_
                  refine lv_goto (tgt := 141) hx hb dX7_tellHours_136 (by decide) ?_
                  refine xn_eqi (y := lts (fun x => dwn p d (th x 2) (hh x) (dl g th x)) (x + 1)) (by simp only [lts]; exact (if_pos (Int32.not_le.mp c_129)).symm) ?_
                  refine lv_istore (lv' := [(4, .int (lts (fun x => dwn p d (th x 2) (hh x) (dl g th x)) (x + 1))), (3, .int (sbt (fun x => decide (rt p d g th x (hh x))) (x + 1))), (6, .int (oth p d (th x 2) (hh x) (dl g th x))), (0, .ref (ad 0)), (1, .int (nI F)), (2, .int (nI 1)), (5, .int (nI x))]) hx hb dX7_tellHours_141 hl (by decide) rfl (fun ls hl => ?_)
                  by_cases q_143 : cta p d (th x 2) (hh x) (dl g th x) p 1 = 0
                  · have hoN := oth_none q_143
                    rw [hoN] at hl
                    refine lv_iload hx hb dX7_tellHours_143 (lv_at hl 2 rfl) ?_
                    refine lv_bipush (v := (-9)) hx hb dX7_tellHours_145 (by decide) ?_
                    refine lv_icmp_eq (tgt := 161) hx hb dX7_tellHours_147 (by decide) (fun c_147 => ?_) (fun c_147 => absurd rfl c_147)
                    refine lv_iinc (v := nI (x + 1)) (lv' := [(5, .int (nI (x + 1))), (4, .int (lts (fun x => dwn p d (th x 2) (hh x) (dl g th x)) (x + 1))), (3, .int (sbt (fun x => decide (rt p d g th x (hh x))) (x + 1))), (6, .int (-9)), (0, .ref (ad 0)), (1, .int (nI F)), (2, .int (nI 1))]) hx hb dX7_tellHours_161 hl (k := 6) rfl (xn_inc _ 1) (by decide) rfl (fun ls hl => ?_)
                    refine lv_goto (tgt := 74) hx hb dX7_tellHours_164 (by decide) ?_
                    exact ih_74 (x + 1) τ95 (by omega) hFo (fun k hk => by
            simp only [cb]
            rw [if_neg (by rw [decide_eq_true_eq]; show ¬ oth p d (th x 2) (hh x) (dl g th x) = nI k; rw [hoN]; exact nI_n9 (by omega))]
            exact hcn3 k hk) (by omega) _ _ _ hP hS (lv_sub hl [4, 5, 6, 2, 1, 0] rfl)
                  · have hoN := oth_some q_143
                    rw [hoN] at hl
                    have hd5 := (hR.2.2 _ (Nat.mod_lt (hh x + cta p d (th x 2) (hh x) (dl g th x) p 1 * dl g th x) hp0)).2
                    have hcbl := cb_le (fun z => decide (ot p d g th hh z = nI (d ((hh x + cta p d (th x 2) (hh x) (dl g th x) p 1 * dl g th x) % p)))) x
                    refine lv_iload hx hb dX7_tellHours_143 (lv_at hl 2 rfl) ?_
                    refine lv_bipush (v := (-9)) hx hb dX7_tellHours_145 (by decide) ?_
                    refine lv_icmp_eq (tgt := 161) hx hb dX7_tellHours_147 (by decide) (fun c_147 => absurd c_147 (nI_n9' (by omega))) (fun c_147 => ?_)
                    refine lv_aload_n hx hb dX7_tellHours_150 rfl (lv_at hl 3 rfl) ?_
                    refine xk_get hx hb hts (inX7_tellHours_X7) hown hK hP 0 (by omega) (ci := 7) e2_obj rfl 23 (by decide) (flX7_tellHours_43 hts) rfl (.ref (ad 12)) rfl dX7_tellHours_151 ?_
                    refine lv_iload hx hb dX7_tellHours_154 (lv_at hl 2 rfl) ?_
                    refine lv_dup2_11 hx hb dX7_tellHours_156 rfl rfl ?_
                    refine xk_iald hx hb hK hP 12 (by omega) (n := 5) (e2_row 5 (by decide) rfl) rfl (d ((hh x + cta p d (th x 2) (hh x) (dl g th x) p 1 * dl g th x) % p)) (by omega) (by decide) dX7_tellHours_157 ?_
                    refine xn_eqi (y := nI (cb (fun z => decide (ot p d g th hh z = nI (d ((hh x + cta p d (th x 2) (hh x) (dl g th x) p 1 * dl g th x) % p)))) x)) (hcn3 _ (by omega)) ?_
                    refine lv_iconst (v := nI 1) hx hb dX7_tellHours_158 (by decide) ?_
                    refine xn_iadd hx hb dX7_tellHours_159 ?_
                    refine xk_iast hx hb hK hI hP hS 12 (by omega) (n := 5) (fun τ => (e2_row 5 (by decide) rfl)) rfl (d ((hh x + cta p d (th x 2) (hh x) (dl g th x) p 1 * dl g th x) % p)) (by omega) (by decide) e2_loc dX7_tellHours_160 (fun H locs hP hS => ?_)
                    refine lv_iinc (v := nI (x + 1)) (lv' := [(5, .int (nI (x + 1))), (4, .int (lts (fun x => dwn p d (th x 2) (hh x) (dl g th x)) (x + 1))), (3, .int (sbt (fun x => decide (rt p d g th x (hh x))) (x + 1))), (6, .int (nI (d ((hh x + cta p d (th x 2) (hh x) (dl g th x) p 1 * dl g th x) % p)))), (0, .ref (ad 0)), (1, .int (nI F)), (2, .int (nI 1))]) hx hb dX7_tellHours_161 hl (k := 6) rfl (xn_inc _ 1) (by decide) rfl (fun ls hl => ?_)
                    refine lv_goto (tgt := 74) hx hb dX7_tellHours_164 (by decide) ?_
                    exact ih_74 (x + 1) (up τ95 12 (d ((hh x + cta p d (th x 2) (hh x) (dl g th x) p 1 * dl g th x) % p)) (nI ((cb (fun z => decide (ot p d g th hh z = nI (d ((hh x + cta p d (th x 2) (hh x) (dl g th x) p 1 * dl g th x) % p)))) x) + 1))) (by omega) (hFo.tr FrM_12) (fun k hk => by
            have hdec : decide (ot p d g th hh x = nI k) = decide (d ((hh x + cta p d (th x 2) (hh x) (dl g th x) p 1 * dl g th x) % p) = k) := by show decide (oth p d (th x 2) (hh x) (dl g th x) = nI k) = _; rw [hoN]; exact decide_eq_decide.mpr (nI_eq (by omega) (by omega))
            simp only [cb, hdec]
            by_cases hk2 : d ((hh x + cta p d (th x 2) (hh x) (dl g th x) p 1 * dl g th x) % p) = k
            · rw [if_pos (decide_eq_true hk2), ← hk2, up_s]
            · rw [if_neg (by rw [decide_eq_true_eq]; exact hk2), up_n (by omega)]; exact hcn3 k hk) (by omega) _ _ _ hP hS (lv_sub hl [4, 5, 6, 2, 1, 0] rfl)
              · refine lv_iconst (v := nI 1) hx hb dX7_tellHours_113 (by decide) ?_
                refine lv_iload hx hb dX7_tellHours_114 (lv_at hl 6 rfl) ?_
                refine lv_ishl hx hb dX7_tellHours_116 ?_
                refine lv_goto (tgt := 121) hx hb dX7_tellHours_117 (by decide) ?_
                refine lv_ior hx hb dX7_tellHours_121 ?_
                refine xn_eqi (y := sbt (fun x => decide (rt p d g th x (hh x))) (x + 1)) (by simp only [sbt]; rw [if_pos (by simpa using c_110)]) ?_
                refine lv_istore_n (lv' := [(3, .int (sbt (fun x => decide (rt p d g th x (hh x))) (x + 1))), (6, .int (oth p d (th x 2) (hh x) (dl g th x))), (0, .ref (ad 0)), (1, .int (nI F)), (2, .int (nI 1)), (4, .int (lts (fun x => dwn p d (th x 2) (hh x) (dl g th x)) x)), (5, .int (nI x))]) hx hb dX7_tellHours_122 rfl hl (by decide) rfl (fun ls hl => ?_)
                refine lv_aload_n hx hb dX7_tellHours_123 rfl (lv_at hl 2 rfl) ?_
                refine xk_get hx hb hts (inX7_tellHours_X7) hown hK hP 0 (by omega) (ci := 7) e2_obj rfl 21 (by decide) (flX7_tellHours_141 hts) rfl (.int (τ95 0 21)) rfl dX7_tellHours_124 ?_
                refine xn_eqi (y := dwn p d (th x 2) (hh x) (dl g th x)) hdn ?_
                refine lv_iload hx hb dX7_tellHours_127 (lv_at hl 5 rfl) ?_
                refine lv_icmp_le (tgt := 139) hx hb dX7_tellHours_129 (by decide) (fun c_129 => ?_) (fun c_129 => ?_)
                · refine lv_iload hx hb dX7_tellHours_139 (lv_at hl 5 rfl) ?_
                  refine xn_eqi (y := lts (fun x => dwn p d (th x 2) (hh x) (dl g th x)) (x + 1)) (by simp only [lts]; exact (if_neg (Int32.not_lt.mpr c_129)).symm) ?_
                  refine lv_istore (lv' := [(4, .int (lts (fun x => dwn p d (th x 2) (hh x) (dl g th x)) (x + 1))), (3, .int (sbt (fun x => decide (rt p d g th x (hh x))) (x + 1))), (6, .int (oth p d (th x 2) (hh x) (dl g th x))), (0, .ref (ad 0)), (1, .int (nI F)), (2, .int (nI 1)), (5, .int (nI x))]) hx hb dX7_tellHours_141 hl (by decide) rfl (fun ls hl => ?_)
                  by_cases q_143 : cta p d (th x 2) (hh x) (dl g th x) p 1 = 0
                  · have hoN := oth_none q_143
                    rw [hoN] at hl
                    refine lv_iload hx hb dX7_tellHours_143 (lv_at hl 2 rfl) ?_
                    refine lv_bipush (v := (-9)) hx hb dX7_tellHours_145 (by decide) ?_
                    refine lv_icmp_eq (tgt := 161) hx hb dX7_tellHours_147 (by decide) (fun c_147 => ?_) (fun c_147 => absurd rfl c_147)
                    refine lv_iinc (v := nI (x + 1)) (lv' := [(5, .int (nI (x + 1))), (4, .int (lts (fun x => dwn p d (th x 2) (hh x) (dl g th x)) (x + 1))), (3, .int (sbt (fun x => decide (rt p d g th x (hh x))) (x + 1))), (6, .int (-9)), (0, .ref (ad 0)), (1, .int (nI F)), (2, .int (nI 1))]) hx hb dX7_tellHours_161 hl (k := 6) rfl (xn_inc _ 1) (by decide) rfl (fun ls hl => ?_)
                    refine lv_goto (tgt := 74) hx hb dX7_tellHours_164 (by decide) ?_
                    exact ih_74 (x + 1) τ95 (by omega) hFo (fun k hk => by
            simp only [cb]
            rw [if_neg (by rw [decide_eq_true_eq]; show ¬ oth p d (th x 2) (hh x) (dl g th x) = nI k; rw [hoN]; exact nI_n9 (by omega))]
            exact hcn3 k hk) (by omega) _ _ _ hP hS (lv_sub hl [4, 5, 6, 2, 1, 0] rfl)
                  · have hoN := oth_some q_143
                    rw [hoN] at hl
                    have hd5 := (hR.2.2 _ (Nat.mod_lt (hh x + cta p d (th x 2) (hh x) (dl g th x) p 1 * dl g th x) hp0)).2
                    have hcbl := cb_le (fun z => decide (ot p d g th hh z = nI (d ((hh x + cta p d (th x 2) (hh x) (dl g th x) p 1 * dl g th x) % p)))) x
                    refine lv_iload hx hb dX7_tellHours_143 (lv_at hl 2 rfl) ?_
                    refine lv_bipush (v := (-9)) hx hb dX7_tellHours_145 (by decide) ?_
                    refine lv_icmp_eq (tgt := 161) hx hb dX7_tellHours_147 (by decide) (fun c_147 => absurd c_147 (nI_n9' (by omega))) (fun c_147 => ?_)
                    refine lv_aload_n hx hb dX7_tellHours_150 rfl (lv_at hl 3 rfl) ?_
                    refine xk_get hx hb hts (inX7_tellHours_X7) hown hK hP 0 (by omega) (ci := 7) e2_obj rfl 23 (by decide) (flX7_tellHours_43 hts) rfl (.ref (ad 12)) rfl dX7_tellHours_151 ?_
                    refine lv_iload hx hb dX7_tellHours_154 (lv_at hl 2 rfl) ?_
                    refine lv_dup2_11 hx hb dX7_tellHours_156 rfl rfl ?_
                    refine xk_iald hx hb hK hP 12 (by omega) (n := 5) (e2_row 5 (by decide) rfl) rfl (d ((hh x + cta p d (th x 2) (hh x) (dl g th x) p 1 * dl g th x) % p)) (by omega) (by decide) dX7_tellHours_157 ?_
                    refine xn_eqi (y := nI (cb (fun z => decide (ot p d g th hh z = nI (d ((hh x + cta p d (th x 2) (hh x) (dl g th x) p 1 * dl g th x) % p)))) x)) (hcn3 _ (by omega)) ?_
                    refine lv_iconst (v := nI 1) hx hb dX7_tellHours_158 (by decide) ?_
                    refine xn_iadd hx hb dX7_tellHours_159 ?_
                    refine xk_iast hx hb hK hI hP hS 12 (by omega) (n := 5) (fun τ => (e2_row 5 (by decide) rfl)) rfl (d ((hh x + cta p d (th x 2) (hh x) (dl g th x) p 1 * dl g th x) % p)) (by omega) (by decide) e2_loc dX7_tellHours_160 (fun H locs hP hS => ?_)
                    refine lv_iinc (v := nI (x + 1)) (lv' := [(5, .int (nI (x + 1))), (4, .int (lts (fun x => dwn p d (th x 2) (hh x) (dl g th x)) (x + 1))), (3, .int (sbt (fun x => decide (rt p d g th x (hh x))) (x + 1))), (6, .int (nI (d ((hh x + cta p d (th x 2) (hh x) (dl g th x) p 1 * dl g th x) % p)))), (0, .ref (ad 0)), (1, .int (nI F)), (2, .int (nI 1))]) hx hb dX7_tellHours_161 hl (k := 6) rfl (xn_inc _ 1) (by decide) rfl (fun ls hl => ?_)
                    refine lv_goto (tgt := 74) hx hb dX7_tellHours_164 (by decide) ?_
                    exact ih_74 (x + 1) (up τ95 12 (d ((hh x + cta p d (th x 2) (hh x) (dl g th x) p 1 * dl g th x) % p)) (nI ((cb (fun z => decide (ot p d g th hh z = nI (d ((hh x + cta p d (th x 2) (hh x) (dl g th x) p 1 * dl g th x) % p)))) x) + 1))) (by omega) (hFo.tr FrM_12) (fun k hk => by
            have hdec : decide (ot p d g th hh x = nI k) = decide (d ((hh x + cta p d (th x 2) (hh x) (dl g th x) p 1 * dl g th x) % p) = k) := by show decide (oth p d (th x 2) (hh x) (dl g th x) = nI k) = _; rw [hoN]; exact decide_eq_decide.mpr (nI_eq (by omega) (by omega))
            simp only [cb, hdec]
            by_cases hk2 : d ((hh x + cta p d (th x 2) (hh x) (dl g th x) p 1 * dl g th x) % p) = k
            · rw [if_pos (decide_eq_true hk2), ← hk2, up_s]
            · rw [if_neg (by rw [decide_eq_true_eq]; exact hk2), up_n (by omega)]; exact hcn3 k hk) (by omega) _ _ _ hP hS (lv_sub hl [4, 5, 6, 2, 1, 0] rfl)
                · refine lv_aload_n hx hb dX7_tellHours_132 rfl (lv_at hl 2 rfl) ?_
                  refine xk_get hx hb hts (inX7_tellHours_X7) hown hK hP 0 (by omega) (ci := 7) e2_obj rfl 21 (by decide) (flX7_tellHours_141 hts) rfl (.int (τ95 0 21)) rfl dX7_tellHours_133 ?_
                  refine xn_eqi (y := dwn p d (th x 2) (hh x) (dl g th x)) hdn ?_
                  refine lv_goto (tgt := 141) hx hb dX7_tellHours_136 (by decide) ?_
                  refine xn_eqi (y := lts (fun x => dwn p d (th x 2) (hh x) (dl g th x)) (x + 1)) (by simp only [lts]; exact (if_pos (Int32.not_le.mp c_129)).symm) ?_
                  refine lv_istore (lv' := [(4, .int (lts (fun x => dwn p d (th x 2) (hh x) (dl g th x)) (x + 1))), (3, .int (sbt (fun x => decide (rt p d g th x (hh x))) (x + 1))), (6, .int (oth p d (th x 2) (hh x) (dl g th x))), (0, .ref (ad 0)), (1, .int (nI F)), (2, .int (nI 1)), (5, .int (nI x))]) hx hb dX7_tellHours_141 hl (by decide) rfl (fun ls hl => ?_)
                  by_cases q_143 : cta p d (th x 2) (hh x) (dl g th x) p 1 = 0
                  · have hoN := oth_none q_143
                    rw [hoN] at hl
                    refine lv_iload hx hb dX7_tellHours_143 (lv_at hl 2 rfl) ?_
                    refine lv_bipush (v := (-9)) hx hb dX7_tellHours_145 (by decide) ?_
                    refine lv_icmp_eq (tgt := 161) hx hb dX7_tellHours_147 (by decide) (fun c_147 => ?_) (fun c_147 => absurd rfl c_147)
                    refine lv_iinc (v := nI (x + 1)) (lv' := [(5, .int (nI (x + 1))), (4, .int (lts (fun x => dwn p d (th x 2) (hh x) (dl g th x)) (x + 1))), (3, .int (sbt (fun x => decide (rt p d g th x (hh x))) (x + 1))), (6, .int (-9)), (0, .ref (ad 0)), (1, .int (nI F)), (2, .int (nI 1))]) hx hb dX7_tellHours_161 hl (k := 6) rfl (xn_inc _ 1) (by decide) rfl (fun ls hl => ?_)
                    refine lv_goto (tgt := 74) hx hb dX7_tellHours_164 (by decide) ?_
                    exact ih_74 (x + 1) τ95 (by omega) hFo (fun k hk => by
            simp only [cb]
            rw [if_neg (by rw [decide_eq_true_eq]; show ¬ oth p d (th x 2) (hh x) (dl g th x) = nI k; rw [hoN]; exact nI_n9 (by omega))]
            exact hcn3 k hk) (by omega) _ _ _ hP hS (lv_sub hl [4, 5, 6, 2, 1, 0] rfl)
                  · have hoN := oth_some q_143
                    rw [hoN] at hl
                    have hd5 := (hR.2.2 _ (Nat.mod_lt (hh x + cta p d (th x 2) (hh x) (dl g th x) p 1 * dl g th x) hp0)).2
                    have hcbl := cb_le (fun z => decide (ot p d g th hh z = nI (d ((hh x + cta p d (th x 2) (hh x) (dl g th x) p 1 * dl g th x) % p)))) x
                    refine lv_iload hx hb dX7_tellHours_143 (lv_at hl 2 rfl) ?_
                    refine lv_bipush (v := (-9)) hx hb dX7_tellHours_145 (by decide) ?_
                    refine lv_icmp_eq (tgt := 161) hx hb dX7_tellHours_147 (by decide) (fun c_147 => absurd c_147 (nI_n9' (by omega))) (fun c_147 => ?_)
                    refine lv_aload_n hx hb dX7_tellHours_150 rfl (lv_at hl 3 rfl) ?_
                    refine xk_get hx hb hts (inX7_tellHours_X7) hown hK hP 0 (by omega) (ci := 7) e2_obj rfl 23 (by decide) (flX7_tellHours_43 hts) rfl (.ref (ad 12)) rfl dX7_tellHours_151 ?_
                    refine lv_iload hx hb dX7_tellHours_154 (lv_at hl 2 rfl) ?_
                    refine lv_dup2_11 hx hb dX7_tellHours_156 rfl rfl ?_
                    refine xk_iald hx hb hK hP 12 (by omega) (n := 5) (e2_row 5 (by decide) rfl) rfl (d ((hh x + cta p d (th x 2) (hh x) (dl g th x) p 1 * dl g th x) % p)) (by omega) (by decide) dX7_tellHours_157 ?_
                    refine xn_eqi (y := nI (cb (fun z => decide (ot p d g th hh z = nI (d ((hh x + cta p d (th x 2) (hh x) (dl g th x) p 1 * dl g th x) % p)))) x)) (hcn3 _ (by omega)) ?_
                    refine lv_iconst (v := nI 1) hx hb dX7_tellHours_158 (by decide) ?_
                    refine xn_iadd hx hb dX7_tellHours_159 ?_
                    refine xk_iast hx hb hK hI hP hS 12 (by omega) (n := 5) (fun τ => (e2_row 5 (by decide) rfl)) rfl (d ((hh x + cta p d (th x 2) (hh x) (dl g th x) p 1 * dl g th x) % p)) (by omega) (by decide) e2_loc dX7_tellHours_160 (fun H locs hP hS => ?_)
                    refine lv_iinc (v := nI (x + 1)) (lv' := [(5, .int (nI (x + 1))), (4, .int (lts (fun x => dwn p d (th x 2) (hh x) (dl g th x)) (x + 1))), (3, .int (sbt (fun x => decide (rt p d g th x (hh x))) (x + 1))), (6, .int (nI (d ((hh x + cta p d (th x 2) (hh x) (dl g th x) p 1 * dl g th x) % p)))), (0, .ref (ad 0)), (1, .int (nI F)), (2, .int (nI 1))]) hx hb dX7_tellHours_161 hl (k := 6) rfl (xn_inc _ 1) (by decide) rfl (fun ls hl => ?_)
                    refine lv_goto (tgt := 74) hx hb dX7_tellHours_164 (by decide) ?_
                    exact ih_74 (x + 1) (up τ95 12 (d ((hh x + cta p d (th x 2) (hh x) (dl g th x) p 1 * dl g th x) % p)) (nI ((cb (fun z => decide (ot p d g th hh z = nI (d ((hh x + cta p d (th x 2) (hh x) (dl g th x) p 1 * dl g th x) % p)))) x) + 1))) (by omega) (hFo.tr FrM_12) (fun k hk => by
            have hdec : decide (ot p d g th hh x = nI k) = decide (d ((hh x + cta p d (th x 2) (hh x) (dl g th x) p 1 * dl g th x) % p) = k) := by show decide (oth p d (th x 2) (hh x) (dl g th x) = nI k) = _; rw [hoN]; exact decide_eq_decide.mpr (nI_eq (by omega) (by omega))
            simp only [cb, hdec]
            by_cases hk2 : d ((hh x + cta p d (th x 2) (hh x) (dl g th x) p 1 * dl g th x) % p) = k
            · rw [if_pos (decide_eq_true hk2), ← hk2, up_s]
            · rw [if_neg (by rw [decide_eq_true_eq]; exact hk2), up_n (by omega)]; exact hcn3 k hk) (by omega) _ _ _ hP hS (lv_sub hl [4, 5, 6, 2, 1, 0] rfl)
        exact LP_74 _ 0 τ (by omega) hFm (fun k hk => hz5 k hk) (Nat.lt_succ_self _) _ _ _ hP hS (lv_sub hl [1, 2, 3, 4, 5, 0] rfl)
      · refine lv_aload_n hx hb dX7_tellHours_57 rfl (lv_at hl 0 rfl) ?_
        refine xk_get hx hb hts (inX7_tellHours_X7) hown hK hP 0 (by omega) (ci := 7) e2_obj rfl 23 (by decide) (flX7_tellHours_43 hts) rfl (.ref (ad 12)) rfl dX7_tellHours_58 ?_
        refine lv_iload hx hb dX7_tellHours_61 (lv_at hl 5 rfl) ?_
        refine lv_iconst (v := nI 0) hx hb dX7_tellHours_63 (by decide) ?_
        refine xk_iast hx hb hK hI hP hS 12 (by omega) (n := 5) (fun τ => (e2_row 5 (by decide) rfl)) rfl k (by omega) (by decide) e2_loc dX7_tellHours_64 (fun H locs hP hS => ?_)
        refine lv_iinc (v := nI (k + 1)) (lv' := [(5, .int (nI (k + 1))), (0, .ref (ad 0)), (1, .int (nI F)), (2, .int (nI 1)), (3, .int (nI 0)), (4, .int (-9))]) hx hb dX7_tellHours_65 hl (k := 5) rfl (xn_inc _ 1) (by decide) rfl (fun ls hl => ?_)
        refine lv_goto (tgt := 51) hx hb dX7_tellHours_68 (by decide) ?_
        exact ih_51 (k + 1) (up τ 12 k (nI 0)) (by omega) (hFm.tr FrM_12) (fun j hj => by
          by_cases hjk : j = k
          · rw [hjk, up_s]
          · rw [up_n (by omega)]; exact hz j (by omega)) (by omega) _ _ _ hP hS (lv_sub hl [1, 2, 3, 4, 5, 0] rfl)
  exact LP_51 _ 0 σ (by omega) FrM.rf (fun j hj => absurd hj (Nat.not_lt_zero _)) (Nat.lt_succ_self _) _ _ _ hP hS (lv_sub hl [3, 4, 5, 2, 1, 0] rfl)

set_option maxHeartbeats 4000000 in
set_option maxRecDepth 100000 in
theorem k2_tellH_2 (l : Launch) {D : va_G} {ca : Nat → ClassId} {ad : Nat → Nat} (hI : Ij ad 18) {σ : Sg} {n g : Nat} {th : Nat → Nat → Nat} {p : Nat} {d : Nat → Nat} {F : Nat} {hh : Nat → Nat} (hT : ThM σ n g th) (hR : RotaM σ p d) (hp0 : 0 < p) (hFb : F + n ≤ 240) (hcc : ∀ x, x < n → σ 3 (F + x) = nI (hh x) ∧ hh x ≤ 23) : C2i l D ca ad yX7_tellHours wsX7_tellHours { frames := 3, cells := 0, slots := 0, locals := 70 } [.ref (ad 0), .int (nI F), .int (nI 2)] σ (fun r σ' => r = (bsy (fun k => cb (fun z => decide (ot p d g th hh z = nI k)) n) 5).1 ∧ FrM σ σ') := by
  refine xk_entry cX7_tellHours 7 (some .int) (by decide) rfl (Nat.le_of_ble_eq_true rfl) ?_
  intro pP eE sS mM below meth cC hx hb hml hr hts hown hlk hP hK hX hS ls hl
  have hl : lv_has ls 7 [(0, .ref (ad 0)), (1, .int (nI F)), (2, .int (nI 2))] := hl
  have hn5 := hT.2.2.1
  have hg9 := hT.2.2.2.1
  have hp6 := hR.2.1
  have hFc : FrF σ σ := FrF.rf
  have hTc := hT
  have hRc := hR
  refine lv_iload_n hx hb dX7_tellHours_0 rfl (lv_at hl 2 rfl) ?_
  refine lv_bipush (v := nI 10) hx hb dX7_tellHours_1 (by decide) ?_
  refine xn_ilt (tgt := 42) hx hb dX7_tellHours_3 (by decide) (by omega) (by omega) (fun c_3 => ?_) (fun c_3 => absurd c_3 (by omega))
  refine lv_iconst (v := nI 0) hx hb dX7_tellHours_42 (by decide) ?_
  refine lv_istore_n (lv' := [(3, .int (nI 0)), (0, .ref (ad 0)), (1, .int (nI F)), (2, .int (nI 2))]) hx hb dX7_tellHours_43 rfl hl (by decide) rfl (fun ls hl => ?_)
  refine lv_bipush (v := (-9)) hx hb dX7_tellHours_44 (by decide) ?_
  refine lv_istore (lv' := [(4, .int (-9)), (3, .int (nI 0)), (0, .ref (ad 0)), (1, .int (nI F)), (2, .int (nI 2))]) hx hb dX7_tellHours_46 hl (by decide) rfl (fun ls hl => ?_)
  refine lv_iconst (v := nI 0) hx hb dX7_tellHours_48 (by decide) ?_
  refine lv_istore (lv' := [(5, .int (nI 0)), (4, .int (-9)), (3, .int (nI 0)), (0, .ref (ad 0)), (1, .int (nI F)), (2, .int (nI 2))]) hx hb dX7_tellHours_49 hl (by decide) rfl (fun ls hl => ?_)
  have LP_51 : ∀ (n_51 : Nat) (k : Nat) (τ : Sg), (k ≤ 5) → (FrM σ τ) → (∀ j, j < k → τ 12 j = nI 0) → (5 - k) < n_51 → ∀ (H : Heap) (locs : List Loc) (ls : Array Slot), va_P D vwCl (wl ad 18 (en2 ad ca τ)) H → va_S (AA ad 18) sS.heap H locs → lv_has ls 7 [(0, .ref (ad 0)), (1, .int (nI F)), (2, .int (nI 2)), (3, .int (nI 0)), (4, .int (-9)), (5, .int (nI k))] → Wwi2 pP l eE { frames := 3, cells := 0, slots := 0, locals := 70 } sS mM [.ref (ad 0), .int (nI F), .int (nI 2)] below meth cC D ca ad (fun r σ' => r = (bsy (fun k => cb (fun z => decide (ot p d g th hh z = nI k)) n) 5).1 ∧ FrM σ σ') H locs (F0 mM 51 ls []) := by
    intro n_51
    induction n_51 with
    | zero =>
      intro k τ hk hFm hz hn_51
      exact absurd hn_51 (Nat.not_lt_zero _)
    | succ n_51 ih_51 =>
      intro k τ hk hFm hz hn_51 H locs ls hP hS hl
      refine lv_iload hx hb dX7_tellHours_51 (lv_at hl 5 rfl) ?_
      refine lv_iconst (v := nI 5) hx hb dX7_tellHours_53 (by decide) ?_
      refine xn_ige (tgt := 71) hx hb dX7_tellHours_54 (by decide) (by omega) (by omega) (fun c_54 => ?_) (fun c_54 => ?_)
      · have hz5 : ∀ j, j < 5 → τ 12 j = nI 0 := fun j hj => hz j (by omega)
        refine lv_iconst (v := nI 0) hx hb dX7_tellHours_71 (by decide) ?_
        refine lv_istore (lv' := [(5, .int (nI 0)), (0, .ref (ad 0)), (1, .int (nI F)), (2, .int (nI 2)), (3, .int (nI 0)), (4, .int (-9))]) hx hb dX7_tellHours_72 hl (by decide) rfl (fun ls hl => ?_)
        have LP_74 : ∀ (n_74 : Nat) (x : Nat) (τ2 : Sg), (x ≤ n) → (FrM σ τ2) → (∀ k, k < 5 → τ2 12 k = nI (cb (fun z => decide (ot p d g th hh z = nI k)) x)) → (n - x) < n_74 → ∀ (H : Heap) (locs : List Loc) (ls : Array Slot), va_P D vwCl (wl ad 18 (en2 ad ca τ2)) H → va_S (AA ad 18) sS.heap H locs → lv_has ls 7 [(0, .ref (ad 0)), (1, .int (nI F)), (2, .int (nI 2)), (3, .int (sbt (fun x => decide (rt p d g th x (hh x))) x)), (4, .int (lts (fun x => dwn p d (th x 2) (hh x) (dl g th x)) x)), (5, .int (nI x))] → Wwi2 pP l eE { frames := 3, cells := 0, slots := 0, locals := 70 } sS mM [.ref (ad 0), .int (nI F), .int (nI 2)] below meth cC D ca ad (fun r σ' => r = (bsy (fun k => cb (fun z => decide (ot p d g th hh z = nI k)) n) 5).1 ∧ FrM σ σ') H locs (F0 mM 74 ls []) := by
          intro n_74
          induction n_74 with
          | zero =>
            intro x τ2 hx0 hFn hcn2 hn_74
            exact absurd hn_74 (Nat.not_lt_zero _)
          | succ n_74 ih_74 =>
            intro x τ2 hx0 hFn hcn2 hn_74 H locs ls hP hS hl
            have hTc := ThM_fr hT hFn
            have hRc := RotaM_fr hR hFn
            have hcr : τ2 3 = σ 3 := hFn.2 3 (by omega) (by omega)
            refine lv_iload hx hb dX7_tellHours_74 (lv_at hl 5 rfl) ?_
            refine lv_aload_n hx hb dX7_tellHours_76 rfl (lv_at hl 0 rfl) ?_
            refine xk_get hx hb hts (inX7_tellHours_X7) hown hK hP 0 (by omega) (ci := 7) e2_obj rfl 7 (by decide) (flX7_tellHours_71 hts) rfl (.int (τ2 0 7)) rfl dX7_tellHours_77 ?_
            refine xn_eqi (y := nI n) hTc.2.1 ?_
            refine xn_ige (tgt := 167) hx hb dX7_tellHours_80 (by decide) (by omega) (by omega) (fun c_80 => ?_) (fun c_80 => ?_)
            · refine lv_iload_n hx hb dX7_tellHours_167 rfl (lv_at hl 2 rfl) ?_
              refine xn_zne (tgt := 175) hx hb dX7_tellHours_168 (by decide) (by omega) (fun c_168 => ?_) (fun c_168 => absurd c_168 (by omega))
              refine lv_iload_n hx hb dX7_tellHours_175 rfl (lv_at hl 2 rfl) ?_
              refine lv_iconst (v := nI 1) hx hb dX7_tellHours_176 (by decide) ?_
              refine xn_ine (tgt := 185) hx hb dX7_tellHours_177 (by decide) (by omega) (by omega) (fun c_177 => ?_) (fun c_177 => absurd c_177 (by omega))
              refine lv_aload_n hx hb dX7_tellHours_185 rfl (lv_at hl 0 rfl) ?_
              refine xk_fi (va_runV (As := []) (rest := []) ⟨hx, hb, hml, hown, hts⟩ (k2_most l hI (f := fun k => cb (fun z => decide (ot p d g th hh z = nI k)) n) (fun k hk => by have := hcn2 k hk; rwa [show x = n by omega] at this) (fun k => Nat.le_trans (cb_le _ n) hn5)) (cwV 0 hts gX7_tellHours_X7_mostDrawn rfl rfl rfl (by decide +kernel) ⟨Nat.le_of_ble_eq_true rfl, Nat.le_of_ble_eq_true rfl⟩) (xk_preV X2_ok hK hX hP (xk_recv hK hP 0 (by omega) (ci := 7) e2_obj rfl)) rfl rfl hl.1 rfl (lv_room (Nat.le_of_ble_eq_true rfl)) dX7_tellHours_186 ⟨Nat.le_of_ble_eq_true rfl, Nat.le_of_ble_eq_true rfl⟩) hS (fun H locs hP hS => ?_)
              exact xk_iret hx hb hr (vp_nar_int _) X2_ok hK hX hP hS hlk dX7_tellHours_189 (⟨rfl, hFn⟩)
            · have hXxc := hTc.2.2.2.2 x c_80
              obtain ⟨ho0, ho1, ho2, ho3, ho4⟩ := (hT.2.2.2.2 x c_80).2
              have hhx := (hcc x c_80).2
              have hdlx : dl g th x ≤ 36 := dly_le hg9 ho1
              refine lv_aload_n hx hb dX7_tellHours_83 rfl (lv_at hl 0 rfl) ?_
              refine lv_iload hx hb dX7_tellHours_84 (lv_at hl 5 rfl) ?_
              refine lv_aload_n hx hb dX7_tellHours_86 rfl (lv_at hl 0 rfl) ?_
              refine xk_get hx hb hts (inX7_tellHours_X7) hown hK hP 0 (by omega) (ci := 7) e2_obj rfl 4 (by decide) (flX7_tellHours_16 hts) rfl (.ref (ad 3)) rfl dX7_tellHours_87 ?_
              refine lv_iload_n hx hb dX7_tellHours_90 rfl (lv_at hl 1 rfl) ?_
              refine lv_iload hx hb dX7_tellHours_91 (lv_at hl 5 rfl) ?_
              refine xn_iadd hx hb dX7_tellHours_93 ?_
              refine xk_iald hx hb hK hP 3 (by omega) (n := 240) (e2_row 240 (by decide) rfl) rfl (F + x) (by omega) (by decide) dX7_tellHours_94 ?_
              refine xn_eqi (y := nI (hh x)) (by rw [hcr]; exact (hcc _ (by omega)).1) ?_
              refine xk_ci (va_runV (As := [.int (nI x), .int (nI (hh x))]) (rest := []) ⟨hx, hb, hml, hown, hts⟩ (k2_drawerBy l hI (x := x) (h := hh x) hTc hRc hp0 (by omega) (by omega)) (cwV 2 hts gX7_tellHours_X7_drawerBy rfl rfl rfl (by decide +kernel) ⟨Nat.le_of_ble_eq_true rfl, Nat.le_of_ble_eq_true rfl⟩) (xk_preV X2_ok hK hX hP (xk_recv hK hP 0 (by omega) (ci := 7) e2_obj rfl)) rfl rfl hl.1 rfl (lv_room (Nat.le_of_ble_eq_true rfl)) dX7_tellHours_95 ⟨Nat.le_of_ble_eq_true rfl, Nat.le_of_ble_eq_true rfl⟩) hS (fun r95 τ95 H locs hp hP hS => ?_)
              obtain ⟨rfl, hdn, hF95⟩ := hp
              have hFo := hFn.tr hF95.M
              have hTc := ThM_fr hT hFo
              have hRc := RotaM_fr hR hFo
              have hXxc := hTc.2.2.2.2 x c_80
              have hcn3 : ∀ k, k < 5 → τ95 12 k = nI (cb (fun z => decide (ot p d g th hh z = nI k)) x) := fun k hk => by rw [hF95.2 12 (by omega)]; exact hcn2 k hk
              refine lv_istore (lv' := [(6, .int (oth p d (th x 2) (hh x) (dl g th x))), (0, .ref (ad 0)), (1, .int (nI F)), (2, .int (nI 2)), (3, .int (sbt (fun x => decide (rt p d g th x (hh x))) x)), (4, .int (lts (fun x => dwn p d (th x 2) (hh x) (dl g th x)) x)), (5, .int (nI x))]) hx hb dX7_tellHours_98 hl (by decide) rfl (fun ls hl => ?_)
              refine lv_iload_n hx hb dX7_tellHours_100 rfl (lv_at hl 4 rfl) ?_
              refine lv_iload hx hb dX7_tellHours_101 (lv_at hl 0 rfl) ?_
              refine lv_aload_n hx hb dX7_tellHours_103 rfl (lv_at hl 1 rfl) ?_
              refine xk_get hx hb hts (inX7_tellHours_X7) hown hK hP 0 (by omega) (ci := 7) e2_obj rfl 12 (by decide) (flX7_tellHours_31 hts) rfl (.ref (ad 8)) rfl dX7_tellHours_104 ?_
              refine lv_iload hx hb dX7_tellHours_107 (lv_at hl 6 rfl) ?_
              refine xk_iald hx hb hK hP 8 (by omega) (n := 5) (e2_row 5 (by decide) rfl) rfl x (by omega) (by decide) dX7_tellHours_109 ?_
              refine xn_eqi (y := nI (th x 3)) (hXxc.1 3 (by omega)) ?_
              refine lv_icmp_ne (tgt := 120) hx hb dX7_tellHours_110 (by decide) (fun c_110 => ?_) (fun c_110 => ?_)
              · refine lv_iconst (v := nI 0) hx hb dX7_tellHours_120 (by decide) ?_
                refine lv_ior hx hb dX7_tellHours_121 ?_
                refine xn_eqi (y := sbt (fun x => decide (rt p d g th x (hh x))) (x + 1)) (by simp only [sbt]; rw [if_neg (by simpa using c_110)]; exact or_0) ?_
                refine lv_istore_n (lv' := [(3, .int (sbt (fun x => decide (rt p d g th x (hh x))) (x + 1))), (6, .int (oth p d (th x 2) (hh x) (dl g th x))), (0, .ref (ad 0)), (1, .int (nI F)), (2, .int (nI 2)), (4, .int (lts (fun x => dwn p d (th x 2) (hh x) (dl g th x)) x)), (5, .int (nI x))]) hx hb dX7_tellHours_122 rfl hl (by decide) rfl (fun ls hl => ?_)
                refine lv_aload_n hx hb dX7_tellHours_123 rfl (lv_at hl 2 rfl) ?_
                refine xk_get hx hb hts (inX7_tellHours_X7) hown hK hP 0 (by omega) (ci := 7) e2_obj rfl 21 (by decide) (flX7_tellHours_141 hts) rfl (.int (τ95 0 21)) rfl dX7_tellHours_124 ?_
                refine xn_eqi (y := dwn p d (th x 2) (hh x) (dl g th x)) hdn ?_
                refine lv_iload hx hb dX7_tellHours_127 (lv_at hl 5 rfl) ?_
                refine lv_icmp_le (tgt := 139) hx hb dX7_tellHours_129 (by decide) (fun c_129 => ?_) (fun c_129 => ?_)
                · refine lv_iload hx hb dX7_tellHours_139 (lv_at hl 5 rfl) ?_
                  refine xn_eqi (y := lts (fun x => dwn p d (th x 2) (hh x) (dl g th x)) (x + 1)) (by simp only [lts]; exact (if_neg (Int32.not_lt.mpr c_129)).symm) ?_
                  refine lv_istore (lv' := [(4, .int (lts (fun x => dwn p d (th x 2) (hh x) (dl g th x)) (x + 1))), (3, .int (sbt (fun x => decide (rt p d g th x (hh x))) (x + 1))), (6, .int (oth p d (th x 2) (hh x) (dl g th x))), (0, .ref (ad 0)), (1, .int (nI F)), (2, .int (nI 2)), (5, .int (nI x))]) hx hb dX7_tellHours_141 hl (by decide) rfl (fun ls hl => ?_)
                  by_cases q_143 : cta p d (th x 2) (hh x) (dl g th x) p 1 = 0
                  · have hoN := oth_none q_143
                    rw [hoN] at hl
                    refine lv_iload hx hb dX7_tellHours_143 (lv_at hl 2 rfl) ?_
                    refine lv_bipush (v := (-9)) hx hb dX7_tellHours_145 (by decide) ?_
                    refine lv_icmp_eq (tgt := 161) hx hb dX7_tellHours_147 (by decide) (fun c_147 => ?_) (fun c_147 => absurd rfl c_147)
                    refine lv_iinc (v := nI (x + 1)) (lv' := [(5, .int (nI (x + 1))), (4, .int (lts (fun x => dwn p d (th x 2) (hh x) (dl g th x)) (x + 1))), (3, .int (sbt (fun x => decide (rt p d g th x (hh x))) (x + 1))), (6, .int (-9)), (0, .ref (ad 0)), (1, .int (nI F)), (2, .int (nI 2))]) hx hb dX7_tellHours_161 hl (k := 6) rfl (xn_inc _ 1) (by decide) rfl (fun ls hl => ?_)
                    refine lv_goto (tgt := 74) hx hb dX7_tellHours_164 (by decide) ?_
                    exact ih_74 (x + 1) τ95 (by omega) hFo (fun k hk => by
            simp only [cb]
            rw [if_neg (by rw [decide_eq_true_eq]; show ¬ oth p d (th x 2) (hh x) (dl g th x) = nI k; rw [hoN]; exact nI_n9 (by omega))]
            exact hcn3 k hk) (by omega) _ _ _ hP hS (lv_sub hl [4, 5, 6, 2, 1, 0] rfl)
                  · have hoN := oth_some q_143
                    rw [hoN] at hl
                    have hd5 := (hR.2.2 _ (Nat.mod_lt (hh x + cta p d (th x 2) (hh x) (dl g th x) p 1 * dl g th x) hp0)).2
                    have hcbl := cb_le (fun z => decide (ot p d g th hh z = nI (d ((hh x + cta p d (th x 2) (hh x) (dl g th x) p 1 * dl g th x) % p)))) x
                    refine lv_iload hx hb dX7_tellHours_143 (lv_at hl 2 rfl) ?_
                    refine lv_bipush (v := (-9)) hx hb dX7_tellHours_145 (by decide) ?_
                    refine lv_icmp_eq (tgt := 161) hx hb dX7_tellHours_147 (by decide) (fun c_147 => absurd c_147 (nI_n9' (by omega))) (fun c_147 => ?_)
                    refine lv_aload_n hx hb dX7_tellHours_150 rfl (lv_at hl 3 rfl) ?_
                    refine xk_get hx hb hts (inX7_tellHours_X7) hown hK hP 0 (by omega) (ci := 7) e2_obj rfl 23 (by decide) (flX7_tellHours_43 hts) rfl (.ref (ad 12)) rfl dX7_tellHours_151 ?_
                    refine lv_iload hx hb dX7_tellHours_154 (lv_at hl 2 rfl) ?_
                    refine lv_dup2_11 hx hb dX7_tellHours_156 rfl rfl ?_
                    refine xk_iald hx hb hK hP 12 (by omega) (n := 5) (e2_row 5 (by decide) rfl) rfl (d ((hh x + cta p d (th x 2) (hh x) (dl g th x) p 1 * dl g th x) % p)) (by omega) (by decide) dX7_tellHours_157 ?_
                    refine xn_eqi (y := nI (cb (fun z => decide (ot p d g th hh z = nI (d ((hh x + cta p d (th x 2) (hh x) (dl g th x) p 1 * dl g th x) % p)))) x)) (hcn3 _ (by omega)) ?_
                    refine lv_iconst (v := nI 1) hx hb dX7_tellHours_158 (by decide) ?_
                    refine xn_iadd hx hb dX7_tellHours_159 ?_
                    refine xk_iast hx hb hK hI hP hS 12 (by omega) (n := 5) (fun τ => (e2_row 5 (by decide) rfl)) rfl (d ((hh x + cta p d (th x 2) (hh x) (dl g th x) p 1 * dl g th x) % p)) (by omega) (by decide) e2_loc dX7_tellHours_160 (fun H locs hP hS => ?_)
                    refine lv_iinc (v := nI (x + 1)) (lv' := [(5, .int (nI (x + 1))), (4, .int (lts (fun x => dwn p d (th x 2) (hh x) (dl g th x)) (x + 1))), (3, .int (sbt (fun x => decide (rt p d g th x (hh x))) (x + 1))), (6, .int (nI (d ((hh x + cta p d (th x 2) (hh x) (dl g th x) p 1 * dl g th x) % p)))), (0, .ref (ad 0)), (1, .int (nI F)), (2, .int (nI 2))]) hx hb dX7_tellHours_161 hl (k := 6) rfl (xn_inc _ 1) (by decide) rfl (fun ls hl => ?_)
                    refine lv_goto (tgt := 74) hx hb dX7_tellHours_164 (by decide) ?_
                    exact ih_74 (x + 1) (up τ95 12 (d ((hh x + cta p d (th x 2) (hh x) (dl g th x) p 1 * dl g th x) % p)) (nI ((cb (fun z => decide (ot p d g th hh z = nI (d ((hh x + cta p d (th x 2) (hh x) (dl g th x) p 1 * dl g th x) % p)))) x) + 1))) (by omega) (hFo.tr FrM_12) (fun k hk => by
            have hdec : decide (ot p d g th hh x = nI k) = decide (d ((hh x + cta p d (th x 2) (hh x) (dl g th x) p 1 * dl g th x) % p) = k) := by show decide (oth p d (th x 2) (hh x) (dl g th x) = nI k) = _; rw [hoN]; exact decide_eq_decide.mpr (nI_eq (by omega) (by omega))
            simp only [cb, hdec]
            by_cases hk2 : d ((hh x + cta p d (th x 2) (hh x) (dl g th x) p 1 * dl g th x) % p) = k
            · rw [if_pos (decide_eq_true hk2), ← hk2, up_s]
            · rw [if_neg (by rw [decide_eq_true_eq]; exact hk2), up_n (by omega)]; exact hcn3 k hk) (by omega) _ _ _ hP hS (lv_sub hl [4, 5, 6, 2, 1, 0] rfl)
                · refine lv_aload_n hx hb dX7_tellHours_132 rfl (lv_at hl 2 rfl) ?_
                  refine xk_get hx hb hts (inX7_tellHours_X7) hown hK hP 0 (by omega) (ci := 7) e2_obj rfl 21 (by decide) (flX7_tellHours_141 hts) rfl (.int (τ95 0 21)) rfl dX7_tellHours_133 ?_
                  refine xn_eqi (y := dwn p d (th x 2) (hh x) (dl g th x)) hdn ?_
                  refine lv_goto (tgt := 141) hx hb dX7_tellHours_136 (by decide) ?_
                  refine xn_eqi (y := lts (fun x => dwn p d (th x 2) (hh x) (dl g th x)) (x + 1)) (by simp only [lts]; exact (if_pos (Int32.not_le.mp c_129)).symm) ?_
                  refine lv_istore (lv' := [(4, .int (lts (fun x => dwn p d (th x 2) (hh x) (dl g th x)) (x + 1))), (3, .int (sbt (fun x => decide (rt p d g th x (hh x))) (x + 1))), (6, .int (oth p d (th x 2) (hh x) (dl g th x))), (0, .ref (ad 0)), (1, .int (nI F)), (2, .int (nI 2)), (5, .int (nI x))]) hx hb dX7_tellHours_141 hl (by decide) rfl (fun ls hl => ?_)
                  by_cases q_143 : cta p d (th x 2) (hh x) (dl g th x) p 1 = 0
                  · have hoN := oth_none q_143
                    rw [hoN] at hl
                    refine lv_iload hx hb dX7_tellHours_143 (lv_at hl 2 rfl) ?_
                    refine lv_bipush (v := (-9)) hx hb dX7_tellHours_145 (by decide) ?_
                    refine lv_icmp_eq (tgt := 161) hx hb dX7_tellHours_147 (by decide) (fun c_147 => ?_) (fun c_147 => absurd rfl c_147)
                    refine lv_iinc (v := nI (x + 1)) (lv' := [(5, .int (nI (x + 1))), (4, .int (lts (fun x => dwn p d (th x 2) (hh x) (dl g th x)) (x + 1))), (3, .int (sbt (fun x => decide (rt p d g th x (hh x))) (x + 1))), (6, .int (-9)), (0, .ref (ad 0)), (1, .int (nI F)), (2, .int (nI 2))]) hx hb dX7_tellHours_161 hl (k := 6) rfl (xn_inc _ 1) (by decide) rfl (fun ls hl => ?_)
                    refine lv_goto (tgt := 74) hx hb dX7_tellHours_164 (by decide) ?_
                    exact ih_74 (x + 1) τ95 (by omega) hFo (fun k hk => by
            simp only [cb]
            rw [if_neg (by rw [decide_eq_true_eq]; show ¬ oth p d (th x 2) (hh x) (dl g th x) = nI k; rw [hoN]; exact nI_n9 (by omega))]
            exact hcn3 k hk) (by omega) _ _ _ hP hS (lv_sub hl [4, 5, 6, 2, 1, 0] rfl)
                  · have hoN := oth_some q_143
                    rw [hoN] at hl
                    have hd5 := (hR.2.2 _ (Nat.mod_lt (hh x + cta p d (th x 2) (hh x) (dl g th x) p 1 * dl g th x) hp0)).2
                    have hcbl := cb_le (fun z => decide (ot p d g th hh z = nI (d ((hh x + cta p d (th x 2) (hh x) (dl g th x) p 1 * dl g th x) % p)))) x
                    refine lv_iload hx hb dX7_tellHours_143 (lv_at hl 2 rfl) ?_
                    refine lv_bipush (v := (-9)) hx hb dX7_tellHours_145 (by decide) ?_
                    refine lv_icmp_eq (tgt := 161) hx hb dX7_tellHours_147 (by decide) (fun c_147 => absurd c_147 (nI_n9' (by omega))) (fun c_147 => ?_)
                    refine lv_aload_n hx hb dX7_tellHours_150 rfl (lv_at hl 3 rfl) ?_
                    refine xk_get hx hb hts (inX7_tellHours_X7) hown hK hP 0 (by omega) (ci := 7) e2_obj rfl 23 (by decide) (flX7_tellHours_43 hts) rfl (.ref (ad 12)) rfl dX7_tellHours_151 ?_
                    refine lv_iload hx hb dX7_tellHours_154 (lv_at hl 2 rfl) ?_
                    refine lv_dup2_11 hx hb dX7_tellHours_156 rfl rfl ?_
                    refine xk_iald hx hb hK hP 12 (by omega) (n := 5) (e2_row 5 (by decide) rfl) rfl (d ((hh x + cta p d (th x 2) (hh x) (dl g th x) p 1 * dl g th x) % p)) (by omega) (by decide) dX7_tellHours_157 ?_
                    refine xn_eqi (y := nI (cb (fun z => decide (ot p d g th hh z = nI (d ((hh x + cta p d (th x 2) (hh x) (dl g th x) p 1 * dl g th x) % p)))) x)) (hcn3 _ (by omega)) ?_
                    refine lv_iconst (v := nI 1) hx hb dX7_tellHours_158 (by decide) ?_
                    refine xn_iadd hx hb dX7_tellHours_159 ?_
                    refine xk_iast hx hb hK hI hP hS 12 (by omega) (n := 5) (fun τ => (e2_row 5 (by decide) rfl)) rfl (d ((hh x + cta p d (th x 2) (hh x) (dl g th x) p 1 * dl g th x) % p)) (by omega) (by decide) e2_loc dX7_tellHours_160 (fun H locs hP hS => ?_)
                    refine lv_iinc (v := nI (x + 1)) (lv' := [(5, .int (nI (x + 1))), (4, .int (lts (fun x => dwn p d (th x 2) (hh x) (dl g th x)) (x + 1))), (3, .int (sbt (fun x => decide (rt p d g th x (hh x))) (x + 1))), (6, .int (nI (d ((hh x + cta p d (th x 2) (hh x) (dl g th x) p 1 * dl g th x) % p)))), (0, .ref (ad 0)), (1, .int (nI F)), (2, .int (nI 2))]) hx hb dX7_tellHours_161 hl (k := 6) rfl (xn_inc _ 1) (by decide) rfl (fun ls hl => ?_)
                    refine lv_goto (tgt := 74) hx hb dX7_tellHours_164 (by decide) ?_
                    exact ih_74 (x + 1) (up τ95 12 (d ((hh x + cta p d (th x 2) (hh x) (dl g th x) p 1 * dl g th x) % p)) (nI ((cb (fun z => decide (ot p d g th hh z = nI (d ((hh x + cta p d (th x 2) (hh x) (dl g th x) p 1 * dl g th x) % p)))) x) + 1))) (by omega) (hFo.tr FrM_12) (fun k hk => by
            have hdec : decide (ot p d g th hh x = nI k) = decide (d ((hh x + cta p d (th x 2) (hh x) (dl g th x) p 1 * dl g th x) % p) = k) := by show decide (oth p d (th x 2) (hh x) (dl g th x) = nI k) = _; rw [hoN]; exact decide_eq_decide.mpr (nI_eq (by omega) (by omega))
            simp only [cb, hdec]
            by_cases hk2 : d ((hh x + cta p d (th x 2) (hh x) (dl g th x) p 1 * dl g th x) % p) = k
            · rw [if_pos (decide_eq_true hk2), ← hk2, up_s]
            · rw [if_neg (by rw [decide_eq_true_eq]; exact hk2), up_n (by omega)]; exact hcn3 k hk) (by omega) _ _ _ hP hS (lv_sub hl [4, 5, 6, 2, 1, 0] rfl)
              · refine lv_iconst (v := nI 1) hx hb dX7_tellHours_113 (by decide) ?_
                refine lv_iload hx hb dX7_tellHours_114 (lv_at hl 6 rfl) ?_
                refine lv_ishl hx hb dX7_tellHours_116 ?_
                refine lv_goto (tgt := 121) hx hb dX7_tellHours_117 (by decide) ?_
                refine lv_ior hx hb dX7_tellHours_121 ?_
                refine xn_eqi (y := sbt (fun x => decide (rt p d g th x (hh x))) (x + 1)) (by simp only [sbt]; rw [if_pos (by simpa using c_110)]) ?_
                refine lv_istore_n (lv' := [(3, .int (sbt (fun x => decide (rt p d g th x (hh x))) (x + 1))), (6, .int (oth p d (th x 2) (hh x) (dl g th x))), (0, .ref (ad 0)), (1, .int (nI F)), (2, .int (nI 2)), (4, .int (lts (fun x => dwn p d (th x 2) (hh x) (dl g th x)) x)), (5, .int (nI x))]) hx hb dX7_tellHours_122 rfl hl (by decide) rfl (fun ls hl => ?_)
                refine lv_aload_n hx hb dX7_tellHours_123 rfl (lv_at hl 2 rfl) ?_
                refine xk_get hx hb hts (inX7_tellHours_X7) hown hK hP 0 (by omega) (ci := 7) e2_obj rfl 21 (by decide) (flX7_tellHours_141 hts) rfl (.int (τ95 0 21)) rfl dX7_tellHours_124 ?_
                refine xn_eqi (y := dwn p d (th x 2) (hh x) (dl g th x)) hdn ?_
                refine lv_iload hx hb dX7_tellHours_127 (lv_at hl 5 rfl) ?_
                refine lv_icmp_le (tgt := 139) hx hb dX7_tellHours_129 (by decide) (fun c_129 => ?_) (fun c_129 => ?_)
                · refine lv_iload hx hb dX7_tellHours_139 (lv_at hl 5 rfl) ?_
                  refine xn_eqi (y := lts (fun x => dwn p d (th x 2) (hh x) (dl g th x)) (x + 1)) (by simp only [lts]; exact (if_neg (Int32.not_lt.mpr c_129)).symm) ?_
                  refine lv_istore (lv' := [(4, .int (lts (fun x => dwn p d (th x 2) (hh x) (dl g th x)) (x + 1))), (3, .int (sbt (fun x => decide (rt p d g th x (hh x))) (x + 1))), (6, .int (oth p d (th x 2) (hh x) (dl g th x))), (0, .ref (ad 0)), (1, .int (nI F)), (2, .int (nI 2)), (5, .int (nI x))]) hx hb dX7_tellHours_141 hl (by decide) rfl (fun ls hl => ?_)
                  by_cases q_143 : cta p d (th x 2) (hh x) (dl g th x) p 1 = 0
                  · have hoN := oth_none q_143
                    rw [hoN] at hl
                    refine lv_iload hx hb dX7_tellHours_143 (lv_at hl 2 rfl) ?_
                    refine lv_bipush (v := (-9)) hx hb dX7_tellHours_145 (by decide) ?_
                    refine lv_icmp_eq (tgt := 161) hx hb dX7_tellHours_147 (by decide) (fun c_147 => ?_) (fun c_147 => absurd rfl c_147)
                    refine lv_iinc (v := nI (x + 1)) (lv' := [(5, .int (nI (x + 1))), (4, .int (lts (fun x => dwn p d (th x 2) (hh x) (dl g th x)) (x + 1))), (3, .int (sbt (fun x => decide (rt p d g th x (hh x))) (x + 1))), (6, .int (-9)), (0, .ref (ad 0)), (1, .int (nI F)), (2, .int (nI 2))]) hx hb dX7_tellHours_161 hl (k := 6) rfl (xn_inc _ 1) (by decide) rfl (fun ls hl => ?_)
                    refine lv_goto (tgt := 74) hx hb dX7_tellHours_164 (by decide) ?_
                    exact ih_74 (x + 1) τ95 (by omega) hFo (fun k hk => by
            simp only [cb]
            rw [if_neg (by rw [decide_eq_true_eq]; show ¬ oth p d (th x 2) (hh x) (dl g th x) = nI k; rw [hoN]; exact nI_n9 (by omega))]
            exact hcn3 k hk) (by omega) _ _ _ hP hS (lv_sub hl [4, 5, 6, 2, 1, 0] rfl)
                  · have hoN := oth_some q_143
                    rw [hoN] at hl
                    have hd5 := (hR.2.2 _ (Nat.mod_lt (hh x + cta p d (th x 2) (hh x) (dl g th x) p 1 * dl g th x) hp0)).2
                    have hcbl := cb_le (fun z => decide (ot p d g th hh z = nI (d ((hh x + cta p d (th x 2) (hh x) (dl g th x) p 1 * dl g th x) % p)))) x
                    refine lv_iload hx hb dX7_tellHours_143 (lv_at hl 2 rfl) ?_
                    refine lv_bipush (v := (-9)) hx hb dX7_tellHours_145 (by decide) ?_
                    refine lv_icmp_eq (tgt := 161) hx hb dX7_tellHours_147 (by decide) (fun c_147 => absurd c_147 (nI_n9' (by omega))) (fun c_147 => ?_)
                    refine lv_aload_n hx hb dX7_tellHours_150 rfl (lv_at hl 3 rfl) ?_
                    refine xk_get hx hb hts (inX7_tellHours_X7) hown hK hP 0 (by omega) (ci := 7) e2_obj rfl 23 (by decide) (flX7_tellHours_43 hts) rfl (.ref (ad 12)) rfl dX7_tellHours_151 ?_
                    refine lv_iload hx hb dX7_tellHours_154 (lv_at hl 2 rfl) ?_
                    refine lv_dup2_11 hx hb dX7_tellHours_156 rfl rfl ?_
                    refine xk_iald hx hb hK hP 12 (by omega) (n := 5) (e2_row 5 (by decide) rfl) rfl (d ((hh x + cta p d (th x 2) (hh x) (dl g th x) p 1 * dl g th x) % p)) (by omega) (by decide) dX7_tellHours_157 ?_
                    refine xn_eqi (y := nI (cb (fun z => decide (ot p d g th hh z = nI (d ((hh x + cta p d (th x 2) (hh x) (dl g th x) p 1 * dl g th x) % p)))) x)) (hcn3 _ (by omega)) ?_
                    refine lv_iconst (v := nI 1) hx hb dX7_tellHours_158 (by decide) ?_
                    refine xn_iadd hx hb dX7_tellHours_159 ?_
                    refine xk_iast hx hb hK hI hP hS 12 (by omega) (n := 5) (fun τ => (e2_row 5 (by decide) rfl)) rfl (d ((hh x + cta p d (th x 2) (hh x) (dl g th x) p 1 * dl g th x) % p)) (by omega) (by decide) e2_loc dX7_tellHours_160 (fun H locs hP hS => ?_)
                    refine lv_iinc (v := nI (x + 1)) (lv' := [(5, .int (nI (x + 1))), (4, .int (lts (fun x => dwn p d (th x 2) (hh x) (dl g th x)) (x + 1))), (3, .int (sbt (fun x => decide (rt p d g th x (hh x))) (x + 1))), (6, .int (nI (d ((hh x + cta p d (th x 2) (hh x) (dl g th x) p 1 * dl g th x) % p)))), (0, .ref (ad 0)), (1, .int (nI F)), (2, .int (nI 2))]) hx hb dX7_tellHours_161 hl (k := 6) rfl (xn_inc _ 1) (by decide) rfl (fun ls hl => ?_)
                    refine lv_goto (tgt := 74) hx hb dX7_tellHours_164 (by decide) ?_
                    exact ih_74 (x + 1) (up τ95 12 (d ((hh x + cta p d (th x 2) (hh x) (dl g th x) p 1 * dl g th x) % p)) (nI ((cb (fun z => decide (ot p d g th hh z = nI (d ((hh x + cta p d (th x 2) (hh x) (dl g th x) p 1 * dl g th x) % p)))) x) + 1))) (by omega) (hFo.tr FrM_12) (fun k hk => by
            have hdec : decide (ot p d g th hh x = nI k) = decide (d ((hh x + cta p d (th x 2) (hh x) (dl g th x) p 1 * dl g th x) % p) = k) := by show decide (oth p d (th x 2) (hh x) (dl g th x) = nI k) = _; rw [hoN]; exact decide_eq_decide.mpr (nI_eq (by omega) (by omega))
            simp only [cb, hdec]
            by_cases hk2 : d ((hh x + cta p d (th x 2) (hh x) (dl g th x) p 1 * dl g th x) % p) = k
            · rw [if_pos (decide_eq_true hk2), ← hk2, up_s]
            · rw [if_neg (by rw [decide_eq_true_eq]; exact hk2), up_n (by omega)]; exact hcn3 k hk) (by omega) _ _ _ hP hS (lv_sub hl [4, 5, 6, 2, 1, 0] rfl)
                · refine lv_aload_n hx hb dX7_tellHours_132 rfl (lv_at hl 2 rfl) ?_
                  refine xk_get hx hb hts (inX7_tellHours_X7) hown hK hP 0 (by omega) (ci := 7) e2_obj rfl 21 (by decide) (flX7_tellHours_141 hts) rfl (.int (τ95 0 21)) rfl dX7_tellHours_133 ?_
                  refine xn_eqi (y := dwn p d (th x 2) (hh x) (dl g th x)) hdn ?_
                  refine lv_goto (tgt := 141) hx hb dX7_tellHours_136 (by decide) ?_
                  refine xn_eqi (y := lts (fun x => dwn p d (th x 2) (hh x) (dl g th x)) (x + 1)) (by simp only [lts]; exact (if_pos (Int32.not_le.mp c_129)).symm) ?_
                  refine lv_istore (lv' := [(4, .int (lts (fun x => dwn p d (th x 2) (hh x) (dl g th x)) (x + 1))), (3, .int (sbt (fun x => decide (rt p d g th x (hh x))) (x + 1))), (6, .int (oth p d (th x 2) (hh x) (dl g th x))), (0, .ref (ad 0)), (1, .int (nI F)), (2, .int (nI 2)), (5, .int (nI x))]) hx hb dX7_tellHours_141 hl (by decide) rfl (fun ls hl => ?_)
                  by_cases q_143 : cta p d (th x 2) (hh x) (dl g th x) p 1 = 0
                  · have hoN := oth_none q_143
                    rw [hoN] at hl
                    refine lv_iload hx hb dX7_tellHours_143 (lv_at hl 2 rfl) ?_
                    refine lv_bipush (v := (-9)) hx hb dX7_tellHours_145 (by decide) ?_
                    refine lv_icmp_eq (tgt := 161) hx hb dX7_tellHours_147 (by decide) (fun c_147 => ?_) (fun c_147 => absurd rfl c_147)
                    refine lv_iinc (v := nI (x + 1)) (lv' := [(5, .int (nI (x + 1))), (4, .int (lts (fun x => dwn p d (th x 2) (hh x) (dl g th x)) (x + 1))), (3, .int (sbt (fun x => decide (rt p d g th x (hh x))) (x + 1))), (6, .int (-9)), (0, .ref (ad 0)), (1, .int (nI F)), (2, .int (nI 2))]) hx hb dX7_tellHours_161 hl (k := 6) rfl (xn_inc _ 1) (by decide) rfl (fun ls hl => ?_)
                    refine lv_goto (tgt := 74) hx hb dX7_tellHours_164 (by decide) ?_
                    exact ih_74 (x + 1) τ95 (by omega) hFo (fun k hk => by
            simp only [cb]
            rw [if_neg (by rw [decide_eq_true_eq]; show ¬ oth p d (th x 2) (hh x) (dl g th x) = nI k; rw [hoN]; exact nI_n9 (by omega))]
            exact hcn3 k hk) (by omega) _ _ _ hP hS (lv_sub hl [4, 5, 6, 2, 1, 0] rfl)
                  · have hoN := oth_some q_143
                    rw [hoN] at hl
                    have hd5 := (hR.2.2 _ (Nat.mod_lt (hh x + cta p d (th x 2) (hh x) (dl g th x) p 1 * dl g th x) hp0)).2
                    have hcbl := cb_le (fun z => decide (ot p d g th hh z = nI (d ((hh x + cta p d (th x 2) (hh x) (dl g th x) p 1 * dl g th x) % p)))) x
                    refine lv_iload hx hb dX7_tellHours_143 (lv_at hl 2 rfl) ?_
                    refine lv_bipush (v := (-9)) hx hb dX7_tellHours_145 (by decide) ?_
                    refine lv_icmp_eq (tgt := 161) hx hb dX7_tellHours_147 (by decide) (fun c_147 => absurd c_147 (nI_n9' (by omega))) (fun c_147 => ?_)
                    refine lv_aload_n hx hb dX7_tellHours_150 rfl (lv_at hl 3 rfl) ?_
                    refine xk_get hx hb hts (inX7_tellHours_X7) hown hK hP 0 (by omega) (ci := 7) e2_obj rfl 23 (by decide) (flX7_tellHours_43 hts) rfl (.ref (ad 12)) rfl dX7_tellHours_151 ?_
                    refine lv_iload hx hb dX7_tellHours_154 (lv_at hl 2 rfl) ?_
                    refine lv_dup2_11 hx hb dX7_tellHours_156 rfl rfl ?_
                    refine xk_iald hx hb hK hP 12 (by omega) (n := 5) (e2_row 5 (by decide) rfl) rfl (d ((hh x + cta p d (th x 2) (hh x) (dl g th x) p 1 * dl g th x) % p)) (by omega) (by decide) dX7_tellHours_157 ?_
                    refine xn_eqi (y := nI (cb (fun z => decide (ot p d g th hh z = nI (d ((hh x + cta p d (th x 2) (hh x) (dl g th x) p 1 * dl g th x) % p)))) x)) (hcn3 _ (by omega)) ?_
                    refine lv_iconst (v := nI 1) hx hb dX7_tellHours_158 (by decide) ?_
                    refine xn_iadd hx hb dX7_tellHours_159 ?_
                    refine xk_iast hx hb hK hI hP hS 12 (by omega) (n := 5) (fun τ => (e2_row 5 (by decide) rfl)) rfl (d ((hh x + cta p d (th x 2) (hh x) (dl g th x) p 1 * dl g th x) % p)) (by omega) (by decide) e2_loc dX7_tellHours_160 (fun H locs hP hS => ?_)
                    refine lv_iinc (v := nI (x + 1)) (lv' := [(5, .int (nI (x + 1))), (4, .int (lts (fun x => dwn p d (th x 2) (hh x) (dl g th x)) (x + 1))), (3, .int (sbt (fun x => decide (rt p d g th x (hh x))) (x + 1))), (6, .int (nI (d ((hh x + cta p d (th x 2) (hh x) (dl g th x) p 1 * dl g th x) % p)))), (0, .ref (ad 0)), (1, .int (nI F)), (2, .int (nI 2))]) hx hb dX7_tellHours_161 hl (k := 6) rfl (xn_inc _ 1) (by decide) rfl (fun ls hl => ?_)
                    refine lv_goto (tgt := 74) hx hb dX7_tellHours_164 (by decide) ?_
                    exact ih_74 (x + 1) (up τ95 12 (d ((hh x + cta p d (th x 2) (hh x) (dl g th x) p 1 * dl g th x) % p)) (nI ((cb (fun z => decide (ot p d g th hh z = nI (d ((hh x + cta p d (th x 2) (hh x) (dl g th x) p 1 * dl g th x) % p)))) x) + 1))) (by omega) (hFo.tr FrM_12) (fun k hk => by
            have hdec : decide (ot p d g th hh x = nI k) = decide (d ((hh x + cta p d (th x 2) (hh x) (dl g th x) p 1 * dl g th x) % p) = k) := by show decide (oth p d (th x 2) (hh x) (dl g th x) = nI k) = _; rw [hoN]; exact decide_eq_decide.mpr (nI_eq (by omega) (by omega))
            simp only [cb, hdec]
            by_cases hk2 : d ((hh x + cta p d (th x 2) (hh x) (dl g th x) p 1 * dl g th x) % p) = k
            · rw [if_pos (decide_eq_true hk2), ← hk2, up_s]
            · rw [if_neg (by rw [decide_eq_true_eq]; exact hk2), up_n (by omega)]; exact hcn3 k hk) (by omega) _ _ _ hP hS (lv_sub hl [4, 5, 6, 2, 1, 0] rfl)
        exact LP_74 _ 0 τ (by omega) hFm (fun k hk => hz5 k hk) (Nat.lt_succ_self _) _ _ _ hP hS (lv_sub hl [1, 2, 3, 4, 5, 0] rfl)
      · refine lv_aload_n hx hb dX7_tellHours_57 rfl (lv_at hl 0 rfl) ?_
        refine xk_get hx hb hts (inX7_tellHours_X7) hown hK hP 0 (by omega) (ci := 7) e2_obj rfl 23 (by decide) (flX7_tellHours_43 hts) rfl (.ref (ad 12)) rfl dX7_tellHours_58 ?_
        refine lv_iload hx hb dX7_tellHours_61 (lv_at hl 5 rfl) ?_
        refine lv_iconst (v := nI 0) hx hb dX7_tellHours_63 (by decide) ?_
        refine xk_iast hx hb hK hI hP hS 12 (by omega) (n := 5) (fun τ => (e2_row 5 (by decide) rfl)) rfl k (by omega) (by decide) e2_loc dX7_tellHours_64 (fun H locs hP hS => ?_)
        refine lv_iinc (v := nI (k + 1)) (lv' := [(5, .int (nI (k + 1))), (0, .ref (ad 0)), (1, .int (nI F)), (2, .int (nI 2)), (3, .int (nI 0)), (4, .int (-9))]) hx hb dX7_tellHours_65 hl (k := 5) rfl (xn_inc _ 1) (by decide) rfl (fun ls hl => ?_)
        refine lv_goto (tgt := 51) hx hb dX7_tellHours_68 (by decide) ?_
        exact ih_51 (k + 1) (up τ 12 k (nI 0)) (by omega) (hFm.tr FrM_12) (fun j hj => by
          by_cases hjk : j = k
          · rw [hjk, up_s]
          · rw [up_n (by omega)]; exact hz j (by omega)) (by omega) _ _ _ hP hS (lv_sub hl [1, 2, 3, 4, 5, 0] rfl)
  exact LP_51 _ 0 σ (by omega) FrM.rf (fun j hj => absurd hj (Nat.not_lt_zero _)) (Nat.lt_succ_self _) _ _ _ hP hS (lv_sub hl [3, 4, 5, 2, 1, 0] rfl)
