/-! hours that are told -/
abbrev ot (p : Nat) (d : Nat → Nat) (g : Nat) (th : Nat → Nat → Nat) (hh : Nat → Nat) (x : Nat) : Int32 := oth p d (th x 2) (hh x) (dl g th x)
/-- in which hour it is drawn -/
def dwn (p : Nat) (d : Nat → Nat) (e h y : Nat) : Int32 := if cta p d e h y p 1 = 0 then -9 else nI (h + cta p d e h y p 1 * y)
def lts (f : Nat → Int32) : Nat → Int32
  | 0 => -9
  | x + 1 => if lts f x < f x then f x else lts f x
theorem lts_ge {f : Nat → Int32} : ∀ n, (∀ x, x < n → ¬ f x < -9) → ¬ lts f n < -9 := by
  intro n
  induction n with
  | zero => intro _; show ¬ (-9 : Int32) < -9; decide
  | succ n ih =>
    intro h
    simp only [lts]
    split
    · exact h n (by omega)
    · exact ih (fun x hx => h x (by omega))
theorem nI_m9 {a : Nat} (ha : a < 2 ^ 31) : ¬ nI a < -9 := by
  intro h
  rw [Int32.lt_iff_toInt_lt, nI_toInt ha] at h
  have : (-9 : Int32).toInt = -9 := by decide
  omega
def bsy (f : Nat → Nat) : Nat → Int32 × Nat
  | 0 => (-9, 0)
  | k + 1 => if (bsy f k).2 < f k then (nI k, f k) else bsy f k
theorem bsy_le {f : Nat → Nat} {N : Nat} (h : ∀ k, f k ≤ N) : ∀ k, (bsy f k).2 ≤ N := by
  intro k
  induction k with
  | zero => exact Nat.zero_le _
  | succ k ih =>
    simp only [bsy]
    split
    · exact h k
    · exact ih
theorem sbt_congr {f g : Nat → Bool} : ∀ n, (∀ x, x < n → f x = g x) → sbt f n = sbt g n := by
  intro n
  induction n with
  | zero => intro _; rfl
  | succ n ih => intro h; simp only [sbt, ih (fun x hx => h x (by omega)), h n (by omega)]

set_option maxRecDepth 20000 in
theorem flX6_drawerTold_32 {s : State} {av : Array Value} (hts : ∀ w ∈ wsX6_drawerTold, w.before av s = true) : (Cond.fieldLink RX6 32 "WellBack" "rota" "LWellBack$Rota;").before av s = true := hts _ (by decide +kernel)
set_option maxRecDepth 20000 in
theorem flX6_drawerTold_103 {s : State} {av : Array Value} (hts : ∀ w ∈ wsX6_drawerTold, w.before av s = true) : (Cond.fieldLink RX6 103 "WellBack$Thing" "owner" "I").before av s = true := hts _ (by decide +kernel)
set_option maxRecDepth 20000 in
theorem inX6_drawerTold_X4 : ∀ w ∈ u_ws RX4 TX4 5, w ∈ wsX6_drawerTold := by decide +kernel
set_option maxRecDepth 20000 in
theorem inX6_drawerTold_X6 : ∀ w ∈ u_ws RX6 TX6 13, w ∈ wsX6_drawerTold := by decide +kernel
set_option maxHeartbeats 4000000 in
set_option maxRecDepth 100000 in
theorem k1_drawerTold (l : Launch) {D : va_G} {ca : Nat → ClassId} {ad : Nat → Nat} (hI : Ij ad 34) {σ : Sg} {n g : Nat} {th : Nat → Nat → Nat} {z L m a : Nat} {cc : Nat → Int32} {hh : Nat → Nat} {p : Nat} {d : Nat → Nat} {x : Nat} (hT : ThingsAt σ n g th) (hz1 : 1 ≤ z) (hz2 : z < 5) (hZ : SheetAt σ z L m cc) (hL : L < 3) (ham : a + n ≤ m) (hhh : ∀ x, x < n → cc (a + x) = nI (hh x) ∧ hh x ≤ 23) (hR : RotaAt σ 22 p d) (hp0 : 0 < p) (hxn : x < n) : C1i l D ca ad yX6_drawerTold wsX6_drawerTold { frames := 3, cells := 0, slots := 0, locals := 84 } [.ref (ad 0), .ref (ad z), .int (nI a), .int (nI x)] σ (xFn (ot p d g th hh x) σ) := by
  refine xk_entry cX6_drawerTold 5 (some .int) (by decide) rfl (Nat.le_of_ble_eq_true rfl) ?_
  intro pP eE sS mM below meth cC hx hb hml hr hts hown hlk hP hK hX hS ls hl
  have hl : lv_has ls 5 [(0, .ref (ad 0)), (1, .ref (ad z)), (2, .int (nI a)), (3, .int (nI x))] := hl
  have hn5 := hT.2.2.1
  have hg9 := hT.2.2.2.1
  have hXx := hT.2.2.2.2 x hxn
  obtain ⟨ho0, ho1, ho2, ho3, ho4⟩ := hXx.2
  have hp6 := hR.2.1
  have hm60 := (hZ.2.2 hL).2.1
  refine lv_aload_n hx hb dX6_drawerTold_0 rfl (lv_at hl 0 rfl) ?_
  refine lv_iload_n hx hb dX6_drawerTold_1 rfl (lv_at hl 3 rfl) ?_
  refine xk_fa (va_runV (As := [.int (nI x)]) (rest := []) ⟨hx, hb, hml, hown, hts⟩ (k1_thingAt_in l hI (x := x) hT.2.1 hn5 (by omega)) (cwV 1 hts gX6_drawerTold_X6_thingAt rfl rfl rfl (by decide +kernel) ⟨Nat.le_of_ble_eq_true rfl, Nat.le_of_ble_eq_true rfl⟩) (xk_preV X1_ok hK hX hP (xk_recv hK hP 0 (by omega) (ci := 6) e1_well rfl)) rfl rfl hl.1 rfl (lv_room (Nat.le_of_ble_eq_true rfl)) dX6_drawerTold_2 ⟨Nat.le_of_ble_eq_true rfl, Nat.le_of_ble_eq_true rfl⟩) hS (fun H locs hP hS => ?_)
  refine lv_astore (lv' := [(4, .ref (ad (9 + x))), (0, .ref (ad 0)), (1, .ref (ad z)), (2, .int (nI a)), (3, .int (nI x))]) hx hb dX6_drawerTold_5 hl (by decide) rfl (fun ls hl => ?_)
  refine lv_aload hx hb dX6_drawerTold_7 (lv_at hl 0 rfl) ?_
  refine lv_ifnonnull (tgt := 17) hx hb dX6_drawerTold_9 (by decide) ?_
  refine lv_aload_n hx hb dX6_drawerTold_17 rfl (lv_at hl 1 rfl) ?_
  refine xk_get hx hb hts (inX6_drawerTold_X6) hown hK hP 0 (by omega) (ci := 6) e1_well rfl 3 (by decide) (flX6_drawerTold_32 hts) rfl (.ref (ad 22)) rfl dX6_drawerTold_18 ?_
  refine lv_aload hx hb dX6_drawerTold_21 (lv_at hl 0 rfl) ?_
  refine xk_get hx hb hts (inX6_drawerTold_X4) hown hK hP (9 + x) (by omega) (ci := 4) (e1_thing (by omega) (by omega)) rfl 2 (by decide) (flX6_drawerTold_103 hts) rfl (.int (σ (9 + x) 2)) rfl dX6_drawerTold_23 ?_
  refine xn_eqi (y := nI (th x 2)) (hXx.1 2 (by omega)) ?_
  refine lv_aload_n hx hb dX6_drawerTold_26 rfl (lv_at hl 2 rfl) ?_
  refine lv_iload_n hx hb dX6_drawerTold_27 rfl (lv_at hl 3 rfl) ?_
  refine lv_iload_n hx hb dX6_drawerTold_28 rfl (lv_at hl 4 rfl) ?_
  refine xn_iadd hx hb dX6_drawerTold_29 ?_
  refine xk_fi (va_runV (As := [.int (nI (a + x))]) (rest := [.int (nI (th x 2)), .ref (ad 22)]) ⟨hx, hb, hml, hown, hts⟩ (k1_numberAt l hI (j := a + x) (by omega) (by omega) hZ hL (by omega)) (cwV 1 hts gX6_drawerTold_X2_numberAt rfl rfl rfl (by decide +kernel) ⟨Nat.le_of_ble_eq_true rfl, Nat.le_of_ble_eq_true rfl⟩) (xk_preV X1_ok hK hX hP (xk_recv hK hP z (by omega) (ci := 2) (e1_sheet (by omega) (by omega)) rfl)) rfl rfl hl.1 rfl (lv_room (Nat.le_of_ble_eq_true rfl)) dX6_drawerTold_30 ⟨Nat.le_of_ble_eq_true rfl, Nat.le_of_ble_eq_true rfl⟩) hS (fun H locs hP hS => ?_)
  refine xn_eqi (y := nI (hh x)) ((hhh x (by omega)).1) ?_
  have hhx_33 := (hhh x (by omega)).2
  refine lv_aload_n hx hb dX6_drawerTold_33 rfl (lv_at hl 1 rfl) ?_
  refine lv_aload hx hb dX6_drawerTold_34 (lv_at hl 0 rfl) ?_
  refine xk_fi (va_runV (As := [.ref (ad (9 + x))]) (rest := [.int (nI (hh x)), .int (nI (th x 2)), .ref (ad 22)]) ⟨hx, hb, hml, hown, hts⟩ (k1_delayOf l hI (x := x) hT (by omega)) (cwV 1 hts gX6_drawerTold_X6_delayOf rfl rfl rfl (by decide +kernel) ⟨Nat.le_of_ble_eq_true rfl, Nat.le_of_ble_eq_true rfl⟩) (xk_preV X1_ok hK hX hP (xk_recv hK hP 0 (by omega) (ci := 6) e1_well rfl)) rfl rfl hl.1 rfl (lv_room (Nat.le_of_ble_eq_true rfl)) dX6_drawerTold_36 ⟨Nat.le_of_ble_eq_true rfl, Nat.le_of_ble_eq_true rfl⟩) hS (fun H locs hP hS => ?_)
  have hdl_36 : dl g th x ≤ 36 := dly_le hg9 ho1
  refine xk_fi (va_runV (As := [.int (nI (th x 2)), .int (nI (hh x)), .int (nI (dl g th x))]) (rest := []) ⟨hx, hb, hml, hown, hts⟩ (k1_other l hI (q := 22) (d := d) (e := th x 2) (h := hh x) (y := dl g th x) (by omega) (by omega) hR (by omega) (by omega) (by omega)) (cwV 3 hts gX6_drawerTold_X1_otherDrawer rfl rfl rfl (by decide +kernel) ⟨Nat.le_of_ble_eq_true rfl, Nat.le_of_ble_eq_true rfl⟩) (xk_preV X1_ok hK hX hP (xk_recv hK hP 22 (by omega) (ci := 1) (e1_rota (by omega) (by omega)) rfl)) rfl rfl hl.1 rfl (lv_room (Nat.le_of_ble_eq_true rfl)) dX6_drawerTold_39 ⟨Nat.le_of_ble_eq_true rfl, Nat.le_of_ble_eq_true rfl⟩) hS (fun H locs hP hS => ?_)
  exact xk_iret hx hb hr (vp_nar_int _) X1_ok hK hX hP hS hlk dX6_drawerTold_42 (⟨rfl, rfl⟩)

set_option maxHeartbeats 4000000 in
set_option maxRecDepth 100000 in
theorem k1_drawerTold_no (l : Launch) {D : va_G} {ca : Nat → ClassId} {ad : Nat → Nat} (hI : Ij ad 34) {σ : Sg} {n g : Nat} {th : Nat → Nat → Nat} {z a x : Nat} (hT : ThingsAt σ n g th) (hz1 : 1 ≤ z) (hz2 : z < 5) (hxn : n ≤ x) (hx5 : x < 2 ^ 31) : C1i l D ca ad yX6_drawerTold wsX6_drawerTold { frames := 3, cells := 0, slots := 0, locals := 84 } [.ref (ad 0), .ref (ad z), .int (nI a), .int (nI x)] σ (xFn (-9) σ) := by
  refine xk_entry cX6_drawerTold 5 (some .int) (by decide) rfl (Nat.le_of_ble_eq_true rfl) ?_
  intro pP eE sS mM below meth cC hx hb hml hr hts hown hlk hP hK hX hS ls hl
  have hl : lv_has ls 5 [(0, .ref (ad 0)), (1, .ref (ad z)), (2, .int (nI a)), (3, .int (nI x))] := hl
  have hn5 := hT.2.2.1
  have hg9 := hT.2.2.2.1
  refine lv_aload_n hx hb dX6_drawerTold_0 rfl (lv_at hl 0 rfl) ?_
  refine lv_iload_n hx hb dX6_drawerTold_1 rfl (lv_at hl 3 rfl) ?_
  refine xk_fz (va_runV (As := [.int (nI x)]) (rest := []) ⟨hx, hb, hml, hown, hts⟩ (k1_thingAt_out l hI (x := nI x) hT.2.1 hn5 (fun j hj e => by have := (nI_eq (by omega) (by omega)).mp e; omega)) (cwV 1 hts gX6_drawerTold_X6_thingAt rfl rfl rfl (by decide +kernel) ⟨Nat.le_of_ble_eq_true rfl, Nat.le_of_ble_eq_true rfl⟩) (xk_preV X1_ok hK hX hP (xk_recv hK hP 0 (by omega) (ci := 6) e1_well rfl)) rfl rfl hl.1 rfl (lv_room (Nat.le_of_ble_eq_true rfl)) dX6_drawerTold_2 ⟨Nat.le_of_ble_eq_true rfl, Nat.le_of_ble_eq_true rfl⟩) hS (fun H locs hP hS => ?_)
  refine lv_astoreN (lv' := [(4, .null), (0, .ref (ad 0)), (1, .ref (ad z)), (2, .int (nI a)), (3, .int (nI x))]) hx hb dX6_drawerTold_5 hl (by decide) rfl (fun ls hl => ?_)
  refine lv_aloadN hx hb dX6_drawerTold_7 (lv_at hl 0 rfl) ?_
  refine lv_ifnonnullN hx hb dX6_drawerTold_9 ?_
  refine lv_bipush (v := (-9)) hx hb dX6_drawerTold_12 (by decide) ?_
  refine lv_goto (tgt := 42) hx hb dX6_drawerTold_14 (by decide) ?_
  exact xk_iret hx hb hr (vp_nar_int _) X1_ok hK hX hP hS hlk dX6_drawerTold_42 (⟨rfl, rfl⟩)

set_option maxRecDepth 20000 in
theorem flX6_rightOnesTold_32 {s : State} {av : Array Value} (hts : ∀ w ∈ wsX6_rightOnesTold, w.before av s = true) : (Cond.fieldLink RX6 32 "WellBack" "rota" "LWellBack$Rota;").before av s = true := hts _ (by decide +kernel)
set_option maxRecDepth 20000 in
theorem flX6_rightOnesTold_90 {s : State} {av : Array Value} (hts : ∀ w ∈ wsX6_rightOnesTold, w.before av s = true) : (Cond.fieldLink RX6 90 "WellBack" "thingCount" "I").before av s = true := hts _ (by decide +kernel)
set_option maxRecDepth 20000 in
theorem inX6_rightOnesTold_X6 : ∀ w ∈ u_ws RX6 TX6 13, w ∈ wsX6_rightOnesTold := by decide +kernel
set_option maxHeartbeats 4000000 in
set_option maxRecDepth 100000 in
theorem k1_rightTold (l : Launch) {D : va_G} {ca : Nat → ClassId} {ad : Nat → Nat} (hI : Ij ad 34) {σ : Sg} {n g : Nat} {th : Nat → Nat → Nat} {z L m a : Nat} {cc : Nat → Int32} {hh : Nat → Nat} {p : Nat} {d : Nat → Nat} (hT : ThingsAt σ n g th) (hz1 : 1 ≤ z) (hz2 : z < 5) (hZ : SheetAt σ z L m cc) (hL : L < 3) (ham : a + n ≤ m) (hhh : ∀ x, x < n → cc (a + x) = nI (hh x) ∧ hh x ≤ 23) (hR : RotaAt σ 22 p d) (hp0 : 0 < p) : C1i l D ca ad yX6_rightOnesTold wsX6_rightOnesTold { frames := 4, cells := 0, slots := 0, locals := 107 } [.ref (ad 0), .ref (ad z), .int (nI a)] σ (xFn (sbt (fun x => decide (rt p d g th x (hh x))) n) σ) := by
  refine xk_entry cX6_rightOnesTold 6 (some .int) (by decide) rfl (Nat.le_of_ble_eq_true rfl) ?_
  intro pP eE sS mM below meth cC hx hb hml hr hts hown hlk hP hK hX hS ls hl
  have hl : lv_has ls 6 [(0, .ref (ad 0)), (1, .ref (ad z)), (2, .int (nI a))] := hl
  have hn5 := hT.2.2.1
  have hg9 := hT.2.2.2.1
  have hp6 := hR.2.1
  have hm60 := (hZ.2.2 hL).2.1
  refine lv_iconst (v := nI 0) hx hb dX6_rightOnesTold_0 (by decide) ?_
  refine lv_istore_n (lv' := [(3, .int (nI 0)), (0, .ref (ad 0)), (1, .ref (ad z)), (2, .int (nI a))]) hx hb dX6_rightOnesTold_1 rfl hl (by decide) rfl (fun ls hl => ?_)
  refine lv_iconst (v := nI 0) hx hb dX6_rightOnesTold_2 (by decide) ?_
  refine lv_istore (lv' := [(4, .int (nI 0)), (3, .int (nI 0)), (0, .ref (ad 0)), (1, .ref (ad z)), (2, .int (nI a))]) hx hb dX6_rightOnesTold_3 hl (by decide) rfl (fun ls hl => ?_)
  have LP_5 : ∀ (n_5 : Nat) (x : Nat), (x ≤ n) → (n - x) < n_5 → ∀ (H : Heap) (locs : List Loc) (ls : Array Slot), va_P D vwCl (wl ad 34 (en1 ad ca σ)) H → va_S (AA ad 34) sS.heap H locs → lv_has ls 6 [(0, .ref (ad 0)), (1, .ref (ad z)), (2, .int (nI a)), (3, .int (sbt (fun x => decide (rt p d g th x (hh x))) x)), (4, .int (nI x))] → Wwi1 pP l eE { frames := 4, cells := 0, slots := 0, locals := 107 } sS mM [.ref (ad 0), .ref (ad z), .int (nI a)] below meth cC D ca ad (xFn (sbt (fun x => decide (rt p d g th x (hh x))) n) σ) H locs (F0 mM 5 ls []) := by
    intro n_5
    induction n_5 with
    | zero =>
      intro x hx0 hn_5
      exact absurd hn_5 (Nat.not_lt_zero _)
    | succ n_5 ih_5 =>
      intro x hx0 hn_5 H locs ls hP hS hl
      refine lv_iload hx hb dX6_rightOnesTold_5 (lv_at hl 4 rfl) ?_
      refine lv_aload_n hx hb dX6_rightOnesTold_7 rfl (lv_at hl 0 rfl) ?_
      refine xk_get hx hb hts (inX6_rightOnesTold_X6) hown hK hP 0 (by omega) (ci := 6) e1_well rfl 9 (by decide) (flX6_rightOnesTold_90 hts) rfl (.int (σ 0 9)) rfl dX6_rightOnesTold_8 ?_
      refine xn_eqi (y := nI n) hT.2.1 ?_
      refine xn_ige (tgt := 61) hx hb dX6_rightOnesTold_11 (by decide) (by omega) (by omega) (fun c_11 => ?_) (fun c_11 => ?_)
      · refine lv_iload_n hx hb dX6_rightOnesTold_61 rfl (lv_at hl 3 rfl) ?_
        exact xk_iret hx hb hr (vp_nar_int _) X1_ok hK hX hP hS hlk dX6_rightOnesTold_62 (⟨by rw [show x = n by omega], rfl⟩)
      · have hXx := hT.2.2.2.2 x c_11
        obtain ⟨ho0, ho1, ho2, ho3, ho4⟩ := hXx.2
        refine lv_aload_n hx hb dX6_rightOnesTold_14 rfl (lv_at hl 0 rfl) ?_
        refine lv_iload hx hb dX6_rightOnesTold_15 (lv_at hl 4 rfl) ?_
        refine xk_fa (va_runV (As := [.int (nI x)]) (rest := []) ⟨hx, hb, hml, hown, hts⟩ (k1_thingAt_in l hI (x := x) hT.2.1 hn5 (by omega)) (cwV 1 hts gX6_rightOnesTold_X6_thingAt rfl rfl rfl (by decide +kernel) ⟨Nat.le_of_ble_eq_true rfl, Nat.le_of_ble_eq_true rfl⟩) (xk_preV X1_ok hK hX hP (xk_recv hK hP 0 (by omega) (ci := 6) e1_well rfl)) rfl rfl hl.1 rfl (lv_room (Nat.le_of_ble_eq_true rfl)) dX6_rightOnesTold_17 ⟨Nat.le_of_ble_eq_true rfl, Nat.le_of_ble_eq_true rfl⟩) hS (fun H locs hP hS => ?_)
        refine lv_astore (lv' := [(5, .ref (ad (9 + x))), (0, .ref (ad 0)), (1, .ref (ad z)), (2, .int (nI a)), (3, .int (sbt (fun x => decide (rt p d g th x (hh x))) x)), (4, .int (nI x))]) hx hb dX6_rightOnesTold_20 hl (by decide) rfl (fun ls hl => ?_)
        refine lv_aload hx hb dX6_rightOnesTold_22 (lv_at hl 0 rfl) ?_
        refine lv_ifnull hx hb dX6_rightOnesTold_24 ?_
        refine lv_aload_n hx hb dX6_rightOnesTold_27 rfl (lv_at hl 1 rfl) ?_
        refine lv_aload hx hb dX6_rightOnesTold_28 (lv_at hl 0 rfl) ?_
        refine lv_aload_n hx hb dX6_rightOnesTold_30 rfl (lv_at hl 1 rfl) ?_
        refine xk_get hx hb hts (inX6_rightOnesTold_X6) hown hK hP 0 (by omega) (ci := 6) e1_well rfl 3 (by decide) (flX6_rightOnesTold_32 hts) rfl (.ref (ad 22)) rfl dX6_rightOnesTold_31 ?_
        refine lv_aload_n hx hb dX6_rightOnesTold_34 rfl (lv_at hl 2 rfl) ?_
        refine lv_iload_n hx hb dX6_rightOnesTold_35 rfl (lv_at hl 3 rfl) ?_
        refine lv_iload hx hb dX6_rightOnesTold_36 (lv_at hl 5 rfl) ?_
        refine xn_iadd hx hb dX6_rightOnesTold_38 ?_
        refine xk_fi (va_runV (As := [.int (nI (a + x))]) (rest := [.ref (ad 22), .ref (ad (9 + x)), .ref (ad 0)]) ⟨hx, hb, hml, hown, hts⟩ (k1_numberAt l hI (j := a + x) (by omega) (by omega) hZ hL (by omega)) (cwV 1 hts gX6_rightOnesTold_X2_numberAt rfl rfl rfl (by decide +kernel) ⟨Nat.le_of_ble_eq_true rfl, Nat.le_of_ble_eq_true rfl⟩) (xk_preV X1_ok hK hX hP (xk_recv hK hP z (by omega) (ci := 2) (e1_sheet (by omega) (by omega)) rfl)) rfl rfl hl.1 rfl (lv_room (Nat.le_of_ble_eq_true rfl)) dX6_rightOnesTold_39 ⟨Nat.le_of_ble_eq_true rfl, Nat.le_of_ble_eq_true rfl⟩) hS (fun H locs hP hS => ?_)
        refine xn_eqi (y := nI (hh x)) ((hhh x (by omega)).1) ?_
        have hhx_42 := (hhh x (by omega)).2
        by_cases q_42 : rt p d g th x (hh x)
        · refine xk_fi (va_runV (As := [.ref (ad (9 + x)), .ref (ad 22), .int (nI (hh x))]) (rest := []) ⟨hx, hb, hml, hown, hts⟩ (k1_isRight_t l hI (x := x) (h := hh x) (q := 22) hT (by omega) (by omega) (by omega) hR hp0 (by omega) q_42) (cwV 3 hts gX6_rightOnesTold_X6_isRight rfl rfl rfl (by decide +kernel) ⟨Nat.le_of_ble_eq_true rfl, Nat.le_of_ble_eq_true rfl⟩) (xk_preV X1_ok hK hX hP (xk_recv hK hP 0 (by omega) (ci := 6) e1_well rfl)) rfl rfl hl.1 rfl (lv_room (Nat.le_of_ble_eq_true rfl)) dX6_rightOnesTold_42 ⟨Nat.le_of_ble_eq_true rfl, Nat.le_of_ble_eq_true rfl⟩) hS (fun H locs hP hS => ?_)
          refine xn_zeq (tgt := 55) hx hb dX6_rightOnesTold_45 (by decide) (by omega) (fun c_45 => absurd c_45 (by omega)) (fun c_45 => ?_)
          refine lv_iload_n hx hb dX6_rightOnesTold_48 rfl (lv_at hl 4 rfl) ?_
          refine lv_iconst (v := nI 1) hx hb dX6_rightOnesTold_49 (by decide) ?_
          refine lv_iload hx hb dX6_rightOnesTold_50 (lv_at hl 5 rfl) ?_
          refine lv_ishl hx hb dX6_rightOnesTold_52 ?_
          refine lv_ior hx hb dX6_rightOnesTold_53 ?_
          refine lv_istore_n (lv' := [(3, .int ((sbt (fun x => decide (rt p d g th x (hh x))) x) ||| ((nI 1) <<< ((nI x) &&& 31)))), (5, .ref (ad (9 + x))), (0, .ref (ad 0)), (1, .ref (ad z)), (2, .int (nI a)), (4, .int (nI x))]) hx hb dX6_rightOnesTold_54 rfl hl (by decide) rfl (fun ls hl => ?_)
          refine lv_iinc (v := nI (x + 1)) (lv' := [(4, .int (nI (x + 1))), (3, .int ((sbt (fun x => decide (rt p d g th x (hh x))) x) ||| ((nI 1) <<< ((nI x) &&& 31)))), (5, .ref (ad (9 + x))), (0, .ref (ad 0)), (1, .ref (ad z)), (2, .int (nI a))]) hx hb dX6_rightOnesTold_55 hl (k := 5) rfl (xn_inc _ 1) (by decide) rfl (fun ls hl => ?_)
          refine lv_goto (tgt := 5) hx hb dX6_rightOnesTold_58 (by decide) ?_
          have hcb : sbt (fun x => decide (rt p d g th x (hh x))) (x + 1) = sbt (fun x => decide (rt p d g th x (hh x))) x ||| (nI 1 <<< (nI x &&& 31)) := by simp only [sbt]; rw [if_pos (by simpa using q_42)]
          rw [← hcb] at hl
          exact ih_5 (x + 1) (by omega) (by omega) _ _ _ hP hS (lv_sub hl [3, 4, 5, 1, 0] rfl)
        · refine xk_fi (va_runV (As := [.ref (ad (9 + x)), .ref (ad 22), .int (nI (hh x))]) (rest := []) ⟨hx, hb, hml, hown, hts⟩ (k1_isRight_f l hI (x := x) (h := hh x) (q := 22) hT (by omega) (by omega) (by omega) hR hp0 (by omega) q_42) (cwV 3 hts gX6_rightOnesTold_X6_isRight rfl rfl rfl (by decide +kernel) ⟨Nat.le_of_ble_eq_true rfl, Nat.le_of_ble_eq_true rfl⟩) (xk_preV X1_ok hK hX hP (xk_recv hK hP 0 (by omega) (ci := 6) e1_well rfl)) rfl rfl hl.1 rfl (lv_room (Nat.le_of_ble_eq_true rfl)) dX6_rightOnesTold_42 ⟨Nat.le_of_ble_eq_true rfl, Nat.le_of_ble_eq_true rfl⟩) hS (fun H locs hP hS => ?_)
          refine xn_zeq (tgt := 55) hx hb dX6_rightOnesTold_45 (by decide) (by omega) (fun c_45 => ?_) (fun c_45 => absurd c_45 (by omega))
          refine lv_iinc (v := nI (x + 1)) (lv' := [(4, .int (nI (x + 1))), (5, .ref (ad (9 + x))), (0, .ref (ad 0)), (1, .ref (ad z)), (2, .int (nI a)), (3, .int (sbt (fun x => decide (rt p d g th x (hh x))) x))]) hx hb dX6_rightOnesTold_55 hl (k := 5) rfl (xn_inc _ 1) (by decide) rfl (fun ls hl => ?_)
          refine lv_goto (tgt := 5) hx hb dX6_rightOnesTold_58 (by decide) ?_
          have hcb : sbt (fun x => decide (rt p d g th x (hh x))) (x + 1) = sbt (fun x => decide (rt p d g th x (hh x))) x := by simp only [sbt]; rw [if_neg (by simpa using q_42)]
          rw [← hcb] at hl
          exact ih_5 (x + 1) (by omega) (by omega) _ _ _ hP hS (lv_sub hl [2, 3, 4, 5, 0] rfl)
  exact LP_5 _ 0 (by omega) (Nat.lt_succ_self _) _ _ _ hP hS (lv_sub hl [2, 3, 4, 1, 0] rfl)

set_option maxRecDepth 20000 in
theorem flX6_latestDrawTold_32 {s : State} {av : Array Value} (hts : ∀ w ∈ wsX6_latestDrawTold, w.before av s = true) : (Cond.fieldLink RX6 32 "WellBack" "rota" "LWellBack$Rota;").before av s = true := hts _ (by decide +kernel)
set_option maxRecDepth 20000 in
theorem flX6_latestDrawTold_90 {s : State} {av : Array Value} (hts : ∀ w ∈ wsX6_latestDrawTold, w.before av s = true) : (Cond.fieldLink RX6 90 "WellBack" "thingCount" "I").before av s = true := hts _ (by decide +kernel)
set_option maxRecDepth 20000 in
theorem flX6_latestDrawTold_103 {s : State} {av : Array Value} (hts : ∀ w ∈ wsX6_latestDrawTold, w.before av s = true) : (Cond.fieldLink RX6 103 "WellBack$Thing" "owner" "I").before av s = true := hts _ (by decide +kernel)
set_option maxRecDepth 20000 in
theorem inX6_latestDrawTold_X4 : ∀ w ∈ u_ws RX4 TX4 5, w ∈ wsX6_latestDrawTold := by decide +kernel
set_option maxRecDepth 20000 in
theorem inX6_latestDrawTold_X6 : ∀ w ∈ u_ws RX6 TX6 13, w ∈ wsX6_latestDrawTold := by decide +kernel
set_option maxHeartbeats 4000000 in
set_option maxRecDepth 100000 in
theorem k1_latestTold (l : Launch) {D : va_G} {ca : Nat → ClassId} {ad : Nat → Nat} (hI : Ij ad 34) {σ : Sg} {n g : Nat} {th : Nat → Nat → Nat} {z L m a : Nat} {cc : Nat → Int32} {hh : Nat → Nat} {p : Nat} {d : Nat → Nat} (hT : ThingsAt σ n g th) (hz1 : 1 ≤ z) (hz2 : z < 5) (hZ : SheetAt σ z L m cc) (hL : L < 3) (ham : a + n ≤ m) (hhh : ∀ x, x < n → cc (a + x) = nI (hh x) ∧ hh x ≤ 23) (hR : RotaAt σ 22 p d) (hp0 : 0 < p) : C1i l D ca ad yX6_latestDrawTold wsX6_latestDrawTold { frames := 3, cells := 0, slots := 0, locals := 84 } [.ref (ad 0), .ref (ad z), .int (nI a)] σ (xFn (lts (fun x => dwn p d (th x 2) (hh x) (dl g th x)) n) σ) := by
  refine xk_entry cX6_latestDrawTold 9 (some .int) (by decide) rfl (Nat.le_of_ble_eq_true rfl) ?_
  intro pP eE sS mM below meth cC hx hb hml hr hts hown hlk hP hK hX hS ls hl
  have hl : lv_has ls 9 [(0, .ref (ad 0)), (1, .ref (ad z)), (2, .int (nI a))] := hl
  have hn5 := hT.2.2.1
  have hg9 := hT.2.2.2.1
  have hp6 := hR.2.1
  have hm60 := (hZ.2.2 hL).2.1
  refine lv_bipush (v := (-9)) hx hb dX6_latestDrawTold_0 (by decide) ?_
  refine lv_istore_n (lv' := [(3, .int (-9)), (0, .ref (ad 0)), (1, .ref (ad z)), (2, .int (nI a))]) hx hb dX6_latestDrawTold_2 rfl hl (by decide) rfl (fun ls hl => ?_)
  refine lv_iconst (v := nI 0) hx hb dX6_latestDrawTold_3 (by decide) ?_
  refine lv_istore (lv' := [(4, .int (nI 0)), (3, .int (-9)), (0, .ref (ad 0)), (1, .ref (ad z)), (2, .int (nI a))]) hx hb dX6_latestDrawTold_4 hl (by decide) rfl (fun ls hl => ?_)
  have LP_6 : ∀ (n_6 : Nat) (x : Nat), (x ≤ n) → (n - x) < n_6 → ∀ (H : Heap) (locs : List Loc) (ls : Array Slot), va_P D vwCl (wl ad 34 (en1 ad ca σ)) H → va_S (AA ad 34) sS.heap H locs → lv_has ls 9 [(0, .ref (ad 0)), (1, .ref (ad z)), (2, .int (nI a)), (3, .int (lts (fun x => dwn p d (th x 2) (hh x) (dl g th x)) x)), (4, .int (nI x))] → Wwi1 pP l eE { frames := 3, cells := 0, slots := 0, locals := 84 } sS mM [.ref (ad 0), .ref (ad z), .int (nI a)] below meth cC D ca ad (xFn (lts (fun x => dwn p d (th x 2) (hh x) (dl g th x)) n) σ) H locs (F0 mM 6 ls []) := by
    intro n_6
    induction n_6 with
    | zero =>
      intro x hx0 hn_6
      exact absurd hn_6 (Nat.not_lt_zero _)
    | succ n_6 ih_6 =>
      intro x hx0 hn_6 H locs ls hP hS hl
      refine lv_iload hx hb dX6_latestDrawTold_6 (lv_at hl 4 rfl) ?_
      refine lv_aload_n hx hb dX6_latestDrawTold_8 rfl (lv_at hl 0 rfl) ?_
      refine xk_get hx hb hts (inX6_latestDrawTold_X6) hown hK hP 0 (by omega) (ci := 6) e1_well rfl 9 (by decide) (flX6_latestDrawTold_90 hts) rfl (.int (σ 0 9)) rfl dX6_latestDrawTold_9 ?_
      refine xn_eqi (y := nI n) hT.2.1 ?_
      refine xn_ige (tgt := 88) hx hb dX6_latestDrawTold_12 (by decide) (by omega) (by omega) (fun c_12 => ?_) (fun c_12 => ?_)
      · refine lv_iload_n hx hb dX6_latestDrawTold_88 rfl (lv_at hl 3 rfl) ?_
        exact xk_iret hx hb hr (vp_nar_int _) X1_ok hK hX hP hS hlk dX6_latestDrawTold_89 (⟨by rw [show x = n by omega], rfl⟩)
      · have hXx := hT.2.2.2.2 x c_12
        obtain ⟨ho0, ho1, ho2, ho3, ho4⟩ := hXx.2
        have hge : ¬ lts (fun x => dwn p d (th x 2) (hh x) (dl g th x)) x < -9 := lts_ge x (fun y hy => by
          have hY := hT.2.2.2.2 y (by omega)
          obtain ⟨-, hy1, -⟩ := hY.2
          have hdy : dl g th y ≤ 36 := dly_le hg9 hy1
          have hhy := (hhh y (by omega)).2
          have hct := cta_le p d (th y 2) (hh y) (dl g th y) p 1
          have hm := Nat.mul_le_mul (show cta p d (th y 2) (hh y) (dl g th y) p 1 ≤ 6 by omega) hdy
          show ¬ dwn p d (th y 2) (hh y) (dl g th y) < -9
          unfold dwn
          split
          · decide
          · exact nI_m9 (by omega))
        refine lv_aload_n hx hb dX6_latestDrawTold_15 rfl (lv_at hl 0 rfl) ?_
        refine lv_iload hx hb dX6_latestDrawTold_16 (lv_at hl 4 rfl) ?_
        refine xk_fa (va_runV (As := [.int (nI x)]) (rest := []) ⟨hx, hb, hml, hown, hts⟩ (k1_thingAt_in l hI (x := x) hT.2.1 hn5 (by omega)) (cwV 1 hts gX6_latestDrawTold_X6_thingAt rfl rfl rfl (by decide +kernel) ⟨Nat.le_of_ble_eq_true rfl, Nat.le_of_ble_eq_true rfl⟩) (xk_preV X1_ok hK hX hP (xk_recv hK hP 0 (by omega) (ci := 6) e1_well rfl)) rfl rfl hl.1 rfl (lv_room (Nat.le_of_ble_eq_true rfl)) dX6_latestDrawTold_18 ⟨Nat.le_of_ble_eq_true rfl, Nat.le_of_ble_eq_true rfl⟩) hS (fun H locs hP hS => ?_)
        refine lv_astore (lv' := [(5, .ref (ad (9 + x))), (0, .ref (ad 0)), (1, .ref (ad z)), (2, .int (nI a)), (3, .int (lts (fun x => dwn p d (th x 2) (hh x) (dl g th x)) x)), (4, .int (nI x))]) hx hb dX6_latestDrawTold_21 hl (by decide) rfl (fun ls hl => ?_)
        refine lv_aload hx hb dX6_latestDrawTold_23 (lv_at hl 0 rfl) ?_
        refine lv_ifnull hx hb dX6_latestDrawTold_25 ?_
        refine lv_aload_n hx hb dX6_latestDrawTold_28 rfl (lv_at hl 2 rfl) ?_
        refine lv_iload_n hx hb dX6_latestDrawTold_29 rfl (lv_at hl 3 rfl) ?_
        refine lv_iload hx hb dX6_latestDrawTold_30 (lv_at hl 5 rfl) ?_
        refine xn_iadd hx hb dX6_latestDrawTold_32 ?_
        refine xk_fi (va_runV (As := [.int (nI (a + x))]) (rest := []) ⟨hx, hb, hml, hown, hts⟩ (k1_numberAt l hI (j := a + x) (by omega) (by omega) hZ hL (by omega)) (cwV 1 hts gX6_latestDrawTold_X2_numberAt rfl rfl rfl (by decide +kernel) ⟨Nat.le_of_ble_eq_true rfl, Nat.le_of_ble_eq_true rfl⟩) (xk_preV X1_ok hK hX hP (xk_recv hK hP z (by omega) (ci := 2) (e1_sheet (by omega) (by omega)) rfl)) rfl rfl hl.1 rfl (lv_room (Nat.le_of_ble_eq_true rfl)) dX6_latestDrawTold_33 ⟨Nat.le_of_ble_eq_true rfl, Nat.le_of_ble_eq_true rfl⟩) hS (fun H locs hP hS => ?_)
        refine xn_eqi (y := nI (hh x)) ((hhh x (by omega)).1) ?_
        have hhx_36 := (hhh x (by omega)).2
        refine lv_istore (lv' := [(6, .int (nI (hh x))), (5, .ref (ad (9 + x))), (0, .ref (ad 0)), (1, .ref (ad z)), (2, .int (nI a)), (3, .int (lts (fun x => dwn p d (th x 2) (hh x) (dl g th x)) x)), (4, .int (nI x))]) hx hb dX6_latestDrawTold_36 hl (by decide) rfl (fun ls hl => ?_)
        refine lv_aload_n hx hb dX6_latestDrawTold_38 rfl (lv_at hl 2 rfl) ?_
        refine lv_aload hx hb dX6_latestDrawTold_39 (lv_at hl 1 rfl) ?_
        refine xk_fi (va_runV (As := [.ref (ad (9 + x))]) (rest := []) ⟨hx, hb, hml, hown, hts⟩ (k1_delayOf l hI (x := x) hT (by omega)) (cwV 1 hts gX6_latestDrawTold_X6_delayOf rfl rfl rfl (by decide +kernel) ⟨Nat.le_of_ble_eq_true rfl, Nat.le_of_ble_eq_true rfl⟩) (xk_preV X1_ok hK hX hP (xk_recv hK hP 0 (by omega) (ci := 6) e1_well rfl)) rfl rfl hl.1 rfl (lv_room (Nat.le_of_ble_eq_true rfl)) dX6_latestDrawTold_41 ⟨Nat.le_of_ble_eq_true rfl, Nat.le_of_ble_eq_true rfl⟩) hS (fun H locs hP hS => ?_)
        have hdl_41 : dl g th x ≤ 36 := dly_le hg9 ho1
        refine lv_istore (lv' := [(7, .int (nI (dl g th x))), (6, .int (nI (hh x))), (5, .ref (ad (9 + x))), (0, .ref (ad 0)), (1, .ref (ad z)), (2, .int (nI a)), (3, .int (lts (fun x => dwn p d (th x 2) (hh x) (dl g th x)) x)), (4, .int (nI x))]) hx hb dX6_latestDrawTold_44 hl (by decide) rfl (fun ls hl => ?_)
        refine lv_aload_n hx hb dX6_latestDrawTold_46 rfl (lv_at hl 3 rfl) ?_
        refine xk_get hx hb hts (inX6_latestDrawTold_X6) hown hK hP 0 (by omega) (ci := 6) e1_well rfl 3 (by decide) (flX6_latestDrawTold_32 hts) rfl (.ref (ad 22)) rfl dX6_latestDrawTold_47 ?_
        refine lv_aload hx hb dX6_latestDrawTold_50 (lv_at hl 2 rfl) ?_
        refine xk_get hx hb hts (inX6_latestDrawTold_X4) hown hK hP (9 + x) (by omega) (ci := 4) (e1_thing (by omega) (by omega)) rfl 2 (by decide) (flX6_latestDrawTold_103 hts) rfl (.int (σ (9 + x) 2)) rfl dX6_latestDrawTold_52 ?_
        refine xn_eqi (y := nI (th x 2)) (hXx.1 2 (by omega)) ?_
        refine lv_iload hx hb dX6_latestDrawTold_55 (lv_at hl 1 rfl) ?_
        refine lv_iload hx hb dX6_latestDrawTold_57 (lv_at hl 0 rfl) ?_
        refine xk_fi (va_runV (As := [.int (nI (th x 2)), .int (nI (hh x)), .int (nI (dl g th x))]) (rest := []) ⟨hx, hb, hml, hown, hts⟩ (k1_comings l hI (q := 22) (d := d) (e := th x 2) (h := hh x) (y := dl g th x) (by omega) (by omega) hR (by omega) (by omega) (by omega)) (cwV 3 hts gX6_latestDrawTold_X1_comingsTillAnother rfl rfl rfl (by decide +kernel) ⟨Nat.le_of_ble_eq_true rfl, Nat.le_of_ble_eq_true rfl⟩) (xk_preV X1_ok hK hX hP (xk_recv hK hP 22 (by omega) (ci := 1) (e1_rota (by omega) (by omega)) rfl)) rfl rfl hl.1 rfl (lv_room (Nat.le_of_ble_eq_true rfl)) dX6_latestDrawTold_59 ⟨Nat.le_of_ble_eq_true rfl, Nat.le_of_ble_eq_true rfl⟩) hS (fun H locs hP hS => ?_)
        have hct := cta_le p d (th x 2) (hh x) (dl g th x) p 1
        have hm := Nat.mul_le_mul (show cta p d (th x 2) (hh x) (dl g th x) p 1 ≤ 6 by omega) hdl_41
        refine lv_istore (lv' := [(8, .int (nI (cta p d (th x 2) (hh x) (dl g th x) p 1))), (7, .int (nI (dl g th x))), (6, .int (nI (hh x))), (5, .ref (ad (9 + x))), (0, .ref (ad 0)), (1, .ref (ad z)), (2, .int (nI a)), (3, .int (lts (fun x => dwn p d (th x 2) (hh x) (dl g th x)) x)), (4, .int (nI x))]) hx hb dX6_latestDrawTold_62 hl (by decide) rfl (fun ls hl => ?_)
        refine lv_iload hx hb dX6_latestDrawTold_64 (lv_at hl 0 rfl) ?_
        refine xn_zle (tgt := 82) hx hb dX6_latestDrawTold_66 (by decide) (by omega) (fun c_66 => ?_) (fun c_66 => ?_)
        · refine lv_iinc (v := nI (x + 1)) (lv' := [(4, .int (nI (x + 1))), (8, .int (nI (cta p d (th x 2) (hh x) (dl g th x) p 1))), (7, .int (nI (dl g th x))), (6, .int (nI (hh x))), (5, .ref (ad (9 + x))), (0, .ref (ad 0)), (1, .ref (ad z)), (2, .int (nI a)), (3, .int (lts (fun x => dwn p d (th x 2) (hh x) (dl g th x)) x))]) hx hb dX6_latestDrawTold_82 hl (k := 8) rfl (xn_inc _ 1) (by decide) rfl (fun ls hl => ?_)
          refine lv_goto (tgt := 6) hx hb dX6_latestDrawTold_85 (by decide) ?_
          have hdw : dwn p d (th x 2) (hh x) (dl g th x) = -9 := if_pos (by omega)
          have hlt : lts (fun x => dwn p d (th x 2) (hh x) (dl g th x)) (x + 1) = lts (fun x => dwn p d (th x 2) (hh x) (dl g th x)) x := by simp only [lts, hdw]; exact if_neg hge
          rw [← hlt] at hl
          exact ih_6 (x + 1) (by omega) (by omega) _ _ _ hP hS (lv_sub hl [5, 6, 7, 8, 0] rfl)
        · refine lv_iload_n hx hb dX6_latestDrawTold_69 rfl (lv_at hl 7 rfl) ?_
          refine lv_iload hx hb dX6_latestDrawTold_70 (lv_at hl 2 rfl) ?_
          refine lv_iload hx hb dX6_latestDrawTold_72 (lv_at hl 0 rfl) ?_
          refine lv_iload hx hb dX6_latestDrawTold_74 (lv_at hl 1 rfl) ?_
          refine xn_imul hx hb dX6_latestDrawTold_76 ?_
          refine xn_iadd hx hb dX6_latestDrawTold_77 ?_
          refine va_mmax hx hb (hml.trans hl.1.symm) (own := RX6) hown (hts (.methodLink RX6 273 Lib.Math.max.name) (by decide +kernel)) (hts (.static Lib.Math.max.name) (by decide +kernel)) (hts (.initialized "java/lang/Math") (by decide +kernel)) (hts (.code Lib.Math.max.name Lib.Math.max.code 2 (some .int)) (by decide +kernel)) (Nat.le_of_ble_eq_true rfl) (Nat.le_of_ble_eq_true rfl) (Nat.zero_le _) (Nat.zero_le _) dX6_latestDrawTold_78 ?_
          refine lv_istore_n (lv' := [(3, .int (if lts (fun x => dwn p d (th x 2) (hh x) (dl g th x)) x < nI ((hh x) + ((cta p d (th x 2) (hh x) (dl g th x) p 1) * (dl g th x))) then nI ((hh x) + ((cta p d (th x 2) (hh x) (dl g th x) p 1) * (dl g th x))) else lts (fun x => dwn p d (th x 2) (hh x) (dl g th x)) x)), (8, .int (nI (cta p d (th x 2) (hh x) (dl g th x) p 1))), (7, .int (nI (dl g th x))), (6, .int (nI (hh x))), (5, .ref (ad (9 + x))), (0, .ref (ad 0)), (1, .ref (ad z)), (2, .int (nI a)), (4, .int (nI x))]) hx hb dX6_latestDrawTold_81 rfl hl (by decide) rfl (fun ls hl => ?_)
          refine lv_iinc (v := nI (x + 1)) (lv' := [(4, .int (nI (x + 1))), (3, .int (if lts (fun x => dwn p d (th x 2) (hh x) (dl g th x)) x < nI ((hh x) + ((cta p d (th x 2) (hh x) (dl g th x) p 1) * (dl g th x))) then nI ((hh x) + ((cta p d (th x 2) (hh x) (dl g th x) p 1) * (dl g th x))) else lts (fun x => dwn p d (th x 2) (hh x) (dl g th x)) x)), (8, .int (nI (cta p d (th x 2) (hh x) (dl g th x) p 1))), (7, .int (nI (dl g th x))), (6, .int (nI (hh x))), (5, .ref (ad (9 + x))), (0, .ref (ad 0)), (1, .ref (ad z)), (2, .int (nI a))]) hx hb dX6_latestDrawTold_82 hl (k := 8) rfl (xn_inc _ 1) (by decide) rfl (fun ls hl => ?_)
          refine lv_goto (tgt := 6) hx hb dX6_latestDrawTold_85 (by decide) ?_
          have hdw : dwn p d (th x 2) (hh x) (dl g th x) = nI (hh x + cta p d (th x 2) (hh x) (dl g th x) p 1 * dl g th x) := if_neg (by omega)
          have hlt : lts (fun x => dwn p d (th x 2) (hh x) (dl g th x)) (x + 1) = if lts (fun x => dwn p d (th x 2) (hh x) (dl g th x)) x < nI (hh x + cta p d (th x 2) (hh x) (dl g th x) p 1 * dl g th x) then nI (hh x + cta p d (th x 2) (hh x) (dl g th x) p 1 * dl g th x) else lts (fun x => dwn p d (th x 2) (hh x) (dl g th x)) x := by simp only [lts, hdw]
          rw [← hlt] at hl
          exact ih_6 (x + 1) (by omega) (by omega) _ _ _ hP hS (lv_sub hl [6, 7, 8, 1, 0] rfl)
  exact LP_6 _ 0 (by omega) (Nat.lt_succ_self _) _ _ _ hP hS (lv_sub hl [2, 3, 4, 1, 0] rfl)

set_option maxRecDepth 20000 in
theorem flX6_busiestDrawerTold_90 {s : State} {av : Array Value} (hts : ∀ w ∈ wsX6_busiestDrawerTold, w.before av s = true) : (Cond.fieldLink RX6 90 "WellBack" "thingCount" "I").before av s = true := hts _ (by decide +kernel)
set_option maxRecDepth 20000 in
theorem inX6_busiestDrawerTold_X6 : ∀ w ∈ u_ws RX6 TX6 13, w ∈ wsX6_busiestDrawerTold := by decide +kernel
set_option maxHeartbeats 4000000 in
set_option maxRecDepth 100000 in
theorem k1_busiest (l : Launch) {D : va_G} {ca : Nat → ClassId} {ad : Nat → Nat} (hI : Ij ad 34) {σ : Sg} {n g : Nat} {th : Nat → Nat → Nat} {z L m a : Nat} {cc : Nat → Int32} {hh : Nat → Nat} {p : Nat} {d : Nat → Nat} (hT : ThingsAt σ n g th) (hz1 : 1 ≤ z) (hz2 : z < 5) (hZ : SheetAt σ z L m cc) (hL : L < 3) (ham : a + n ≤ m) (hhh : ∀ x, x < n → cc (a + x) = nI (hh x) ∧ hh x ≤ 23) (hR : RotaAt σ 22 p d) (hp0 : 0 < p) : C1i l D ca ad yX6_busiestDrawerTold wsX6_busiestDrawerTold { frames := 4, cells := 0, slots := 0, locals := 108 } [.ref (ad 0), .ref (ad z), .int (nI a)] σ (xFn (bsy (fun k => cb (fun x => decide (ot p d g th hh x = nI k)) n) 5).1 σ) := by
  refine xk_entry cX6_busiestDrawerTold 8 (some .int) (by decide) rfl (Nat.le_of_ble_eq_true rfl) ?_
  intro pP eE sS mM below meth cC hx hb hml hr hts hown hlk hP hK hX hS ls hl
  have hl : lv_has ls 8 [(0, .ref (ad 0)), (1, .ref (ad z)), (2, .int (nI a))] := hl
  have hn5 := hT.2.2.1
  have hg9 := hT.2.2.2.1
  have hp6 := hR.2.1
  have hm60 := (hZ.2.2 hL).2.1
  refine lv_bipush (v := (-9)) hx hb dX6_busiestDrawerTold_0 (by decide) ?_
  refine lv_istore_n (lv' := [(3, .int (-9)), (0, .ref (ad 0)), (1, .ref (ad z)), (2, .int (nI a))]) hx hb dX6_busiestDrawerTold_2 rfl hl (by decide) rfl (fun ls hl => ?_)
  refine lv_iconst (v := nI 0) hx hb dX6_busiestDrawerTold_3 (by decide) ?_
  refine lv_istore (lv' := [(4, .int (nI 0)), (3, .int (-9)), (0, .ref (ad 0)), (1, .ref (ad z)), (2, .int (nI a))]) hx hb dX6_busiestDrawerTold_4 hl (by decide) rfl (fun ls hl => ?_)
  refine lv_iconst (v := nI 0) hx hb dX6_busiestDrawerTold_6 (by decide) ?_
  refine lv_istore (lv' := [(5, .int (nI 0)), (4, .int (nI 0)), (3, .int (-9)), (0, .ref (ad 0)), (1, .ref (ad z)), (2, .int (nI a))]) hx hb dX6_busiestDrawerTold_7 hl (by decide) rfl (fun ls hl => ?_)
  have LP_9 : ∀ (n_9 : Nat) (k : Nat), (k ≤ 5) → (5 - k) < n_9 → ∀ (H : Heap) (locs : List Loc) (ls : Array Slot), va_P D vwCl (wl ad 34 (en1 ad ca σ)) H → va_S (AA ad 34) sS.heap H locs → lv_has ls 8 [(0, .ref (ad 0)), (1, .ref (ad z)), (2, .int (nI a)), (3, .int ((bsy (fun k => cb (fun x => decide (ot p d g th hh x = nI k)) n) k).1)), (4, .int (nI ((bsy (fun k => cb (fun x => decide (ot p d g th hh x = nI k)) n) k).2))), (5, .int (nI k))] → Wwi1 pP l eE { frames := 4, cells := 0, slots := 0, locals := 108 } sS mM [.ref (ad 0), .ref (ad z), .int (nI a)] below meth cC D ca ad (xFn (bsy (fun k => cb (fun x => decide (ot p d g th hh x = nI k)) n) 5).1 σ) H locs (F0 mM 9 ls []) := by
    intro n_9
    induction n_9 with
    | zero =>
      intro k hk5 hn_9
      exact absurd hn_9 (Nat.not_lt_zero _)
    | succ n_9 ih_9 =>
      intro k hk5 hn_9 H locs ls hP hS hl
      refine lv_iload hx hb dX6_busiestDrawerTold_9 (lv_at hl 5 rfl) ?_
      refine lv_iconst (v := nI 4) hx hb dX6_busiestDrawerTold_11 (by decide) ?_
      refine xn_igt (tgt := 72) hx hb dX6_busiestDrawerTold_12 (by decide) (by omega) (by omega) (fun c_12 => ?_) (fun c_12 => ?_)
      · refine lv_iload_n hx hb dX6_busiestDrawerTold_72 rfl (lv_at hl 3 rfl) ?_
        exact xk_iret hx hb hr (vp_nar_int _) X1_ok hK hX hP hS hlk dX6_busiestDrawerTold_73 (⟨by rw [show k = 5 by omega], rfl⟩)
      · have hbl := bsy_le (f := (fun k => cb (fun x => decide (ot p d g th hh x = nI k)) n)) (N := n) (fun k => cb_le _ n) k
        refine lv_iconst (v := nI 0) hx hb dX6_busiestDrawerTold_15 (by decide) ?_
        refine lv_istore (lv' := [(6, .int (nI 0)), (0, .ref (ad 0)), (1, .ref (ad z)), (2, .int (nI a)), (3, .int ((bsy (fun k => cb (fun x => decide (ot p d g th hh x = nI k)) n) k).1)), (4, .int (nI ((bsy (fun k => cb (fun x => decide (ot p d g th hh x = nI k)) n) k).2))), (5, .int (nI k))]) hx hb dX6_busiestDrawerTold_16 hl (by decide) rfl (fun ls hl => ?_)
        refine lv_iconst (v := nI 0) hx hb dX6_busiestDrawerTold_18 (by decide) ?_
        refine lv_istore (lv' := [(7, .int (nI 0)), (6, .int (nI 0)), (0, .ref (ad 0)), (1, .ref (ad z)), (2, .int (nI a)), (3, .int ((bsy (fun k => cb (fun x => decide (ot p d g th hh x = nI k)) n) k).1)), (4, .int (nI ((bsy (fun k => cb (fun x => decide (ot p d g th hh x = nI k)) n) k).2))), (5, .int (nI k))]) hx hb dX6_busiestDrawerTold_19 hl (by decide) rfl (fun ls hl => ?_)
        have LP_21 : ∀ (n_21 : Nat) (x : Nat), (x ≤ n) → (n - x) < n_21 → ∀ (H : Heap) (locs : List Loc) (ls : Array Slot), va_P D vwCl (wl ad 34 (en1 ad ca σ)) H → va_S (AA ad 34) sS.heap H locs → lv_has ls 8 [(0, .ref (ad 0)), (1, .ref (ad z)), (2, .int (nI a)), (3, .int ((bsy (fun k => cb (fun x => decide (ot p d g th hh x = nI k)) n) k).1)), (4, .int (nI ((bsy (fun k => cb (fun x => decide (ot p d g th hh x = nI k)) n) k).2))), (5, .int (nI k)), (6, .int (nI (cb (fun x => decide (ot p d g th hh x = nI k)) x))), (7, .int (nI x))] → Wwi1 pP l eE { frames := 4, cells := 0, slots := 0, locals := 108 } sS mM [.ref (ad 0), .ref (ad z), .int (nI a)] below meth cC D ca ad (xFn (bsy (fun k => cb (fun x => decide (ot p d g th hh x = nI k)) n) 5).1 σ) H locs (F0 mM 21 ls []) := by
          intro n_21
          induction n_21 with
          | zero =>
            intro x hx0 hn_21
            exact absurd hn_21 (Nat.not_lt_zero _)
          | succ n_21 ih_21 =>
            intro x hx0 hn_21 H locs ls hP hS hl
            refine lv_iload hx hb dX6_busiestDrawerTold_21 (lv_at hl 7 rfl) ?_
            refine lv_aload_n hx hb dX6_busiestDrawerTold_23 rfl (lv_at hl 0 rfl) ?_
            refine xk_get hx hb hts (inX6_busiestDrawerTold_X6) hown hK hP 0 (by omega) (ci := 6) e1_well rfl 9 (by decide) (flX6_busiestDrawerTold_90 hts) rfl (.int (σ 0 9)) rfl dX6_busiestDrawerTold_24 ?_
            refine xn_eqi (y := nI n) hT.2.1 ?_
            refine xn_ige (tgt := 52) hx hb dX6_busiestDrawerTold_27 (by decide) (by omega) (by omega) (fun c_27 => ?_) (fun c_27 => ?_)
            · have hxn : x = n := by omega
              rw [hxn] at hl
              have hcbl := cb_le (fun x => decide (ot p d g th hh x = nI k)) n
              refine lv_iload hx hb dX6_busiestDrawerTold_52 (lv_at hl 6 rfl) ?_
              refine lv_iload hx hb dX6_busiestDrawerTold_54 (lv_at hl 4 rfl) ?_
              refine xn_ile (tgt := 66) hx hb dX6_busiestDrawerTold_56 (by decide) (by omega) (by omega) (fun c_56 => ?_) (fun c_56 => ?_)
              · refine lv_iinc (v := nI (k + 1)) (lv' := [(5, .int (nI (k + 1))), (0, .ref (ad 0)), (1, .ref (ad z)), (2, .int (nI a)), (3, .int ((bsy (fun k => cb (fun x => decide (ot p d g th hh x = nI k)) n) k).1)), (4, .int (nI ((bsy (fun k => cb (fun x => decide (ot p d g th hh x = nI k)) n) k).2))), (6, .int (nI (cb (fun x => decide (ot p d g th hh x = nI k)) n))), (7, .int (nI n))]) hx hb dX6_busiestDrawerTold_66 hl (k := 5) rfl (xn_inc _ 1) (by decide) rfl (fun ls hl => ?_)
                refine lv_goto (tgt := 9) hx hb dX6_busiestDrawerTold_69 (by decide) ?_
                have hbs : bsy (fun k => cb (fun x => decide (ot p d g th hh x = nI k)) n) (k + 1) = bsy (fun k => cb (fun x => decide (ot p d g th hh x = nI k)) n) k := by simp only [bsy]; exact if_neg (by omega)
                rw [← hbs] at hl
                exact ih_9 (k + 1) (by omega) (by omega) _ _ _ hP hS (lv_sub hl [1, 2, 3, 4, 5, 0] rfl)
              · refine lv_iload hx hb dX6_busiestDrawerTold_59 (lv_at hl 6 rfl) ?_
                refine lv_istore (lv' := [(4, .int (nI (cb (fun x => decide (ot p d g th hh x = nI k)) n))), (0, .ref (ad 0)), (1, .ref (ad z)), (2, .int (nI a)), (3, .int ((bsy (fun k => cb (fun x => decide (ot p d g th hh x = nI k)) n) k).1)), (5, .int (nI k)), (6, .int (nI (cb (fun x => decide (ot p d g th hh x = nI k)) n))), (7, .int (nI n))]) hx hb dX6_busiestDrawerTold_61 hl (by decide) rfl (fun ls hl => ?_)
                refine lv_iload hx hb dX6_busiestDrawerTold_63 (lv_at hl 5 rfl) ?_
                refine lv_istore_n (lv' := [(3, .int (nI k)), (4, .int (nI (cb (fun x => decide (ot p d g th hh x = nI k)) n))), (0, .ref (ad 0)), (1, .ref (ad z)), (2, .int (nI a)), (5, .int (nI k)), (6, .int (nI (cb (fun x => decide (ot p d g th hh x = nI k)) n))), (7, .int (nI n))]) hx hb dX6_busiestDrawerTold_65 rfl hl (by decide) rfl (fun ls hl => ?_)
                refine lv_iinc (v := nI (k + 1)) (lv' := [(5, .int (nI (k + 1))), (3, .int (nI k)), (4, .int (nI (cb (fun x => decide (ot p d g th hh x = nI k)) n))), (0, .ref (ad 0)), (1, .ref (ad z)), (2, .int (nI a)), (6, .int (nI (cb (fun x => decide (ot p d g th hh x = nI k)) n))), (7, .int (nI n))]) hx hb dX6_busiestDrawerTold_66 hl (k := 5) rfl (xn_inc _ 1) (by decide) rfl (fun ls hl => ?_)
                refine lv_goto (tgt := 9) hx hb dX6_busiestDrawerTold_69 (by decide) ?_
                have hbs : bsy (fun k => cb (fun x => decide (ot p d g th hh x = nI k)) n) (k + 1) = (nI k, cb (fun x => decide (ot p d g th hh x = nI k)) n) := by simp only [bsy]; exact if_pos (by omega)
                have hl : lv_has ls 8 [(5, .int (nI (k + 1))), (3, .int ((bsy (fun k => cb (fun x => decide (ot p d g th hh x = nI k)) n) (k + 1)).1)), (4, .int (nI ((bsy (fun k => cb (fun x => decide (ot p d g th hh x = nI k)) n) (k + 1)).2))), (0, .ref (ad 0)), (1, .ref (ad z)), (2, .int (nI a)), (6, .int (nI (cb (fun x => decide (ot p d g th hh x = nI k)) n))), (7, .int (nI n))] := by rw [hbs]; exact hl
                exact ih_9 (k + 1) (by omega) (by omega) _ _ _ hP hS (lv_sub hl [3, 4, 5, 1, 2, 0] rfl)
            · have hcbl := cb_le (fun x => decide (ot p d g th hh x = nI k)) x
              refine lv_aload_n hx hb dX6_busiestDrawerTold_30 rfl (lv_at hl 0 rfl) ?_
              refine lv_aload_n hx hb dX6_busiestDrawerTold_31 rfl (lv_at hl 1 rfl) ?_
              refine lv_iload_n hx hb dX6_busiestDrawerTold_32 rfl (lv_at hl 2 rfl) ?_
              refine lv_iload hx hb dX6_busiestDrawerTold_33 (lv_at hl 7 rfl) ?_
              refine xk_fi (va_runV (As := [.ref (ad z), .int (nI a), .int (nI x)]) (rest := []) ⟨hx, hb, hml, hown, hts⟩ (k1_drawerTold l hI (x := x) hT (by omega) (by omega) hZ hL (by omega) hhh hR hp0 (by omega)) (cwV 3 hts gX6_busiestDrawerTold_X6_drawerTold rfl rfl rfl (by decide +kernel) ⟨Nat.le_of_ble_eq_true rfl, Nat.le_of_ble_eq_true rfl⟩) (xk_preV X1_ok hK hX hP (xk_recv hK hP 0 (by omega) (ci := 6) e1_well rfl)) rfl rfl hl.1 rfl (lv_room (Nat.le_of_ble_eq_true rfl)) dX6_busiestDrawerTold_35 ⟨Nat.le_of_ble_eq_true rfl, Nat.le_of_ble_eq_true rfl⟩) hS (fun H locs hP hS => ?_)
              refine lv_iload hx hb dX6_busiestDrawerTold_38 (lv_at hl 5 rfl) ?_
              refine lv_icmp_ne (tgt := 46) hx hb dX6_busiestDrawerTold_40 (by decide) (fun c_40 => ?_) (fun c_40 => ?_)
              · refine lv_iinc (v := nI (x + 1)) (lv' := [(7, .int (nI (x + 1))), (0, .ref (ad 0)), (1, .ref (ad z)), (2, .int (nI a)), (3, .int ((bsy (fun k => cb (fun x => decide (ot p d g th hh x = nI k)) n) k).1)), (4, .int (nI ((bsy (fun k => cb (fun x => decide (ot p d g th hh x = nI k)) n) k).2))), (5, .int (nI k)), (6, .int (nI (cb (fun x => decide (ot p d g th hh x = nI k)) x)))]) hx hb dX6_busiestDrawerTold_46 hl (k := 7) rfl (xn_inc _ 1) (by decide) rfl (fun ls hl => ?_)
                refine lv_goto (tgt := 21) hx hb dX6_busiestDrawerTold_49 (by decide) ?_
                have hcb : cb (fun x => decide (ot p d g th hh x = nI k)) (x + 1) = cb (fun x => decide (ot p d g th hh x = nI k)) x := by simp only [cb]; rw [if_neg (by simpa using c_40)]
                rw [← hcb] at hl
                exact ih_21 (x + 1) (by omega) (by omega) _ _ _ hP hS (lv_sub hl [1, 2, 3, 4, 5, 6, 7, 0] rfl)
              · refine lv_iinc (v := nI (cb (fun x => decide (ot p d g th hh x = nI k)) x + 1)) (lv' := [(6, .int (nI (cb (fun x => decide (ot p d g th hh x = nI k)) x + 1))), (0, .ref (ad 0)), (1, .ref (ad z)), (2, .int (nI a)), (3, .int ((bsy (fun k => cb (fun x => decide (ot p d g th hh x = nI k)) n) k).1)), (4, .int (nI ((bsy (fun k => cb (fun x => decide (ot p d g th hh x = nI k)) n) k).2))), (5, .int (nI k)), (7, .int (nI x))]) hx hb dX6_busiestDrawerTold_43 hl (k := 6) rfl (xn_inc _ 1) (by decide) rfl (fun ls hl => ?_)
                refine lv_iinc (v := nI (x + 1)) (lv' := [(7, .int (nI (x + 1))), (6, .int (nI (cb (fun x => decide (ot p d g th hh x = nI k)) x + 1))), (0, .ref (ad 0)), (1, .ref (ad z)), (2, .int (nI a)), (3, .int ((bsy (fun k => cb (fun x => decide (ot p d g th hh x = nI k)) n) k).1)), (4, .int (nI ((bsy (fun k => cb (fun x => decide (ot p d g th hh x = nI k)) n) k).2))), (5, .int (nI k))]) hx hb dX6_busiestDrawerTold_46 hl (k := 7) rfl (xn_inc _ 1) (by decide) rfl (fun ls hl => ?_)
                refine lv_goto (tgt := 21) hx hb dX6_busiestDrawerTold_49 (by decide) ?_
                have hcb : cb (fun x => decide (ot p d g th hh x = nI k)) (x + 1) = cb (fun x => decide (ot p d g th hh x = nI k)) x + 1 := by simp only [cb]; rw [if_pos (by simpa using c_40)]
                rw [← hcb] at hl
                exact ih_21 (x + 1) (by omega) (by omega) _ _ _ hP hS (lv_sub hl [2, 3, 4, 5, 6, 7, 1, 0] rfl)
        exact LP_21 _ 0 (by omega) (Nat.lt_succ_self _) _ _ _ hP hS (lv_sub hl [2, 3, 4, 5, 6, 7, 1, 0] rfl)
  exact LP_9 _ 0 (by omega) (Nat.lt_succ_self _) _ _ _ hP hS (lv_sub hl [3, 4, 5, 2, 1, 0] rfl)
