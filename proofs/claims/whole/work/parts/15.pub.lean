/-! walks from hand to hand; sets -/
def wk (p : Nat) (d : Nat → Nat) (y e0 h0 : Nat) : Nat → Option (Nat × Nat)
  | 0 => some (e0, h0)
  | k + 1 => (wk p d y e0 h0 k).bind fun q => if cta p d q.1 q.2 y p 1 = 0 then none else some (d ((q.2 + cta p d q.1 q.2 y p 1 * y) % p), q.2 + cta p d q.1 q.2 y p 1 * y)
def wz : Option (Nat × Nat) → Int32
  | none => -9
  | some q => nI q.1
def mtF (f : Nat → Option (Nat × Nat)) : Nat → Int32
  | 0 => 0
  | k + 1 => match f k with
    | none => mtF f k
    | some q => mtF f k ||| (nI 1 <<< (nI q.1 &&& 31))
theorem wk_s0 {p y e0 h0 k e h : Nat} {d : Nat → Nat} (hk : wk p d y e0 h0 k = some (e, h)) (hc : cta p d e h y p 1 = 0) : wk p d y e0 h0 (k + 1) = none := by
  simp only [wk, hk, Option.bind_some]
  exact if_pos hc
theorem wk_s1 {p y e0 h0 k e h : Nat} {d : Nat → Nat} (hk : wk p d y e0 h0 k = some (e, h)) (hc : ¬ cta p d e h y p 1 = 0) : wk p d y e0 h0 (k + 1) = some (d ((h + cta p d e h y p 1 * y) % p), h + cta p d e h y p 1 * y) := by
  simp only [wk, hk, Option.bind_some]
  exact if_neg hc
theorem wk_none {p y e0 h0 j : Nat} {d : Nat → Nat} (hj : wk p d y e0 h0 j = none) : ∀ k, wk p d y e0 h0 (j + k) = none := by
  intro k
  induction k with
  | zero => exact hj
  | succ k ih =>
    show wk p d y e0 h0 (j + k + 1) = none
    simp only [wk, ih, Option.bind_none]
theorem wk_none' {p y e0 h0 j k : Nat} {d : Nat → Nat} (hj : wk p d y e0 h0 j = none) (hk : j ≤ k) : wk p d y e0 h0 k = none := by
  have := wk_none hj (k - j)
  rwa [show j + (k - j) = k by omega] at this
theorem wF_none {f : Nat → Bool} : ∀ k j, (∀ i, j ≤ i → f i = false) → wF f k j = -9 := by
  intro k
  induction k with
  | zero => intro j _; rfl
  | succ k ih =>
    intro j h
    simp only [wF, h j (Nat.le_refl j)]
    exact ih (j + 1) (fun i hi => h i (by omega))
theorem mtF_none {f : Nat → Option (Nat × Nat)} {j : Nat} (h : ∀ i, j ≤ i → f i = none) : ∀ k, mtF f (j + k) = mtF f j := by
  intro k
  induction k with
  | zero => rfl
  | succ k ih =>
    show mtF f (j + k + 1) = _
    simp only [mtF, h (j + k) (by omega)]
    exact ih
theorem mtF_some {f : Nat → Option (Nat × Nat)} {j e h : Nat} (hf : f j = some (e, h)) : mtF f (j + 1) = mtF f j ||| (nI 1 <<< (nI e &&& 31)) := by
  simp only [mtF, hf]
theorem nI_n9 {a : Nat} (ha : a < 2 ^ 31) : ¬ (-9 : Int32) = nI a := by
  intro h
  have := congrArg Int32.toInt h
  rw [nI_toInt ha] at this
  have h9 : (-9 : Int32).toInt = -9 := by decide
  omega
theorem sth_m9 {p u rn n : Nat} {d : Nat → Nat} {th rd : Nat → Nat → Nat} (hr : ∀ k, k < rn → rd k 0 < n) (hn : n ≤ 5) {kk ww : Nat} : areSo p d u (sth th (-9) kk ww) rn rd ↔ areSo p d u th rn rd := by
  have e : ∀ k, k < rn → sth th (-9) kk ww (rd k 0) = th (rd k 0) := by
    intro k hk
    funext f
    simp only [sth]
    exact if_neg (nI_n9 (by have := hr k hk; omega))
  constructor
  · intro h k hk
    have := h k hk
    simp only [so1, dl, e k hk] at this
    exact this
  · intro h k hk
    simp only [so1, dl, e k hk]
    exact h k hk

theorem k1_areSo_t (l : Launch) {D : va_G} {ca : Nat → ClassId} {ad : Nat → Nat} (hI : Ij ad 34) {σ : Sg} {n g : Nat} {th : Nat → Nat → Nat}  {rn : Nat} {rd : Nat → Nat → Nat} {u kk ww : Nat} {xa : Int32} {p : Nat} {d : Nat → Nat} (hT : ThingsAt σ n g th)  (hRd : ReadsAt σ rn n rd) (hu : u ≤ 9) (hkk : kk < 3) (hww : ww ≤ 9) (hR : RotaAt σ 22 p d) (hp0 : 0 < p) (hz : areSo p d u (sth th xa kk ww) rn rd) : C1i l D ca ad yX6_readingsAreSo wsX6_readingsAreSo { frames := 3, cells := 0, slots := 0, locals := 69 } [.ref (ad 0), .int (nI u), .int xa, .int (nI kk), .int (nI ww)] σ (xFn (nI 1) σ) := by
  have k := k1_areSo l (D := D) (ca := ca) hI hT hRd hu hkk hww hR hp0 (xa := xa)
  rwa [bz_t hz] at k

theorem k1_areSo_f (l : Launch) {D : va_G} {ca : Nat → ClassId} {ad : Nat → Nat} (hI : Ij ad 34) {σ : Sg} {n g : Nat} {th : Nat → Nat → Nat}  {rn : Nat} {rd : Nat → Nat → Nat} {u kk ww : Nat} {xa : Int32} {p : Nat} {d : Nat → Nat} (hT : ThingsAt σ n g th)  (hRd : ReadsAt σ rn n rd) (hu : u ≤ 9) (hkk : kk < 3) (hww : ww ≤ 9) (hR : RotaAt σ 22 p d) (hp0 : 0 < p) (hz : ¬ areSo p d u (sth th xa kk ww) rn rd) : C1i l D ca ad yX6_readingsAreSo wsX6_readingsAreSo { frames := 3, cells := 0, slots := 0, locals := 69 } [.ref (ad 0), .int (nI u), .int xa, .int (nI kk), .int (nI ww)] σ (xFn (nI 0) σ) := by
  have k := k1_areSo l (D := D) (ca := ca) hI hT hRd hu hkk hww hR hp0 (xa := xa)
  rwa [bz_f hz] at k

set_option maxHeartbeats 4000000 in
set_option maxRecDepth 100000 in
theorem a1_hands_xo (l : Launch) {D : va_G} {ca : Nat → ClassId} {ad : Nat → Nat} (hI : Ij ad 34) {σ : Sg} {n p g rn : Nat} {d : Nat → Nat} {th rd : Nat → Nat → Nat} {sl sn : Nat → Nat} {sc : Nat → Nat → Int32} {ft tr : Int32} {x : Int32} {k : Int32} (hJ : I1 n p g rn d th rd sl sn sc ft tr σ) (hxx : ∀ j, j < n → x ≠ nI j) : C1i l D ca ad yX6_hands wsX6_hands { frames := 3, cells := 0, slots := 0, locals := 84 } [.ref (ad 0), .int x, .int k] σ (fun r σ' => r = -1 ∧ I1 n p g rn d th rd sl sn sc ft tr σ') := by
  refine xk_entry cX6_hands 6 (some .int) (by decide) rfl (Nat.le_of_ble_eq_true rfl) ?_
  intro pP eE sS mM below meth cC hx hb hml hr hts hown hlk hP hK hX hS ls hl
  have hl : lv_has ls 6 [(0, .ref (ad 0)), (1, .int x), (2, .int k)] := hl
  obtain ⟨hT, hR, hRd, hSh, hnp, hft, htr⟩ := id hJ
  have hn5 := hT.2.2.1
  have hg9 := hT.2.2.2.1
  have hp6 := hR.2.1
  have hrn8 := hRd.2.1
  refine lv_aload_n hx hb dX6_hands_0 rfl (lv_at hl 0 rfl) ?_
  refine lv_iload_n hx hb dX6_hands_1 rfl (lv_at hl 1 rfl) ?_
  refine xk_fz (va_runV (As := [.int x]) (rest := []) ⟨hx, hb, hml, hown, hts⟩ (k1_thingAt_out l hI (x := x) hT.2.1 hn5 (by assumption)) (cwV 1 hts gX6_hands_X6_thingAt rfl rfl rfl (by decide +kernel) ⟨Nat.le_of_ble_eq_true rfl, Nat.le_of_ble_eq_true rfl⟩) (xk_preV X1_ok hK hX hP (xk_recv hK hP 0 (by omega) (ci := 6) e1_well rfl)) rfl rfl hl.1 rfl (lv_room (Nat.le_of_ble_eq_true rfl)) dX6_hands_2 ⟨Nat.le_of_ble_eq_true rfl, Nat.le_of_ble_eq_true rfl⟩) hS (fun H locs hP hS => ?_)
  refine lv_astore_nN (lv' := [(3, .null), (0, .ref (ad 0)), (1, .int x), (2, .int k)]) hx hb dX6_hands_5 rfl hl (by decide) rfl (fun ls hl => ?_)
  refine lv_aload_nN hx hb dX6_hands_6 rfl (lv_at hl 0 rfl) ?_
  refine lv_ifnonnullN hx hb dX6_hands_7 ?_
  refine lv_iconst (v := (-1)) hx hb dX6_hands_10 (by decide) ?_
  exact xk_iret hx hb hr (vp_nar_int _) X1_ok hK hX hP hS hlk dX6_hands_11 (⟨rfl, hJ⟩)

set_option maxHeartbeats 4000000 in
set_option maxRecDepth 100000 in
theorem a1_hands_ko (l : Launch) {D : va_G} {ca : Nat → ClassId} {ad : Nat → Nat} (hI : Ij ad 34) {σ : Sg} {n p g rn : Nat} {d : Nat → Nat} {th rd : Nat → Nat → Nat} {sl sn : Nat → Nat} {sc : Nat → Nat → Int32} {ft tr : Int32} {x : Nat} {k : Int32} (hJ : I1 n p g rn d th rd sl sn sc ft tr σ) (hxn : x < n) (hko : ¬ (nI 0 ≤ k ∧ k ≤ nI 30)) : C1i l D ca ad yX6_hands wsX6_hands { frames := 3, cells := 0, slots := 0, locals := 84 } [.ref (ad 0), .int (nI x), .int k] σ (fun r σ' => r = -2 ∧ I1 n p g rn d th rd sl sn sc ft tr σ') := by
  refine xk_entry cX6_hands 6 (some .int) (by decide) rfl (Nat.le_of_ble_eq_true rfl) ?_
  intro pP eE sS mM below meth cC hx hb hml hr hts hown hlk hP hK hX hS ls hl
  have hl : lv_has ls 6 [(0, .ref (ad 0)), (1, .int (nI x)), (2, .int k)] := hl
  obtain ⟨hT, hR, hRd, hSh, hnp, hft, htr⟩ := id hJ
  have hn5 := hT.2.2.1
  have hg9 := hT.2.2.2.1
  have hp6 := hR.2.1
  have hrn8 := hRd.2.1
  have hXx := hT.2.2.2.2 x hxn
  obtain ⟨ho0, ho1, ho2, ho3, ho4⟩ := hXx.2
  refine lv_aload_n hx hb dX6_hands_0 rfl (lv_at hl 0 rfl) ?_
  refine lv_iload_n hx hb dX6_hands_1 rfl (lv_at hl 1 rfl) ?_
  refine xk_fa (va_runV (As := [.int (nI x)]) (rest := []) ⟨hx, hb, hml, hown, hts⟩ (k1_thingAt_in l hI (x := x) hT.2.1 hn5 (by omega)) (cwV 1 hts gX6_hands_X6_thingAt rfl rfl rfl (by decide +kernel) ⟨Nat.le_of_ble_eq_true rfl, Nat.le_of_ble_eq_true rfl⟩) (xk_preV X1_ok hK hX hP (xk_recv hK hP 0 (by omega) (ci := 6) e1_well rfl)) rfl rfl hl.1 rfl (lv_room (Nat.le_of_ble_eq_true rfl)) dX6_hands_2 ⟨Nat.le_of_ble_eq_true rfl, Nat.le_of_ble_eq_true rfl⟩) hS (fun H locs hP hS => ?_)
  refine lv_astore_n (lv' := [(3, .ref (ad (9 + x))), (0, .ref (ad 0)), (1, .int (nI x)), (2, .int k)]) hx hb dX6_hands_5 rfl hl (by decide) rfl (fun ls hl => ?_)
  refine lv_aload_n hx hb dX6_hands_6 rfl (lv_at hl 0 rfl) ?_
  refine lv_ifnonnull (tgt := 12) hx hb dX6_hands_7 (by decide) ?_
  refine lv_iload_n hx hb dX6_hands_12 rfl (lv_at hl 3 rfl) ?_
  refine lv_iconst (v := nI 0) hx hb dX6_hands_13 (by decide) ?_
  refine lv_bipush (v := nI 30) hx hb dX6_hands_14 (by decide) ?_
  refine xk_fi (va_runS (As := [.int k, .int (nI 0), .int (nI 30)]) (rest := []) ⟨hx, hb, hml, hown, hts⟩ (k1_within_f l hI k (nI 0) (nI 30) (by assumption)) (va_cwS 3 hts gX6_hands_X6_within rfl rfl rfl (by decide +kernel) ⟨Nat.le_of_ble_eq_true rfl, Nat.le_of_ble_eq_true rfl⟩) (xk_preS X1_ok hK hX hP) rfl rfl hl.1 rfl (lv_room (Nat.le_of_ble_eq_true rfl)) dX6_hands_16 ⟨Nat.le_of_ble_eq_true rfl, Nat.le_of_ble_eq_true rfl⟩) hS (fun H locs hP hS => ?_)
  refine xn_zne (tgt := 25) hx hb dX6_hands_19 (by decide) (by omega) (fun c_19 => absurd c_19 (by omega)) (fun c_19 => ?_)
  refine lv_bipush (v := (-2)) hx hb dX6_hands_22 (by decide) ?_
  exact xk_iret hx hb hr (vp_nar_int _) X1_ok hK hX hP hS hlk dX6_hands_24 (⟨rfl, hJ⟩)

set_option maxRecDepth 20000 in
theorem flX6_hands_32 {s : State} {av : Array Value} (hts : ∀ w ∈ wsX6_hands, w.before av s = true) : (Cond.fieldLink RX6 32 "WellBack" "rota" "LWellBack$Rota;").before av s = true := hts _ (by decide +kernel)
set_option maxRecDepth 20000 in
theorem flX6_hands_52 {s : State} {av : Array Value} (hts : ∀ w ∈ wsX6_hands, w.before av s = true) : (Cond.fieldLink RX6 52 "WellBack" "walk" "LWellBack$Walk;").before av s = true := hts _ (by decide +kernel)
set_option maxRecDepth 20000 in
theorem flX6_hands_148 {s : State} {av : Array Value} (hts : ∀ w ∈ wsX6_hands, w.before av s = true) : (Cond.fieldLink RX6 148 "WellBack$Walk" "holder" "I").before av s = true := hts _ (by decide +kernel)
set_option maxRecDepth 20000 in
theorem inX6_hands_X5 : ∀ w ∈ u_ws RX5 TX5 2, w ∈ wsX6_hands := by decide +kernel
set_option maxRecDepth 20000 in
theorem inX6_hands_X6 : ∀ w ∈ u_ws RX6 TX6 13, w ∈ wsX6_hands := by decide +kernel
set_option maxHeartbeats 4000000 in
set_option maxRecDepth 100000 in
theorem a1_hands_ok (l : Launch) {D : va_G} {ca : Nat → ClassId} {ad : Nat → Nat} (hI : Ij ad 34) {σ : Sg} {n p g rn : Nat} {d : Nat → Nat} {th rd : Nat → Nat → Nat} {sl sn : Nat → Nat} {sc : Nat → Nat → Int32} {ft tr : Int32} {x : Nat} {k : Nat} (hJ : I1 n p g rn d th rd sl sn sc ft tr σ) (hxn : x < n) (hk30 : k ≤ 30) : C1i l D ca ad yX6_hands wsX6_hands { frames := 3, cells := 0, slots := 0, locals := 84 } [.ref (ad 0), .int (nI x), .int (nI k)] σ (fun r σ' => r = wz (wk p d (dl g th x) (th x 2) (th x 4) k) ∧ I1 n p g rn d th rd sl sn sc ft tr σ') := by
  refine xk_entry cX6_hands 6 (some .int) (by decide) rfl (Nat.le_of_ble_eq_true rfl) ?_
  intro pP eE sS mM below meth cC hx hb hml hr hts hown hlk hP hK hX hS ls hl
  have hl : lv_has ls 6 [(0, .ref (ad 0)), (1, .int (nI x)), (2, .int (nI k))] := hl
  obtain ⟨hT, hR, hRd, hSh, hnp, hft, htr⟩ := id hJ
  have hn5 := hT.2.2.1
  have hg9 := hT.2.2.2.1
  have hp6 := hR.2.1
  have hrn8 := hRd.2.1
  have hXx := hT.2.2.2.2 x hxn
  obtain ⟨ho0, ho1, ho2, ho3, ho4⟩ := hXx.2
  have hp0 := hnp.mp (by omega)
  have hdlx : dl g th x ≤ 36 := dly_le hg9 ho1
  refine lv_aload_n hx hb dX6_hands_0 rfl (lv_at hl 0 rfl) ?_
  refine lv_iload_n hx hb dX6_hands_1 rfl (lv_at hl 1 rfl) ?_
  refine xk_fa (va_runV (As := [.int (nI x)]) (rest := []) ⟨hx, hb, hml, hown, hts⟩ (k1_thingAt_in l hI (x := x) hT.2.1 hn5 (by omega)) (cwV 1 hts gX6_hands_X6_thingAt rfl rfl rfl (by decide +kernel) ⟨Nat.le_of_ble_eq_true rfl, Nat.le_of_ble_eq_true rfl⟩) (xk_preV X1_ok hK hX hP (xk_recv hK hP 0 (by omega) (ci := 6) e1_well rfl)) rfl rfl hl.1 rfl (lv_room (Nat.le_of_ble_eq_true rfl)) dX6_hands_2 ⟨Nat.le_of_ble_eq_true rfl, Nat.le_of_ble_eq_true rfl⟩) hS (fun H locs hP hS => ?_)
  refine lv_astore_n (lv' := [(3, .ref (ad (9 + x))), (0, .ref (ad 0)), (1, .int (nI x)), (2, .int (nI k))]) hx hb dX6_hands_5 rfl hl (by decide) rfl (fun ls hl => ?_)
  refine lv_aload_n hx hb dX6_hands_6 rfl (lv_at hl 0 rfl) ?_
  refine lv_ifnonnull (tgt := 12) hx hb dX6_hands_7 (by decide) ?_
  refine lv_iload_n hx hb dX6_hands_12 rfl (lv_at hl 3 rfl) ?_
  refine lv_iconst (v := nI 0) hx hb dX6_hands_13 (by decide) ?_
  refine lv_bipush (v := nI 30) hx hb dX6_hands_14 (by decide) ?_
  refine xk_fi (va_runS (As := [.int (nI k), .int (nI 0), .int (nI 30)]) (rest := []) ⟨hx, hb, hml, hown, hts⟩ (k1_within_t l hI (nI k) (nI 0) (nI 30) (xn_in (by omega) (by omega) (by omega))) (va_cwS 3 hts gX6_hands_X6_within rfl rfl rfl (by decide +kernel) ⟨Nat.le_of_ble_eq_true rfl, Nat.le_of_ble_eq_true rfl⟩) (xk_preS X1_ok hK hX hP) rfl rfl hl.1 rfl (lv_room (Nat.le_of_ble_eq_true rfl)) dX6_hands_16 ⟨Nat.le_of_ble_eq_true rfl, Nat.le_of_ble_eq_true rfl⟩) hS (fun H locs hP hS => ?_)
  refine xn_zne (tgt := 25) hx hb dX6_hands_19 (by decide) (by omega) (fun c_19 => ?_) (fun c_19 => absurd c_19 (by omega))
  refine lv_aload_n hx hb dX6_hands_25 rfl (lv_at hl 1 rfl) ?_
  refine lv_aload_n hx hb dX6_hands_26 rfl (lv_at hl 0 rfl) ?_
  refine xk_fi (va_runV (As := [.ref (ad (9 + x))]) (rest := []) ⟨hx, hb, hml, hown, hts⟩ (k1_delayOf l hI (x := x) hT (by omega)) (cwV 1 hts gX6_hands_X6_delayOf rfl rfl rfl (by decide +kernel) ⟨Nat.le_of_ble_eq_true rfl, Nat.le_of_ble_eq_true rfl⟩) (xk_preV X1_ok hK hX hP (xk_recv hK hP 0 (by omega) (ci := 6) e1_well rfl)) rfl rfl hl.1 rfl (lv_room (Nat.le_of_ble_eq_true rfl)) dX6_hands_27 ⟨Nat.le_of_ble_eq_true rfl, Nat.le_of_ble_eq_true rfl⟩) hS (fun H locs hP hS => ?_)
  have hdl_27 : dl g th x ≤ 36 := dly_le hg9 ho1
  refine lv_istore (lv' := [(4, .int (nI (dl g th x))), (3, .ref (ad (9 + x))), (0, .ref (ad 0)), (1, .int (nI x)), (2, .int (nI k))]) hx hb dX6_hands_30 hl (by decide) rfl (fun ls hl => ?_)
  refine lv_aload_n hx hb dX6_hands_32 rfl (lv_at hl 2 rfl) ?_
  refine xk_get hx hb hts (inX6_hands_X6) hown hK hP 0 (by omega) (ci := 6) e1_well rfl 7 (by decide) (flX6_hands_52 hts) rfl (.ref (ad 30)) rfl dX6_hands_33 ?_
  refine lv_aload_n hx hb dX6_hands_36 rfl (lv_at hl 1 rfl) ?_
  refine xk_fv (va_runV (As := [.ref (ad (9 + x))]) (rest := []) ⟨hx, hb, hml, hown, hts⟩ (k1_beginW l hI (t := 9 + x) (e := th x 2) (h := th x 4) (by omega) (by omega) (hXx.1 2 (by omega)) (hXx.1 4 (by omega))) (cwV 1 hts gX6_hands_X5_begin rfl rfl rfl (by decide +kernel) ⟨Nat.le_of_ble_eq_true rfl, Nat.le_of_ble_eq_true rfl⟩) (xk_preV X1_ok hK hX hP (xk_recv hK hP 30 (by omega) (ci := 5) e1_walk rfl)) rfl rfl hl.1 rfl (lv_room (Nat.le_of_ble_eq_true rfl)) dX6_hands_37 ⟨Nat.le_of_ble_eq_true rfl, Nat.le_of_ble_eq_true rfl⟩) hS (fun H locs hP hS => ?_)
  refine lv_iconst (v := nI 1) hx hb dX6_hands_40 (by decide) ?_
  refine lv_istore (lv' := [(5, .int (nI 1)), (4, .int (nI (dl g th x))), (3, .ref (ad (9 + x))), (0, .ref (ad 0)), (1, .int (nI x)), (2, .int (nI k))]) hx hb dX6_hands_41 hl (by decide) rfl (fun ls hl => ?_)
  have LP_43 : ∀ (n_43 : Nat) (j : Nat) (e : Nat) (h : Nat) (τ : Sg), (1 ≤ j) → (j ≤ k + 1) → (wk p d (dl g th x) (th x 2) (th x 4) (j - 1) = some (e, h)) → (e < 5) → (h ≤ 9 + (j - 1) * 216) → (∀ i, i ≠ 30 → τ i = σ i) → (τ 30 0 = nI e) → (τ 30 1 = nI h) → (k + 1 - j) < n_43 → ∀ (H : Heap) (locs : List Loc) (ls : Array Slot), va_P D vwCl (wl ad 34 (en1 ad ca τ)) H → va_S (AA ad 34) sS.heap H locs → lv_has ls 6 [(0, .ref (ad 0)), (2, .int (nI k)), (4, .int (nI (dl g th x))), (5, .int (nI j))] → Wwi1 pP l eE { frames := 3, cells := 0, slots := 0, locals := 84 } sS mM [.ref (ad 0), .int (nI x), .int (nI k)] below meth cC D ca ad (fun r σ' => r = wz (wk p d (dl g th x) (th x 2) (th x 4) k) ∧ I1 n p g rn d th rd sl sn sc ft tr σ') H locs (F0 mM 43 ls []) := by
    intro n_43
    induction n_43 with
    | zero =>
      intro j e h τ hj1 hj2 hw he hhb hfr he0 hh0 hn_43
      exact absurd hn_43 (Nat.not_lt_zero _)
    | succ n_43 ih_43 =>
      intro j e h τ hj1 hj2 hw he hhb hfr he0 hh0 hn_43 H locs ls hP hS hl
      refine lv_iload hx hb dX6_hands_43 (lv_at hl 3 rfl) ?_
      refine lv_iload_n hx hb dX6_hands_45 rfl (lv_at hl 1 rfl) ?_
      refine xn_igt (tgt := 74) hx hb dX6_hands_46 (by decide) (by omega) (by omega) (fun c_46 => ?_) (fun c_46 => ?_)
      · refine lv_aload_n hx hb dX6_hands_74 rfl (lv_at hl 0 rfl) ?_
        refine xk_get hx hb hts (inX6_hands_X6) hown hK hP 0 (by omega) (ci := 6) e1_well rfl 7 (by decide) (flX6_hands_52 hts) rfl (.ref (ad 30)) rfl dX6_hands_75 ?_
        refine xk_get hx hb hts (inX6_hands_X5) hown hK hP 30 (by omega) (ci := 5) e1_walk rfl 0 (by decide) (flX6_hands_148 hts) rfl (.int (τ 30 0)) rfl dX6_hands_78 ?_
        refine xn_eqi (y := nI e) he0 ?_
        exact xk_iret hx hb hr (vp_nar_int _) X1_ok hK hX hP hS hlk dX6_hands_81 (⟨by rw [show k = j - 1 by omega, hw]; rfl, I1_fr hJ (fun i hi => hfr i (by omega))⟩)
      · refine lv_aload_n hx hb dX6_hands_49 rfl (lv_at hl 0 rfl) ?_
        refine xk_get hx hb hts (inX6_hands_X6) hown hK hP 0 (by omega) (ci := 6) e1_well rfl 7 (by decide) (flX6_hands_52 hts) rfl (.ref (ad 30)) rfl dX6_hands_50 ?_
        refine lv_aload_n hx hb dX6_hands_53 rfl (lv_at hl 0 rfl) ?_
        refine xk_get hx hb hts (inX6_hands_X6) hown hK hP 0 (by omega) (ci := 6) e1_well rfl 3 (by decide) (flX6_hands_32 hts) rfl (.ref (ad 22)) rfl dX6_hands_54 ?_
        refine lv_iload hx hb dX6_hands_57 (lv_at hl 2 rfl) ?_
        have hRt : RotaAt τ 22 p d := RotaAt_fr hR (hfr _ (by omega)) (hfr _ (by omega))
        have hj30 : (j - 1) * 216 ≤ 30 * 216 := Nat.mul_le_mul_right 216 (by omega)
        by_cases q_59 : cta p d e h (dl g th x) p 1 = 0
        · refine xk_fi (va_runV (As := [.ref (ad 22), .int (nI (dl g th x))]) (rest := []) ⟨hx, hb, hml, hown, hts⟩ (k1_goOn_no l hI (d := d) (e := e) (h := h) (y := dl g th x) hRt hp0 he (by omega) he0 hh0 q_59) (cwV 2 hts gX6_hands_X5_goOn rfl rfl rfl (by decide +kernel) ⟨Nat.le_of_ble_eq_true rfl, Nat.le_of_ble_eq_true rfl⟩) (xk_preV X1_ok hK hX hP (xk_recv hK hP 30 (by omega) (ci := 5) e1_walk rfl)) rfl rfl hl.1 rfl (lv_room (Nat.le_of_ble_eq_true rfl)) dX6_hands_59 ⟨Nat.le_of_ble_eq_true rfl, Nat.le_of_ble_eq_true rfl⟩) hS (fun H locs hP hS => ?_)
          have hwn : wk p d (dl g th x) (th x 2) (th x 4) j = none := by rw [show j = (j - 1) + 1 by omega]; exact wk_s0 hw q_59
          have hJt := I1_fr (τ := τ) hJ (fun i hi => hfr i (by omega))
          refine xn_zne (tgt := 68) hx hb dX6_hands_62 (by decide) (by omega) (fun c_62 => absurd c_62 (by omega)) (fun c_62 => ?_)
          refine lv_bipush (v := (-9)) hx hb dX6_hands_65 (by decide) ?_
          exact xk_iret hx hb hr (vp_nar_int _) X1_ok hK hX hP hS hlk dX6_hands_67 (⟨by rw [wk_none' hwn (by omega)]; rfl, hJt⟩)
        · refine xk_fi (va_runV (As := [.ref (ad 22), .int (nI (dl g th x))]) (rest := []) ⟨hx, hb, hml, hown, hts⟩ (k1_goOn_yes l hI (d := d) (e := e) (h := h) (y := dl g th x) hRt hp0 he (by omega) he0 hh0 q_59) (cwV 2 hts gX6_hands_X5_goOn rfl rfl rfl (by decide +kernel) ⟨Nat.le_of_ble_eq_true rfl, Nat.le_of_ble_eq_true rfl⟩) (xk_preV X1_ok hK hX hP (xk_recv hK hP 30 (by omega) (ci := 5) e1_walk rfl)) rfl rfl hl.1 rfl (lv_room (Nat.le_of_ble_eq_true rfl)) dX6_hands_59 ⟨Nat.le_of_ble_eq_true rfl, Nat.le_of_ble_eq_true rfl⟩) hS (fun H locs hP hS => ?_)
          have hw1 := wk_s1 hw q_59
          rw [show j - 1 + 1 = j by omega] at hw1
          have hct := cta_0 hp0 q_59
          have hcm := Nat.mul_le_mul (show cta p d e h (dl g th x) p 1 ≤ 6 by omega) hdlx
          have hd5 := (hR.2.2 _ (Nat.mod_lt (h + cta p d e h (dl g th x) p 1 * dl g th x) hp0)).2
          refine xn_zne (tgt := 68) hx hb dX6_hands_62 (by decide) (by omega) (fun c_62 => ?_) (fun c_62 => absurd c_62 (by omega))
          refine lv_iinc (v := nI (j + 1)) (lv' := [(5, .int (nI (j + 1))), (0, .ref (ad 0)), (2, .int (nI k)), (4, .int (nI (dl g th x)))]) hx hb dX6_hands_68 hl (k := 3) rfl (xn_inc _ 1) (by decide) rfl (fun ls hl => ?_)
          refine lv_goto (tgt := 43) hx hb dX6_hands_71 (by decide) ?_
          exact ih_43 (j + 1) (d ((h + cta p d e h (dl g th x) p 1 * dl g th x) % p)) (h + cta p d e h (dl g th x) p 1 * dl g th x) (up (up τ 30 1 (nI (h + cta p d e h (dl g th x) p 1 * dl g th x))) 30 0 (nI (d ((h + cta p d e h (dl g th x) p 1 * dl g th x) % p)))) (by omega) (by omega) hw1 hd5 (by rw [show j + 1 - 1 = j - 1 + 1 by omega, Nat.succ_mul]; omega) (fun i hi => by rw [up_r hi, up_r hi]; exact hfr i hi) up_s (by rw [up_n (by omega), up_s]) (by omega) _ _ _ hP hS (lv_sub hl [1, 2, 3, 0] rfl)
  exact LP_43 _ 1 (th x 2) (th x 4) (up (up σ 30 0 (nI (th x 2))) 30 1 (nI (th x 4))) (by omega) (by omega) rfl ho2 (by omega) (fun i hi => by rw [up_r hi, up_r hi]) (by rw [up_n (by omega), up_s]) up_s (Nat.lt_succ_self _) _ _ _ hP hS (lv_sub hl [3, 5, 1, 0] rfl)

set_option maxHeartbeats 4000000 in
set_option maxRecDepth 100000 in
theorem a1_home_xo (l : Launch) {D : va_G} {ca : Nat → ClassId} {ad : Nat → Nat} (hI : Ij ad 34) {σ : Sg} {n p g rn : Nat} {d : Nat → Nat} {th rd : Nat → Nat → Nat} {sl sn : Nat → Nat} {sc : Nat → Nat → Int32} {ft tr : Int32} {x : Int32} (hJ : I1 n p g rn d th rd sl sn sc ft tr σ) (hxx : ∀ j, j < n → x ≠ nI j) : C1i l D ca ad yX6_home wsX6_home { frames := 3, cells := 0, slots := 0, locals := 84 } [.ref (ad 0), .int x] σ (fun r σ' => r = -1 ∧ I1 n p g rn d th rd sl sn sc ft tr σ') := by
  refine xk_entry cX6_home 5 (some .int) (by decide) rfl (Nat.le_of_ble_eq_true rfl) ?_
  intro pP eE sS mM below meth cC hx hb hml hr hts hown hlk hP hK hX hS ls hl
  have hl : lv_has ls 5 [(0, .ref (ad 0)), (1, .int x)] := hl
  obtain ⟨hT, hR, hRd, hSh, hnp, hft, htr⟩ := id hJ
  have hn5 := hT.2.2.1
  have hg9 := hT.2.2.2.1
  have hp6 := hR.2.1
  have hrn8 := hRd.2.1
  refine lv_aload_n hx hb dX6_home_0 rfl (lv_at hl 0 rfl) ?_
  refine lv_iload_n hx hb dX6_home_1 rfl (lv_at hl 1 rfl) ?_
  refine xk_fz (va_runV (As := [.int x]) (rest := []) ⟨hx, hb, hml, hown, hts⟩ (k1_thingAt_out l hI (x := x) hT.2.1 hn5 (by assumption)) (cwV 1 hts gX6_home_X6_thingAt rfl rfl rfl (by decide +kernel) ⟨Nat.le_of_ble_eq_true rfl, Nat.le_of_ble_eq_true rfl⟩) (xk_preV X1_ok hK hX hP (xk_recv hK hP 0 (by omega) (ci := 6) e1_well rfl)) rfl rfl hl.1 rfl (lv_room (Nat.le_of_ble_eq_true rfl)) dX6_home_2 ⟨Nat.le_of_ble_eq_true rfl, Nat.le_of_ble_eq_true rfl⟩) hS (fun H locs hP hS => ?_)
  refine lv_astore_nN (lv' := [(2, .null), (0, .ref (ad 0)), (1, .int x)]) hx hb dX6_home_5 rfl hl (by decide) rfl (fun ls hl => ?_)
  refine lv_aload_nN hx hb dX6_home_6 rfl (lv_at hl 0 rfl) ?_
  refine lv_ifnonnullN hx hb dX6_home_7 ?_
  refine lv_iconst (v := (-1)) hx hb dX6_home_10 (by decide) ?_
  exact xk_iret hx hb hr (vp_nar_int _) X1_ok hK hX hP hS hlk dX6_home_11 (⟨rfl, hJ⟩)

set_option maxRecDepth 20000 in
theorem flX6_home_32 {s : State} {av : Array Value} (hts : ∀ w ∈ wsX6_home, w.before av s = true) : (Cond.fieldLink RX6 32 "WellBack" "rota" "LWellBack$Rota;").before av s = true := hts _ (by decide +kernel)
set_option maxRecDepth 20000 in
theorem flX6_home_52 {s : State} {av : Array Value} (hts : ∀ w ∈ wsX6_home, w.before av s = true) : (Cond.fieldLink RX6 52 "WellBack" "walk" "LWellBack$Walk;").before av s = true := hts _ (by decide +kernel)
set_option maxRecDepth 20000 in
theorem flX6_home_103 {s : State} {av : Array Value} (hts : ∀ w ∈ wsX6_home, w.before av s = true) : (Cond.fieldLink RX6 103 "WellBack$Thing" "owner" "I").before av s = true := hts _ (by decide +kernel)
set_option maxRecDepth 20000 in
theorem flX6_home_148 {s : State} {av : Array Value} (hts : ∀ w ∈ wsX6_home, w.before av s = true) : (Cond.fieldLink RX6 148 "WellBack$Walk" "holder" "I").before av s = true := hts _ (by decide +kernel)
set_option maxRecDepth 20000 in
theorem inX6_home_X4 : ∀ w ∈ u_ws RX4 TX4 5, w ∈ wsX6_home := by decide +kernel
set_option maxRecDepth 20000 in
theorem inX6_home_X5 : ∀ w ∈ u_ws RX5 TX5 2, w ∈ wsX6_home := by decide +kernel
set_option maxRecDepth 20000 in
theorem inX6_home_X6 : ∀ w ∈ u_ws RX6 TX6 13, w ∈ wsX6_home := by decide +kernel
set_option maxHeartbeats 4000000 in
set_option maxRecDepth 100000 in
theorem a1_home_ok (l : Launch) {D : va_G} {ca : Nat → ClassId} {ad : Nat → Nat} (hI : Ij ad 34) {σ : Sg} {n p g rn : Nat} {d : Nat → Nat} {th rd : Nat → Nat → Nat} {sl sn : Nat → Nat} {sc : Nat → Nat → Int32} {ft tr : Int32} {x : Nat} (hJ : I1 n p g rn d th rd sl sn sc ft tr σ) (hxn : x < n) : C1i l D ca ad yX6_home wsX6_home { frames := 3, cells := 0, slots := 0, locals := 84 } [.ref (ad 0), .int (nI x)] σ (fun r σ' => r = wF (fun k => decide (wz (wk p d (dl g th x) (th x 2) (th x 4) k) = nI (th x 2))) 30 1 ∧ I1 n p g rn d th rd sl sn sc ft tr σ') := by
  refine xk_entry cX6_home 5 (some .int) (by decide) rfl (Nat.le_of_ble_eq_true rfl) ?_
  intro pP eE sS mM below meth cC hx hb hml hr hts hown hlk hP hK hX hS ls hl
  have hl : lv_has ls 5 [(0, .ref (ad 0)), (1, .int (nI x))] := hl
  obtain ⟨hT, hR, hRd, hSh, hnp, hft, htr⟩ := id hJ
  have hn5 := hT.2.2.1
  have hg9 := hT.2.2.2.1
  have hp6 := hR.2.1
  have hrn8 := hRd.2.1
  have hXx := hT.2.2.2.2 x hxn
  obtain ⟨ho0, ho1, ho2, ho3, ho4⟩ := hXx.2
  have hp0 := hnp.mp (by omega)
  have hdlx : dl g th x ≤ 36 := dly_le hg9 ho1
  refine lv_aload_n hx hb dX6_home_0 rfl (lv_at hl 0 rfl) ?_
  refine lv_iload_n hx hb dX6_home_1 rfl (lv_at hl 1 rfl) ?_
  refine xk_fa (va_runV (As := [.int (nI x)]) (rest := []) ⟨hx, hb, hml, hown, hts⟩ (k1_thingAt_in l hI (x := x) hT.2.1 hn5 (by omega)) (cwV 1 hts gX6_home_X6_thingAt rfl rfl rfl (by decide +kernel) ⟨Nat.le_of_ble_eq_true rfl, Nat.le_of_ble_eq_true rfl⟩) (xk_preV X1_ok hK hX hP (xk_recv hK hP 0 (by omega) (ci := 6) e1_well rfl)) rfl rfl hl.1 rfl (lv_room (Nat.le_of_ble_eq_true rfl)) dX6_home_2 ⟨Nat.le_of_ble_eq_true rfl, Nat.le_of_ble_eq_true rfl⟩) hS (fun H locs hP hS => ?_)
  refine lv_astore_n (lv' := [(2, .ref (ad (9 + x))), (0, .ref (ad 0)), (1, .int (nI x))]) hx hb dX6_home_5 rfl hl (by decide) rfl (fun ls hl => ?_)
  refine lv_aload_n hx hb dX6_home_6 rfl (lv_at hl 0 rfl) ?_
  refine lv_ifnonnull (tgt := 12) hx hb dX6_home_7 (by decide) ?_
  refine lv_aload_n hx hb dX6_home_12 rfl (lv_at hl 1 rfl) ?_
  refine lv_aload_n hx hb dX6_home_13 rfl (lv_at hl 0 rfl) ?_
  refine xk_fi (va_runV (As := [.ref (ad (9 + x))]) (rest := []) ⟨hx, hb, hml, hown, hts⟩ (k1_delayOf l hI (x := x) hT (by omega)) (cwV 1 hts gX6_home_X6_delayOf rfl rfl rfl (by decide +kernel) ⟨Nat.le_of_ble_eq_true rfl, Nat.le_of_ble_eq_true rfl⟩) (xk_preV X1_ok hK hX hP (xk_recv hK hP 0 (by omega) (ci := 6) e1_well rfl)) rfl rfl hl.1 rfl (lv_room (Nat.le_of_ble_eq_true rfl)) dX6_home_14 ⟨Nat.le_of_ble_eq_true rfl, Nat.le_of_ble_eq_true rfl⟩) hS (fun H locs hP hS => ?_)
  have hdl_14 : dl g th x ≤ 36 := dly_le hg9 ho1
  refine lv_istore_n (lv' := [(3, .int (nI (dl g th x))), (2, .ref (ad (9 + x))), (0, .ref (ad 0)), (1, .int (nI x))]) hx hb dX6_home_17 rfl hl (by decide) rfl (fun ls hl => ?_)
  refine lv_aload_n hx hb dX6_home_18 rfl (lv_at hl 2 rfl) ?_
  refine xk_get hx hb hts (inX6_home_X6) hown hK hP 0 (by omega) (ci := 6) e1_well rfl 7 (by decide) (flX6_home_52 hts) rfl (.ref (ad 30)) rfl dX6_home_19 ?_
  refine lv_aload_n hx hb dX6_home_22 rfl (lv_at hl 1 rfl) ?_
  refine xk_fv (va_runV (As := [.ref (ad (9 + x))]) (rest := []) ⟨hx, hb, hml, hown, hts⟩ (k1_beginW l hI (t := 9 + x) (e := th x 2) (h := th x 4) (by omega) (by omega) (hXx.1 2 (by omega)) (hXx.1 4 (by omega))) (cwV 1 hts gX6_home_X5_begin rfl rfl rfl (by decide +kernel) ⟨Nat.le_of_ble_eq_true rfl, Nat.le_of_ble_eq_true rfl⟩) (xk_preV X1_ok hK hX hP (xk_recv hK hP 30 (by omega) (ci := 5) e1_walk rfl)) rfl rfl hl.1 rfl (lv_room (Nat.le_of_ble_eq_true rfl)) dX6_home_23 ⟨Nat.le_of_ble_eq_true rfl, Nat.le_of_ble_eq_true rfl⟩) hS (fun H locs hP hS => ?_)
  refine lv_iconst (v := nI 1) hx hb dX6_home_26 (by decide) ?_
  refine lv_istore (lv' := [(4, .int (nI 1)), (3, .int (nI (dl g th x))), (2, .ref (ad (9 + x))), (0, .ref (ad 0)), (1, .int (nI x))]) hx hb dX6_home_27 hl (by decide) rfl (fun ls hl => ?_)
  have LP_29 : ∀ (n_29 : Nat) (j : Nat) (e : Nat) (h : Nat) (τ : Sg), (1 ≤ j) → (j ≤ 31) → (wF (fun k => decide (wz (wk p d (dl g th x) (th x 2) (th x 4) k) = nI (th x 2))) (31 - j) j = wF (fun k => decide (wz (wk p d (dl g th x) (th x 2) (th x 4) k) = nI (th x 2))) 30 1) → (wk p d (dl g th x) (th x 2) (th x 4) (j - 1) = some (e, h)) → (e < 5) → (h ≤ 9 + (j - 1) * 216) → (∀ i, i ≠ 30 → τ i = σ i) → (τ 30 0 = nI e) → (τ 30 1 = nI h) → (31 - j) < n_29 → ∀ (H : Heap) (locs : List Loc) (ls : Array Slot), va_P D vwCl (wl ad 34 (en1 ad ca τ)) H → va_S (AA ad 34) sS.heap H locs → lv_has ls 5 [(0, .ref (ad 0)), (2, .ref (ad (9 + x))), (3, .int (nI (dl g th x))), (4, .int (nI j))] → Wwi1 pP l eE { frames := 3, cells := 0, slots := 0, locals := 84 } sS mM [.ref (ad 0), .int (nI x)] below meth cC D ca ad (fun r σ' => r = wF (fun k => decide (wz (wk p d (dl g th x) (th x 2) (th x 4) k) = nI (th x 2))) 30 1 ∧ I1 n p g rn d th rd sl sn sc ft tr σ') H locs (F0 mM 29 ls []) := by
    intro n_29
    induction n_29 with
    | zero =>
      intro j e h τ hj1 hj2 hv hw he hhb hfr he0 hh0 hn_29
      exact absurd hn_29 (Nat.not_lt_zero _)
    | succ n_29 ih_29 =>
      intro j e h τ hj1 hj2 hv hw he hhb hfr he0 hh0 hn_29 H locs ls hP hS hl
      refine lv_iload hx hb dX6_home_29 (lv_at hl 3 rfl) ?_
      refine lv_bipush (v := nI 30) hx hb dX6_home_31 (by decide) ?_
      refine xn_igt (tgt := 77) hx hb dX6_home_33 (by decide) (by omega) (by omega) (fun c_33 => ?_) (fun c_33 => ?_)
      · refine lv_bipush (v := (-9)) hx hb dX6_home_77 (by decide) ?_
        exact xk_iret hx hb hr (vp_nar_int _) X1_ok hK hX hP hS hlk dX6_home_79 (⟨by rw [← hv, show 31 - j = 0 by omega]; rfl, I1_fr hJ (fun i hi => hfr i (by omega))⟩)
      · refine lv_aload_n hx hb dX6_home_36 rfl (lv_at hl 0 rfl) ?_
        refine xk_get hx hb hts (inX6_home_X6) hown hK hP 0 (by omega) (ci := 6) e1_well rfl 7 (by decide) (flX6_home_52 hts) rfl (.ref (ad 30)) rfl dX6_home_37 ?_
        refine lv_aload_n hx hb dX6_home_40 rfl (lv_at hl 0 rfl) ?_
        refine xk_get hx hb hts (inX6_home_X6) hown hK hP 0 (by omega) (ci := 6) e1_well rfl 3 (by decide) (flX6_home_32 hts) rfl (.ref (ad 22)) rfl dX6_home_41 ?_
        refine lv_iload_n hx hb dX6_home_44 rfl (lv_at hl 2 rfl) ?_
        have hRt : RotaAt τ 22 p d := RotaAt_fr hR (hfr _ (by omega)) (hfr _ (by omega))
        have hj30 : (j - 1) * 216 ≤ 30 * 216 := Nat.mul_le_mul_right 216 (by omega)
        by_cases q_45 : cta p d e h (dl g th x) p 1 = 0
        · refine xk_fi (va_runV (As := [.ref (ad 22), .int (nI (dl g th x))]) (rest := []) ⟨hx, hb, hml, hown, hts⟩ (k1_goOn_no l hI (d := d) (e := e) (h := h) (y := dl g th x) hRt hp0 he (by omega) he0 hh0 q_45) (cwV 2 hts gX6_home_X5_goOn rfl rfl rfl (by decide +kernel) ⟨Nat.le_of_ble_eq_true rfl, Nat.le_of_ble_eq_true rfl⟩) (xk_preV X1_ok hK hX hP (xk_recv hK hP 30 (by omega) (ci := 5) e1_walk rfl)) rfl rfl hl.1 rfl (lv_room (Nat.le_of_ble_eq_true rfl)) dX6_home_45 ⟨Nat.le_of_ble_eq_true rfl, Nat.le_of_ble_eq_true rfl⟩) hS (fun H locs hP hS => ?_)
          have hwn : wk p d (dl g th x) (th x 2) (th x 4) j = none := by rw [show j = (j - 1) + 1 by omega]; exact wk_s0 hw q_45
          have hJt := I1_fr (τ := τ) hJ (fun i hi => hfr i (by omega))
          refine xn_zne (tgt := 54) hx hb dX6_home_48 (by decide) (by omega) (fun c_48 => absurd c_48 (by omega)) (fun c_48 => ?_)
          refine lv_bipush (v := (-9)) hx hb dX6_home_51 (by decide) ?_
          exact xk_iret hx hb hr (vp_nar_int _) X1_ok hK hX hP hS hlk dX6_home_53 (⟨by rw [← hv]; exact (wF_none _ _ (fun i hi => by simp only [wk_none' hwn hi]; exact decide_eq_false (nI_n9 (by omega)))).symm, hJt⟩)
        · refine xk_fi (va_runV (As := [.ref (ad 22), .int (nI (dl g th x))]) (rest := []) ⟨hx, hb, hml, hown, hts⟩ (k1_goOn_yes l hI (d := d) (e := e) (h := h) (y := dl g th x) hRt hp0 he (by omega) he0 hh0 q_45) (cwV 2 hts gX6_home_X5_goOn rfl rfl rfl (by decide +kernel) ⟨Nat.le_of_ble_eq_true rfl, Nat.le_of_ble_eq_true rfl⟩) (xk_preV X1_ok hK hX hP (xk_recv hK hP 30 (by omega) (ci := 5) e1_walk rfl)) rfl rfl hl.1 rfl (lv_room (Nat.le_of_ble_eq_true rfl)) dX6_home_45 ⟨Nat.le_of_ble_eq_true rfl, Nat.le_of_ble_eq_true rfl⟩) hS (fun H locs hP hS => ?_)
          have hw1 := wk_s1 hw q_45
          rw [show j - 1 + 1 = j by omega] at hw1
          have hct := cta_0 hp0 q_45
          have hcm := Nat.mul_le_mul (show cta p d e h (dl g th x) p 1 ≤ 6 by omega) hdlx
          have hd5 := (hR.2.2 _ (Nat.mod_lt (h + cta p d e h (dl g th x) p 1 * dl g th x) hp0)).2
          refine xn_zne (tgt := 54) hx hb dX6_home_48 (by decide) (by omega) (fun c_48 => ?_) (fun c_48 => absurd c_48 (by omega))
          refine lv_aload_n hx hb dX6_home_54 rfl (lv_at hl 0 rfl) ?_
          refine xk_get hx hb hts (inX6_home_X6) hown hK hP 0 (by omega) (ci := 6) e1_well rfl 7 (by decide) (flX6_home_52 hts) rfl (.ref (ad 30)) rfl dX6_home_55 ?_
          refine xk_get hx hb hts (inX6_home_X5) hown hK hP 30 (by omega) (ci := 5) e1_walk rfl 0 (by decide) (flX6_home_148 hts) rfl (.int ((up (up τ 30 1 (nI (h + cta p d e h (dl g th x) p 1 * dl g th x))) 30 0 (nI (d ((h + cta p d e h (dl g th x) p 1 * dl g th x) % p)))) 30 0)) rfl dX6_home_58 ?_
          refine xn_eqi (y := nI (d ((h + cta p d e h (dl g th x) p 1 * dl g th x) % p))) up_s ?_
          refine lv_aload_n hx hb dX6_home_61 rfl (lv_at hl 1 rfl) ?_
          refine xk_get hx hb hts (inX6_home_X4) hown hK hP (9 + x) (by omega) (ci := 4) (e1_thing (by omega) (by omega)) rfl 2 (by decide) (flX6_home_103 hts) rfl (.int ((up (up τ 30 1 (nI (h + cta p d e h (dl g th x) p 1 * dl g th x))) 30 0 (nI (d ((h + cta p d e h (dl g th x) p 1 * dl g th x) % p)))) (9 + x) 2)) rfl dX6_home_62 ?_
          refine xn_eqi (y := nI (th x 2)) ((up_n (by omega)).trans ((up_n (by omega)).trans (by rw [hfr _ (by omega)]; exact hXx.1 2 (by omega)))) ?_
          refine xn_ine (tgt := 71) hx hb dX6_home_65 (by decide) (by omega) (by omega) (fun c_65 => ?_) (fun c_65 => ?_)
          · refine lv_iinc (v := nI (j + 1)) (lv' := [(4, .int (nI (j + 1))), (0, .ref (ad 0)), (2, .ref (ad (9 + x))), (3, .int (nI (dl g th x)))]) hx hb dX6_home_71 hl (k := 3) rfl (xn_inc _ 1) (by decide) rfl (fun ls hl => ?_)
            refine lv_goto (tgt := 29) hx hb dX6_home_74 (by decide) ?_
            exact ih_29 (j + 1) (d ((h + cta p d e h (dl g th x) p 1 * dl g th x) % p)) (h + cta p d e h (dl g th x) p 1 * dl g th x) (up (up τ 30 1 (nI (h + cta p d e h (dl g th x) p 1 * dl g th x))) 30 0 (nI (d ((h + cta p d e h (dl g th x) p 1 * dl g th x) % p)))) (by omega) (by omega) (by rw [← hv, show 31 - j = (31 - (j + 1)) + 1 by omega]; simp only [wF]; rw [if_neg (by simp only [decide_eq_true_eq]; rw [hw1]; intro q; exact c_65 ((nI_eq (by omega) (by omega)).mp q))]) hw1 hd5 (by rw [show j + 1 - 1 = j - 1 + 1 by omega, Nat.succ_mul]; omega) (fun i hi => by rw [up_r hi, up_r hi]; exact hfr i hi) up_s (by rw [up_n (by omega), up_s]) (by omega) _ _ _ hP hS (lv_sub hl [1, 2, 3, 0] rfl)
          · refine lv_iload hx hb dX6_home_68 (lv_at hl 3 rfl) ?_
            exact xk_iret hx hb hr (vp_nar_int _) X1_ok hK hX hP hS hlk dX6_home_70 (⟨by rw [← hv, show 31 - j = (30 - j) + 1 by omega]; simp only [wF]; rw [if_pos (by simp only [decide_eq_true_eq]; rw [hw1]; exact congrArg nI c_65)], I1_fr hJ (fun i hi => by rw [up_r (by omega), up_r (by omega)]; exact hfr i (by omega))⟩)
  exact LP_29 _ 1 (th x 2) (th x 4) (up (up σ 30 0 (nI (th x 2))) 30 1 (nI (th x 4))) (by omega) (by omega) rfl rfl ho2 (by omega) (fun i hi => by rw [up_r hi, up_r hi]) (by rw [up_n (by omega), up_s]) up_s (Nat.lt_succ_self _) _ _ _ hP hS (lv_sub hl [3, 2, 1, 0] rfl)

set_option maxHeartbeats 4000000 in
set_option maxRecDepth 100000 in
theorem a1_meets_xo (l : Launch) {D : va_G} {ca : Nat → ClassId} {ad : Nat → Nat} (hI : Ij ad 34) {σ : Sg} {n p g rn : Nat} {d : Nat → Nat} {th rd : Nat → Nat → Nat} {sl sn : Nat → Nat} {sc : Nat → Nat → Int32} {ft tr : Int32} {x : Int32} (hJ : I1 n p g rn d th rd sl sn sc ft tr σ) (hxx : ∀ j, j < n → x ≠ nI j) : C1i l D ca ad yX6_meets wsX6_meets { frames := 3, cells := 0, slots := 0, locals := 84 } [.ref (ad 0), .int x] σ (fun r σ' => r = -1 ∧ I1 n p g rn d th rd sl sn sc ft tr σ') := by
  refine xk_entry cX6_meets 6 (some .int) (by decide) rfl (Nat.le_of_ble_eq_true rfl) ?_
  intro pP eE sS mM below meth cC hx hb hml hr hts hown hlk hP hK hX hS ls hl
  have hl : lv_has ls 6 [(0, .ref (ad 0)), (1, .int x)] := hl
  obtain ⟨hT, hR, hRd, hSh, hnp, hft, htr⟩ := id hJ
  have hn5 := hT.2.2.1
  have hg9 := hT.2.2.2.1
  have hp6 := hR.2.1
  have hrn8 := hRd.2.1
  refine lv_aload_n hx hb dX6_meets_0 rfl (lv_at hl 0 rfl) ?_
  refine lv_iload_n hx hb dX6_meets_1 rfl (lv_at hl 1 rfl) ?_
  refine xk_fz (va_runV (As := [.int x]) (rest := []) ⟨hx, hb, hml, hown, hts⟩ (k1_thingAt_out l hI (x := x) hT.2.1 hn5 (by assumption)) (cwV 1 hts gX6_meets_X6_thingAt rfl rfl rfl (by decide +kernel) ⟨Nat.le_of_ble_eq_true rfl, Nat.le_of_ble_eq_true rfl⟩) (xk_preV X1_ok hK hX hP (xk_recv hK hP 0 (by omega) (ci := 6) e1_well rfl)) rfl rfl hl.1 rfl (lv_room (Nat.le_of_ble_eq_true rfl)) dX6_meets_2 ⟨Nat.le_of_ble_eq_true rfl, Nat.le_of_ble_eq_true rfl⟩) hS (fun H locs hP hS => ?_)
  refine lv_astore_nN (lv' := [(2, .null), (0, .ref (ad 0)), (1, .int x)]) hx hb dX6_meets_5 rfl hl (by decide) rfl (fun ls hl => ?_)
  refine lv_aload_nN hx hb dX6_meets_6 rfl (lv_at hl 0 rfl) ?_
  refine lv_ifnonnullN hx hb dX6_meets_7 ?_
  refine lv_iconst (v := (-1)) hx hb dX6_meets_10 (by decide) ?_
  exact xk_iret hx hb hr (vp_nar_int _) X1_ok hK hX hP hS hlk dX6_meets_11 (⟨rfl, hJ⟩)

set_option maxRecDepth 20000 in
theorem flX6_meets_32 {s : State} {av : Array Value} (hts : ∀ w ∈ wsX6_meets, w.before av s = true) : (Cond.fieldLink RX6 32 "WellBack" "rota" "LWellBack$Rota;").before av s = true := hts _ (by decide +kernel)
set_option maxRecDepth 20000 in
theorem flX6_meets_52 {s : State} {av : Array Value} (hts : ∀ w ∈ wsX6_meets, w.before av s = true) : (Cond.fieldLink RX6 52 "WellBack" "walk" "LWellBack$Walk;").before av s = true := hts _ (by decide +kernel)
set_option maxRecDepth 20000 in
theorem flX6_meets_148 {s : State} {av : Array Value} (hts : ∀ w ∈ wsX6_meets, w.before av s = true) : (Cond.fieldLink RX6 148 "WellBack$Walk" "holder" "I").before av s = true := hts _ (by decide +kernel)
set_option maxRecDepth 20000 in
theorem inX6_meets_X5 : ∀ w ∈ u_ws RX5 TX5 2, w ∈ wsX6_meets := by decide +kernel
set_option maxRecDepth 20000 in
theorem inX6_meets_X6 : ∀ w ∈ u_ws RX6 TX6 13, w ∈ wsX6_meets := by decide +kernel
set_option maxHeartbeats 4000000 in
set_option maxRecDepth 100000 in
theorem a1_meets_ok (l : Launch) {D : va_G} {ca : Nat → ClassId} {ad : Nat → Nat} (hI : Ij ad 34) {σ : Sg} {n p g rn : Nat} {d : Nat → Nat} {th rd : Nat → Nat → Nat} {sl sn : Nat → Nat} {sc : Nat → Nat → Int32} {ft tr : Int32} {x : Nat} (hJ : I1 n p g rn d th rd sl sn sc ft tr σ) (hxn : x < n) : C1i l D ca ad yX6_meets wsX6_meets { frames := 3, cells := 0, slots := 0, locals := 84 } [.ref (ad 0), .int (nI x)] σ (fun r σ' => r = mtF (wk p d (dl g th x) (th x 2) (th x 4)) 31 ∧ I1 n p g rn d th rd sl sn sc ft tr σ') := by
  refine xk_entry cX6_meets 6 (some .int) (by decide) rfl (Nat.le_of_ble_eq_true rfl) ?_
  intro pP eE sS mM below meth cC hx hb hml hr hts hown hlk hP hK hX hS ls hl
  have hl : lv_has ls 6 [(0, .ref (ad 0)), (1, .int (nI x))] := hl
  obtain ⟨hT, hR, hRd, hSh, hnp, hft, htr⟩ := id hJ
  have hn5 := hT.2.2.1
  have hg9 := hT.2.2.2.1
  have hp6 := hR.2.1
  have hrn8 := hRd.2.1
  have hXx := hT.2.2.2.2 x hxn
  obtain ⟨ho0, ho1, ho2, ho3, ho4⟩ := hXx.2
  have hp0 := hnp.mp (by omega)
  have hdlx : dl g th x ≤ 36 := dly_le hg9 ho1
  refine lv_aload_n hx hb dX6_meets_0 rfl (lv_at hl 0 rfl) ?_
  refine lv_iload_n hx hb dX6_meets_1 rfl (lv_at hl 1 rfl) ?_
  refine xk_fa (va_runV (As := [.int (nI x)]) (rest := []) ⟨hx, hb, hml, hown, hts⟩ (k1_thingAt_in l hI (x := x) hT.2.1 hn5 (by omega)) (cwV 1 hts gX6_meets_X6_thingAt rfl rfl rfl (by decide +kernel) ⟨Nat.le_of_ble_eq_true rfl, Nat.le_of_ble_eq_true rfl⟩) (xk_preV X1_ok hK hX hP (xk_recv hK hP 0 (by omega) (ci := 6) e1_well rfl)) rfl rfl hl.1 rfl (lv_room (Nat.le_of_ble_eq_true rfl)) dX6_meets_2 ⟨Nat.le_of_ble_eq_true rfl, Nat.le_of_ble_eq_true rfl⟩) hS (fun H locs hP hS => ?_)
  refine lv_astore_n (lv' := [(2, .ref (ad (9 + x))), (0, .ref (ad 0)), (1, .int (nI x))]) hx hb dX6_meets_5 rfl hl (by decide) rfl (fun ls hl => ?_)
  refine lv_aload_n hx hb dX6_meets_6 rfl (lv_at hl 0 rfl) ?_
  refine lv_ifnonnull (tgt := 12) hx hb dX6_meets_7 (by decide) ?_
  refine lv_aload_n hx hb dX6_meets_12 rfl (lv_at hl 1 rfl) ?_
  refine lv_aload_n hx hb dX6_meets_13 rfl (lv_at hl 0 rfl) ?_
  refine xk_fi (va_runV (As := [.ref (ad (9 + x))]) (rest := []) ⟨hx, hb, hml, hown, hts⟩ (k1_delayOf l hI (x := x) hT (by omega)) (cwV 1 hts gX6_meets_X6_delayOf rfl rfl rfl (by decide +kernel) ⟨Nat.le_of_ble_eq_true rfl, Nat.le_of_ble_eq_true rfl⟩) (xk_preV X1_ok hK hX hP (xk_recv hK hP 0 (by omega) (ci := 6) e1_well rfl)) rfl rfl hl.1 rfl (lv_room (Nat.le_of_ble_eq_true rfl)) dX6_meets_14 ⟨Nat.le_of_ble_eq_true rfl, Nat.le_of_ble_eq_true rfl⟩) hS (fun H locs hP hS => ?_)
  have hdl_14 : dl g th x ≤ 36 := dly_le hg9 ho1
  refine lv_istore_n (lv' := [(3, .int (nI (dl g th x))), (2, .ref (ad (9 + x))), (0, .ref (ad 0)), (1, .int (nI x))]) hx hb dX6_meets_17 rfl hl (by decide) rfl (fun ls hl => ?_)
  refine lv_aload_n hx hb dX6_meets_18 rfl (lv_at hl 2 rfl) ?_
  refine xk_get hx hb hts (inX6_meets_X6) hown hK hP 0 (by omega) (ci := 6) e1_well rfl 7 (by decide) (flX6_meets_52 hts) rfl (.ref (ad 30)) rfl dX6_meets_19 ?_
  refine lv_aload_n hx hb dX6_meets_22 rfl (lv_at hl 1 rfl) ?_
  refine xk_fv (va_runV (As := [.ref (ad (9 + x))]) (rest := []) ⟨hx, hb, hml, hown, hts⟩ (k1_beginW l hI (t := 9 + x) (e := th x 2) (h := th x 4) (by omega) (by omega) (hXx.1 2 (by omega)) (hXx.1 4 (by omega))) (cwV 1 hts gX6_meets_X5_begin rfl rfl rfl (by decide +kernel) ⟨Nat.le_of_ble_eq_true rfl, Nat.le_of_ble_eq_true rfl⟩) (xk_preV X1_ok hK hX hP (xk_recv hK hP 30 (by omega) (ci := 5) e1_walk rfl)) rfl rfl hl.1 rfl (lv_room (Nat.le_of_ble_eq_true rfl)) dX6_meets_23 ⟨Nat.le_of_ble_eq_true rfl, Nat.le_of_ble_eq_true rfl⟩) hS (fun H locs hP hS => ?_)
  refine lv_iconst (v := nI 1) hx hb dX6_meets_26 (by decide) ?_
  refine lv_aload_n hx hb dX6_meets_27 rfl (lv_at hl 2 rfl) ?_
  refine xk_get hx hb hts (inX6_meets_X6) hown hK hP 0 (by omega) (ci := 6) e1_well rfl 7 (by decide) (flX6_meets_52 hts) rfl (.ref (ad 30)) rfl dX6_meets_28 ?_
  refine xk_get hx hb hts (inX6_meets_X5) hown hK hP 30 (by omega) (ci := 5) e1_walk rfl 0 (by decide) (flX6_meets_148 hts) rfl (.int ((up (up σ 30 0 (nI (th x 2))) 30 1 (nI (th x 4))) 30 0)) rfl dX6_meets_31 ?_
  refine xn_eqi (y := nI (th x 2)) ((up_n (by omega)).trans up_s) ?_
  refine lv_ishl hx hb dX6_meets_34 ?_
  refine xn_eqi (y := mtF (wk p d (dl g th x) (th x 2) (th x 4)) 1) (by rw [mtF_some (f := wk p d (dl g th x) (th x 2) (th x 4)) (j := 0) (e := th x 2) (h := th x 4) rfl]; exact (Int32.zero_or).symm) ?_
  refine lv_istore (lv' := [(4, .int (mtF (wk p d (dl g th x) (th x 2) (th x 4)) 1)), (3, .int (nI (dl g th x))), (2, .ref (ad (9 + x))), (0, .ref (ad 0)), (1, .int (nI x))]) hx hb dX6_meets_35 hl (by decide) rfl (fun ls hl => ?_)
  refine lv_iconst (v := nI 1) hx hb dX6_meets_37 (by decide) ?_
  refine lv_istore (lv' := [(5, .int (nI 1)), (4, .int (mtF (wk p d (dl g th x) (th x 2) (th x 4)) 1)), (3, .int (nI (dl g th x))), (2, .ref (ad (9 + x))), (0, .ref (ad 0)), (1, .int (nI x))]) hx hb dX6_meets_38 hl (by decide) rfl (fun ls hl => ?_)
  have LP_40 : ∀ (n_40 : Nat) (j : Nat) (e : Nat) (h : Nat) (τ : Sg), (1 ≤ j) → (j ≤ 31) → (wk p d (dl g th x) (th x 2) (th x 4) (j - 1) = some (e, h)) → (e < 5) → (h ≤ 9 + (j - 1) * 216) → (∀ i, i ≠ 30 → τ i = σ i) → (τ 30 0 = nI e) → (τ 30 1 = nI h) → (31 - j) < n_40 → ∀ (H : Heap) (locs : List Loc) (ls : Array Slot), va_P D vwCl (wl ad 34 (en1 ad ca τ)) H → va_S (AA ad 34) sS.heap H locs → lv_has ls 6 [(0, .ref (ad 0)), (3, .int (nI (dl g th x))), (4, .int (mtF (wk p d (dl g th x) (th x 2) (th x 4)) j)), (5, .int (nI j))] → Wwi1 pP l eE { frames := 3, cells := 0, slots := 0, locals := 84 } sS mM [.ref (ad 0), .int (nI x)] below meth cC D ca ad (fun r σ' => r = mtF (wk p d (dl g th x) (th x 2) (th x 4)) 31 ∧ I1 n p g rn d th rd sl sn sc ft tr σ') H locs (F0 mM 40 ls []) := by
    intro n_40
    induction n_40 with
    | zero =>
      intro j e h τ hj1 hj2 hw he hhb hfr he0 hh0 hn_40
      exact absurd hn_40 (Nat.not_lt_zero _)
    | succ n_40 ih_40 =>
      intro j e h τ hj1 hj2 hw he hhb hfr he0 hh0 hn_40 H locs ls hP hS hl
      refine lv_iload hx hb dX6_meets_40 (lv_at hl 3 rfl) ?_
      refine lv_bipush (v := nI 30) hx hb dX6_meets_42 (by decide) ?_
      refine xn_igt (tgt := 85) hx hb dX6_meets_44 (by decide) (by omega) (by omega) (fun c_44 => ?_) (fun c_44 => ?_)
      · refine lv_iload hx hb dX6_meets_85 (lv_at hl 2 rfl) ?_
        exact xk_iret hx hb hr (vp_nar_int _) X1_ok hK hX hP hS hlk dX6_meets_87 (⟨by rw [show j = 31 by omega], I1_fr hJ (fun i hi => hfr i (by omega))⟩)
      · refine lv_aload_n hx hb dX6_meets_47 rfl (lv_at hl 0 rfl) ?_
        refine xk_get hx hb hts (inX6_meets_X6) hown hK hP 0 (by omega) (ci := 6) e1_well rfl 7 (by decide) (flX6_meets_52 hts) rfl (.ref (ad 30)) rfl dX6_meets_48 ?_
        refine lv_aload_n hx hb dX6_meets_51 rfl (lv_at hl 0 rfl) ?_
        refine xk_get hx hb hts (inX6_meets_X6) hown hK hP 0 (by omega) (ci := 6) e1_well rfl 3 (by decide) (flX6_meets_32 hts) rfl (.ref (ad 22)) rfl dX6_meets_52 ?_
        refine lv_iload_n hx hb dX6_meets_55 rfl (lv_at hl 1 rfl) ?_
        have hRt : RotaAt τ 22 p d := RotaAt_fr hR (hfr _ (by omega)) (hfr _ (by omega))
        have hj30 : (j - 1) * 216 ≤ 30 * 216 := Nat.mul_le_mul_right 216 (by omega)
        by_cases q_56 : cta p d e h (dl g th x) p 1 = 0
        · refine xk_fi (va_runV (As := [.ref (ad 22), .int (nI (dl g th x))]) (rest := []) ⟨hx, hb, hml, hown, hts⟩ (k1_goOn_no l hI (d := d) (e := e) (h := h) (y := dl g th x) hRt hp0 he (by omega) he0 hh0 q_56) (cwV 2 hts gX6_meets_X5_goOn rfl rfl rfl (by decide +kernel) ⟨Nat.le_of_ble_eq_true rfl, Nat.le_of_ble_eq_true rfl⟩) (xk_preV X1_ok hK hX hP (xk_recv hK hP 30 (by omega) (ci := 5) e1_walk rfl)) rfl rfl hl.1 rfl (lv_room (Nat.le_of_ble_eq_true rfl)) dX6_meets_56 ⟨Nat.le_of_ble_eq_true rfl, Nat.le_of_ble_eq_true rfl⟩) hS (fun H locs hP hS => ?_)
          have hwn : wk p d (dl g th x) (th x 2) (th x 4) j = none := by rw [show j = (j - 1) + 1 by omega]; exact wk_s0 hw q_56
          have hJt := I1_fr (τ := τ) hJ (fun i hi => hfr i (by omega))
          refine xn_zne (tgt := 65) hx hb dX6_meets_59 (by decide) (by omega) (fun c_59 => absurd c_59 (by omega)) (fun c_59 => ?_)
          refine lv_iload hx hb dX6_meets_62 (lv_at hl 2 rfl) ?_
          exact xk_iret hx hb hr (vp_nar_int _) X1_ok hK hX hP hS hlk dX6_meets_64 (⟨by rw [show 31 = j + (31 - j) by omega]; exact (mtF_none (fun i hi => wk_none' hwn hi) _).symm, hJt⟩)
        · refine xk_fi (va_runV (As := [.ref (ad 22), .int (nI (dl g th x))]) (rest := []) ⟨hx, hb, hml, hown, hts⟩ (k1_goOn_yes l hI (d := d) (e := e) (h := h) (y := dl g th x) hRt hp0 he (by omega) he0 hh0 q_56) (cwV 2 hts gX6_meets_X5_goOn rfl rfl rfl (by decide +kernel) ⟨Nat.le_of_ble_eq_true rfl, Nat.le_of_ble_eq_true rfl⟩) (xk_preV X1_ok hK hX hP (xk_recv hK hP 30 (by omega) (ci := 5) e1_walk rfl)) rfl rfl hl.1 rfl (lv_room (Nat.le_of_ble_eq_true rfl)) dX6_meets_56 ⟨Nat.le_of_ble_eq_true rfl, Nat.le_of_ble_eq_true rfl⟩) hS (fun H locs hP hS => ?_)
          have hw1 := wk_s1 hw q_56
          rw [show j - 1 + 1 = j by omega] at hw1
          have hct := cta_0 hp0 q_56
          have hcm := Nat.mul_le_mul (show cta p d e h (dl g th x) p 1 ≤ 6 by omega) hdlx
          have hd5 := (hR.2.2 _ (Nat.mod_lt (h + cta p d e h (dl g th x) p 1 * dl g th x) hp0)).2
          refine xn_zne (tgt := 65) hx hb dX6_meets_59 (by decide) (by omega) (fun c_59 => ?_) (fun c_59 => absurd c_59 (by omega))
          refine lv_iload hx hb dX6_meets_65 (lv_at hl 2 rfl) ?_
          refine lv_iconst (v := nI 1) hx hb dX6_meets_67 (by decide) ?_
          refine lv_aload_n hx hb dX6_meets_68 rfl (lv_at hl 0 rfl) ?_
          refine xk_get hx hb hts (inX6_meets_X6) hown hK hP 0 (by omega) (ci := 6) e1_well rfl 7 (by decide) (flX6_meets_52 hts) rfl (.ref (ad 30)) rfl dX6_meets_69 ?_
          refine xk_get hx hb hts (inX6_meets_X5) hown hK hP 30 (by omega) (ci := 5) e1_walk rfl 0 (by decide) (flX6_meets_148 hts) rfl (.int ((up (up τ 30 1 (nI (h + cta p d e h (dl g th x) p 1 * dl g th x))) 30 0 (nI (d ((h + cta p d e h (dl g th x) p 1 * dl g th x) % p)))) 30 0)) rfl dX6_meets_72 ?_
          refine xn_eqi (y := nI (d ((h + cta p d e h (dl g th x) p 1 * dl g th x) % p))) up_s ?_
          refine lv_ishl hx hb dX6_meets_75 ?_
          refine lv_ior hx hb dX6_meets_76 ?_
          refine lv_istore (lv' := [(4, .int ((mtF (wk p d (dl g th x) (th x 2) (th x 4)) j) ||| ((nI 1) <<< ((nI (d ((h + cta p d e h (dl g th x) p 1 * dl g th x) % p))) &&& 31)))), (0, .ref (ad 0)), (3, .int (nI (dl g th x))), (5, .int (nI j))]) hx hb dX6_meets_77 hl (by decide) rfl (fun ls hl => ?_)
          refine lv_iinc (v := nI (j + 1)) (lv' := [(5, .int (nI (j + 1))), (4, .int ((mtF (wk p d (dl g th x) (th x 2) (th x 4)) j) ||| ((nI 1) <<< ((nI (d ((h + cta p d e h (dl g th x) p 1 * dl g th x) % p))) &&& 31)))), (0, .ref (ad 0)), (3, .int (nI (dl g th x)))]) hx hb dX6_meets_79 hl (k := 3) rfl (xn_inc _ 1) (by decide) rfl (fun ls hl => ?_)
          refine lv_goto (tgt := 40) hx hb dX6_meets_82 (by decide) ?_
          rw [← mtF_some (f := wk p d (dl g th x) (th x 2) (th x 4)) (j := j) hw1] at hl
          exact ih_40 (j + 1) (d ((h + cta p d e h (dl g th x) p 1 * dl g th x) % p)) (h + cta p d e h (dl g th x) p 1 * dl g th x) (up (up τ 30 1 (nI (h + cta p d e h (dl g th x) p 1 * dl g th x))) 30 0 (nI (d ((h + cta p d e h (dl g th x) p 1 * dl g th x) % p)))) (by omega) (by omega) hw1 hd5 (by rw [show j + 1 - 1 = j - 1 + 1 by omega, Nat.succ_mul]; omega) (fun i hi => by rw [up_r hi, up_r hi]; exact hfr i hi) up_s (by rw [up_n (by omega), up_s]) (by omega) _ _ _ hP hS (lv_sub hl [2, 3, 1, 0] rfl)
  exact LP_40 _ 1 (th x 2) (th x 4) (up (up σ 30 0 (nI (th x 2))) 30 1 (nI (th x 4))) (by omega) (by omega) rfl ho2 (by omega) (fun i hi => by rw [up_r hi, up_r hi]) (by rw [up_n (by omega), up_s]) up_s (Nat.lt_succ_self _) _ _ _ hP hS (lv_sub hl [4, 2, 1, 0] rfl)

set_option maxHeartbeats 4000000 in
set_option maxRecDepth 100000 in
theorem a1_weights_xo (l : Launch) {D : va_G} {ca : Nat → ClassId} {ad : Nat → Nat} (hI : Ij ad 34) {σ : Sg} {n p g rn : Nat} {d : Nat → Nat} {th rd : Nat → Nat → Nat} {sl sn : Nat → Nat} {sc : Nat → Nat → Int32} {ft tr : Int32} {x : Int32} (hJ : I1 n p g rn d th rd sl sn sc ft tr σ) (hxx : ∀ j, j < n → x ≠ nI j) : C1i l D ca ad yX6_weights wsX6_weights { frames := 4, cells := 0, slots := 0, locals := 97 } [.ref (ad 0), .int x] σ (fun r σ' => r = -1 ∧ I1 n p g rn d th rd sl sn sc ft tr σ') := by
  refine xk_entry cX6_weights 5 (some .int) (by decide) rfl (Nat.le_of_ble_eq_true rfl) ?_
  intro pP eE sS mM below meth cC hx hb hml hr hts hown hlk hP hK hX hS ls hl
  have hl : lv_has ls 5 [(0, .ref (ad 0)), (1, .int x)] := hl
  obtain ⟨hT, hR, hRd, hSh, hnp, hft, htr⟩ := id hJ
  have hn5 := hT.2.2.1
  have hg9 := hT.2.2.2.1
  have hp6 := hR.2.1
  have hrn8 := hRd.2.1
  refine lv_aload_n hx hb dX6_weights_0 rfl (lv_at hl 0 rfl) ?_
  refine lv_iload_n hx hb dX6_weights_1 rfl (lv_at hl 1 rfl) ?_
  refine xk_fz (va_runV (As := [.int x]) (rest := []) ⟨hx, hb, hml, hown, hts⟩ (k1_thingAt_out l hI (x := x) hT.2.1 hn5 (by assumption)) (cwV 1 hts gX6_weights_X6_thingAt rfl rfl rfl (by decide +kernel) ⟨Nat.le_of_ble_eq_true rfl, Nat.le_of_ble_eq_true rfl⟩) (xk_preV X1_ok hK hX hP (xk_recv hK hP 0 (by omega) (ci := 6) e1_well rfl)) rfl rfl hl.1 rfl (lv_room (Nat.le_of_ble_eq_true rfl)) dX6_weights_2 ⟨Nat.le_of_ble_eq_true rfl, Nat.le_of_ble_eq_true rfl⟩) hS (fun H locs hP hS => ?_)
  refine lv_astore_nN (lv' := [(2, .null), (0, .ref (ad 0)), (1, .int x)]) hx hb dX6_weights_5 rfl hl (by decide) rfl (fun ls hl => ?_)
  refine lv_aload_nN hx hb dX6_weights_6 rfl (lv_at hl 0 rfl) ?_
  refine lv_ifnonnullN hx hb dX6_weights_7 ?_
  refine lv_iconst (v := (-1)) hx hb dX6_weights_10 (by decide) ?_
  exact xk_iret hx hb hr (vp_nar_int _) X1_ok hK hX hP hS hlk dX6_weights_11 (⟨rfl, hJ⟩)

set_option maxRecDepth 20000 in
theorem flX6_weights_97 {s : State} {av : Array Value} (hts : ∀ w ∈ wsX6_weights, w.before av s = true) : (Cond.fieldLink RX6 97 "WellBack$Thing" "kind" "I").before av s = true := hts _ (by decide +kernel)
set_option maxRecDepth 20000 in
theorem flX6_weights_123 {s : State} {av : Array Value} (hts : ∀ w ∈ wsX6_weights, w.before av s = true) : (Cond.fieldLink RX6 123 "WellBack" "depth" "I").before av s = true := hts _ (by decide +kernel)
set_option maxRecDepth 20000 in
theorem inX6_weights_X4 : ∀ w ∈ u_ws RX4 TX4 5, w ∈ wsX6_weights := by decide +kernel
set_option maxRecDepth 20000 in
theorem inX6_weights_X6 : ∀ w ∈ u_ws RX6 TX6 13, w ∈ wsX6_weights := by decide +kernel
set_option maxHeartbeats 4000000 in
set_option maxRecDepth 100000 in
theorem a1_weights_ok (l : Launch) {D : va_G} {ca : Nat → ClassId} {ad : Nat → Nat} (hI : Ij ad 34) {σ : Sg} {n p g rn : Nat} {d : Nat → Nat} {th rd : Nat → Nat → Nat} {sl sn : Nat → Nat} {sc : Nat → Nat → Int32} {ft tr : Int32} {x : Nat} (hJ : I1 n p g rn d th rd sl sn sc ft tr σ) (hxn : x < n) : C1i l D ca ad yX6_weights wsX6_weights { frames := 4, cells := 0, slots := 0, locals := 97 } [.ref (ad 0), .int (nI x)] σ (fun r σ' => r = sbt (fun v => decide (areSo p d g (sth th (nI x) (th x 0) v) rn rd)) 10 ∧ I1 n p g rn d th rd sl sn sc ft tr σ') := by
  refine xk_entry cX6_weights 5 (some .int) (by decide) rfl (Nat.le_of_ble_eq_true rfl) ?_
  intro pP eE sS mM below meth cC hx hb hml hr hts hown hlk hP hK hX hS ls hl
  have hl : lv_has ls 5 [(0, .ref (ad 0)), (1, .int (nI x))] := hl
  obtain ⟨hT, hR, hRd, hSh, hnp, hft, htr⟩ := id hJ
  have hn5 := hT.2.2.1
  have hg9 := hT.2.2.2.1
  have hp6 := hR.2.1
  have hrn8 := hRd.2.1
  have hXx := hT.2.2.2.2 x hxn
  obtain ⟨ho0, ho1, ho2, ho3, ho4⟩ := hXx.2
  have hp0 := hnp.mp (by omega)
  refine lv_aload_n hx hb dX6_weights_0 rfl (lv_at hl 0 rfl) ?_
  refine lv_iload_n hx hb dX6_weights_1 rfl (lv_at hl 1 rfl) ?_
  refine xk_fa (va_runV (As := [.int (nI x)]) (rest := []) ⟨hx, hb, hml, hown, hts⟩ (k1_thingAt_in l hI (x := x) hT.2.1 hn5 (by omega)) (cwV 1 hts gX6_weights_X6_thingAt rfl rfl rfl (by decide +kernel) ⟨Nat.le_of_ble_eq_true rfl, Nat.le_of_ble_eq_true rfl⟩) (xk_preV X1_ok hK hX hP (xk_recv hK hP 0 (by omega) (ci := 6) e1_well rfl)) rfl rfl hl.1 rfl (lv_room (Nat.le_of_ble_eq_true rfl)) dX6_weights_2 ⟨Nat.le_of_ble_eq_true rfl, Nat.le_of_ble_eq_true rfl⟩) hS (fun H locs hP hS => ?_)
  refine lv_astore_n (lv' := [(2, .ref (ad (9 + x))), (0, .ref (ad 0)), (1, .int (nI x))]) hx hb dX6_weights_5 rfl hl (by decide) rfl (fun ls hl => ?_)
  refine lv_aload_n hx hb dX6_weights_6 rfl (lv_at hl 0 rfl) ?_
  refine lv_ifnonnull (tgt := 12) hx hb dX6_weights_7 (by decide) ?_
  refine lv_iconst (v := nI 0) hx hb dX6_weights_12 (by decide) ?_
  refine lv_istore_n (lv' := [(3, .int (nI 0)), (2, .ref (ad (9 + x))), (0, .ref (ad 0)), (1, .int (nI x))]) hx hb dX6_weights_13 rfl hl (by decide) rfl (fun ls hl => ?_)
  refine lv_iconst (v := nI 0) hx hb dX6_weights_14 (by decide) ?_
  refine lv_istore (lv' := [(4, .int (nI 0)), (3, .int (nI 0)), (2, .ref (ad (9 + x))), (0, .ref (ad 0)), (1, .int (nI x))]) hx hb dX6_weights_15 hl (by decide) rfl (fun ls hl => ?_)
  have LP_17 : ∀ (n_17 : Nat) (v : Nat), (v ≤ 10) → (10 - v) < n_17 → ∀ (H : Heap) (locs : List Loc) (ls : Array Slot), va_P D vwCl (wl ad 34 (en1 ad ca σ)) H → va_S (AA ad 34) sS.heap H locs → lv_has ls 5 [(0, .ref (ad 0)), (1, .int (nI x)), (2, .ref (ad (9 + x))), (3, .int (sbt (fun v => decide (areSo p d g (sth th (nI x) (th x 0) v) rn rd)) v)), (4, .int (nI v))] → Wwi1 pP l eE { frames := 4, cells := 0, slots := 0, locals := 97 } sS mM [.ref (ad 0), .int (nI x)] below meth cC D ca ad (fun r σ' => r = sbt (fun v => decide (areSo p d g (sth th (nI x) (th x 0) v) rn rd)) 10 ∧ I1 n p g rn d th rd sl sn sc ft tr σ') H locs (F0 mM 17 ls []) := by
    intro n_17
    induction n_17 with
    | zero =>
      intro v hv0 hn_17
      exact absurd hn_17 (Nat.not_lt_zero _)
    | succ n_17 ih_17 =>
      intro v hv0 hn_17 H locs ls hP hS hl
      refine lv_iload hx hb dX6_weights_17 (lv_at hl 4 rfl) ?_
      refine lv_bipush (v := nI 9) hx hb dX6_weights_19 (by decide) ?_
      refine xn_igt (tgt := 55) hx hb dX6_weights_21 (by decide) (by omega) (by omega) (fun c_21 => ?_) (fun c_21 => ?_)
      · refine lv_iload_n hx hb dX6_weights_55 rfl (lv_at hl 3 rfl) ?_
        exact xk_iret hx hb hr (vp_nar_int _) X1_ok hK hX hP hS hlk dX6_weights_56 (⟨by rw [show v = 10 by omega], hJ⟩)
      · refine lv_aload_n hx hb dX6_weights_24 rfl (lv_at hl 0 rfl) ?_
        refine lv_aload_n hx hb dX6_weights_25 rfl (lv_at hl 0 rfl) ?_
        refine xk_get hx hb hts (inX6_weights_X6) hown hK hP 0 (by omega) (ci := 6) e1_well rfl 8 (by decide) (flX6_weights_123 hts) rfl (.int (σ 0 8)) rfl dX6_weights_26 ?_
        refine xn_eqi (y := nI g) hT.1 ?_
        refine lv_iload_n hx hb dX6_weights_29 rfl (lv_at hl 1 rfl) ?_
        refine lv_aload_n hx hb dX6_weights_30 rfl (lv_at hl 2 rfl) ?_
        refine xk_get hx hb hts (inX6_weights_X4) hown hK hP (9 + x) (by omega) (ci := 4) (e1_thing (by omega) (by omega)) rfl 0 (by decide) (flX6_weights_97 hts) rfl (.int (σ (9 + x) 0)) rfl dX6_weights_31 ?_
        refine xn_eqi (y := nI (th x 0)) (hXx.1 0 (by omega)) ?_
        refine lv_iload hx hb dX6_weights_34 (lv_at hl 4 rfl) ?_
        by_cases q_36 : areSo p d g (sth th (nI x) (th x 0) v) rn rd
        · refine xk_fi (va_runV (As := [.int (nI g), .int (nI x), .int (nI (th x 0)), .int (nI v)]) (rest := []) ⟨hx, hb, hml, hown, hts⟩ (k1_areSo_t l hI (u := g) (xa := (nI x)) (kk := (th x 0)) (ww := v) hT hRd (by omega) (by omega) (by omega) hR hp0 q_36) (cwV 4 hts gX6_weights_X6_readingsAreSo rfl rfl rfl (by decide +kernel) ⟨Nat.le_of_ble_eq_true rfl, Nat.le_of_ble_eq_true rfl⟩) (xk_preV X1_ok hK hX hP (xk_recv hK hP 0 (by omega) (ci := 6) e1_well rfl)) rfl rfl hl.1 rfl (lv_room (Nat.le_of_ble_eq_true rfl)) dX6_weights_36 ⟨Nat.le_of_ble_eq_true rfl, Nat.le_of_ble_eq_true rfl⟩) hS (fun H locs hP hS => ?_)
          refine xn_zeq (tgt := 49) hx hb dX6_weights_39 (by decide) (by omega) (fun c_39 => absurd c_39 (by omega)) (fun c_39 => ?_)
          refine lv_iload_n hx hb dX6_weights_42 rfl (lv_at hl 3 rfl) ?_
          refine lv_iconst (v := nI 1) hx hb dX6_weights_43 (by decide) ?_
          refine lv_iload hx hb dX6_weights_44 (lv_at hl 4 rfl) ?_
          refine lv_ishl hx hb dX6_weights_46 ?_
          refine lv_ior hx hb dX6_weights_47 ?_
          refine lv_istore_n (lv' := [(3, .int ((sbt (fun v => decide (areSo p d g (sth th (nI x) (th x 0) v) rn rd)) v) ||| ((nI 1) <<< ((nI v) &&& 31)))), (0, .ref (ad 0)), (1, .int (nI x)), (2, .ref (ad (9 + x))), (4, .int (nI v))]) hx hb dX6_weights_48 rfl hl (by decide) rfl (fun ls hl => ?_)
          refine lv_iinc (v := nI (v + 1)) (lv' := [(4, .int (nI (v + 1))), (3, .int ((sbt (fun v => decide (areSo p d g (sth th (nI x) (th x 0) v) rn rd)) v) ||| ((nI 1) <<< ((nI v) &&& 31)))), (0, .ref (ad 0)), (1, .int (nI x)), (2, .ref (ad (9 + x)))]) hx hb dX6_weights_49 hl (k := 4) rfl (xn_inc _ 1) (by decide) rfl (fun ls hl => ?_)
          refine lv_goto (tgt := 17) hx hb dX6_weights_52 (by decide) ?_
          have hst : sbt (fun v => decide (areSo p d g (sth th (nI x) (th x 0) v) rn rd)) (v + 1) = sbt (fun v => decide (areSo p d g (sth th (nI x) (th x 0) v) rn rd)) v ||| (nI 1 <<< (nI v &&& 31)) := by simp only [sbt]; rw [if_pos (by simpa using q_36)]
          rw [← hst] at hl
          exact ih_17 (v + 1) (by omega) (by omega) _ _ _ hP hS (lv_sub hl [2, 3, 4, 1, 0] rfl)
        · refine xk_fi (va_runV (As := [.int (nI g), .int (nI x), .int (nI (th x 0)), .int (nI v)]) (rest := []) ⟨hx, hb, hml, hown, hts⟩ (k1_areSo_f l hI (u := g) (xa := (nI x)) (kk := (th x 0)) (ww := v) hT hRd (by omega) (by omega) (by omega) hR hp0 q_36) (cwV 4 hts gX6_weights_X6_readingsAreSo rfl rfl rfl (by decide +kernel) ⟨Nat.le_of_ble_eq_true rfl, Nat.le_of_ble_eq_true rfl⟩) (xk_preV X1_ok hK hX hP (xk_recv hK hP 0 (by omega) (ci := 6) e1_well rfl)) rfl rfl hl.1 rfl (lv_room (Nat.le_of_ble_eq_true rfl)) dX6_weights_36 ⟨Nat.le_of_ble_eq_true rfl, Nat.le_of_ble_eq_true rfl⟩) hS (fun H locs hP hS => ?_)
          refine xn_zeq (tgt := 49) hx hb dX6_weights_39 (by decide) (by omega) (fun c_39 => ?_) (fun c_39 => absurd c_39 (by omega))
          refine lv_iinc (v := nI (v + 1)) (lv' := [(4, .int (nI (v + 1))), (0, .ref (ad 0)), (1, .int (nI x)), (2, .ref (ad (9 + x))), (3, .int (sbt (fun v => decide (areSo p d g (sth th (nI x) (th x 0) v) rn rd)) v))]) hx hb dX6_weights_49 hl (k := 4) rfl (xn_inc _ 1) (by decide) rfl (fun ls hl => ?_)
          refine lv_goto (tgt := 17) hx hb dX6_weights_52 (by decide) ?_
          have hst : sbt (fun v => decide (areSo p d g (sth th (nI x) (th x 0) v) rn rd)) (v + 1) = sbt (fun v => decide (areSo p d g (sth th (nI x) (th x 0) v) rn rd)) v := by simp only [sbt]; rw [if_neg (by simpa using q_36)]
          rw [← hst] at hl
          exact ih_17 (v + 1) (by omega) (by omega) _ _ _ hP hS (lv_sub hl [1, 2, 3, 4, 0] rfl)
  exact LP_17 _ 0 (by omega) (Nat.lt_succ_self _) _ _ _ hP hS (lv_sub hl [3, 4, 2, 1, 0] rfl)

set_option maxHeartbeats 4000000 in
set_option maxRecDepth 100000 in
theorem a1_kinds_xo (l : Launch) {D : va_G} {ca : Nat → ClassId} {ad : Nat → Nat} (hI : Ij ad 34) {σ : Sg} {n p g rn : Nat} {d : Nat → Nat} {th rd : Nat → Nat → Nat} {sl sn : Nat → Nat} {sc : Nat → Nat → Int32} {ft tr : Int32} {x : Int32} (hJ : I1 n p g rn d th rd sl sn sc ft tr σ) (hxx : ∀ j, j < n → x ≠ nI j) : C1i l D ca ad yX6_kinds wsX6_kinds { frames := 4, cells := 0, slots := 0, locals := 97 } [.ref (ad 0), .int x] σ (fun r σ' => r = -1 ∧ I1 n p g rn d th rd sl sn sc ft tr σ') := by
  refine xk_entry cX6_kinds 5 (some .int) (by decide) rfl (Nat.le_of_ble_eq_true rfl) ?_
  intro pP eE sS mM below meth cC hx hb hml hr hts hown hlk hP hK hX hS ls hl
  have hl : lv_has ls 5 [(0, .ref (ad 0)), (1, .int x)] := hl
  obtain ⟨hT, hR, hRd, hSh, hnp, hft, htr⟩ := id hJ
  have hn5 := hT.2.2.1
  have hg9 := hT.2.2.2.1
  have hp6 := hR.2.1
  have hrn8 := hRd.2.1
  refine lv_aload_n hx hb dX6_kinds_0 rfl (lv_at hl 0 rfl) ?_
  refine lv_iload_n hx hb dX6_kinds_1 rfl (lv_at hl 1 rfl) ?_
  refine xk_fz (va_runV (As := [.int x]) (rest := []) ⟨hx, hb, hml, hown, hts⟩ (k1_thingAt_out l hI (x := x) hT.2.1 hn5 (by assumption)) (cwV 1 hts gX6_kinds_X6_thingAt rfl rfl rfl (by decide +kernel) ⟨Nat.le_of_ble_eq_true rfl, Nat.le_of_ble_eq_true rfl⟩) (xk_preV X1_ok hK hX hP (xk_recv hK hP 0 (by omega) (ci := 6) e1_well rfl)) rfl rfl hl.1 rfl (lv_room (Nat.le_of_ble_eq_true rfl)) dX6_kinds_2 ⟨Nat.le_of_ble_eq_true rfl, Nat.le_of_ble_eq_true rfl⟩) hS (fun H locs hP hS => ?_)
  refine lv_astore_nN (lv' := [(2, .null), (0, .ref (ad 0)), (1, .int x)]) hx hb dX6_kinds_5 rfl hl (by decide) rfl (fun ls hl => ?_)
  refine lv_aload_nN hx hb dX6_kinds_6 rfl (lv_at hl 0 rfl) ?_
  refine lv_ifnonnullN hx hb dX6_kinds_7 ?_
  refine lv_iconst (v := (-1)) hx hb dX6_kinds_10 (by decide) ?_
  exact xk_iret hx hb hr (vp_nar_int _) X1_ok hK hX hP hS hlk dX6_kinds_11 (⟨rfl, hJ⟩)

set_option maxRecDepth 20000 in
theorem flX6_kinds_100 {s : State} {av : Array Value} (hts : ∀ w ∈ wsX6_kinds, w.before av s = true) : (Cond.fieldLink RX6 100 "WellBack$Thing" "weight" "I").before av s = true := hts _ (by decide +kernel)
set_option maxRecDepth 20000 in
theorem flX6_kinds_123 {s : State} {av : Array Value} (hts : ∀ w ∈ wsX6_kinds, w.before av s = true) : (Cond.fieldLink RX6 123 "WellBack" "depth" "I").before av s = true := hts _ (by decide +kernel)
set_option maxRecDepth 20000 in
theorem inX6_kinds_X4 : ∀ w ∈ u_ws RX4 TX4 5, w ∈ wsX6_kinds := by decide +kernel
set_option maxRecDepth 20000 in
theorem inX6_kinds_X6 : ∀ w ∈ u_ws RX6 TX6 13, w ∈ wsX6_kinds := by decide +kernel
set_option maxHeartbeats 4000000 in
set_option maxRecDepth 100000 in
theorem a1_kinds_ok (l : Launch) {D : va_G} {ca : Nat → ClassId} {ad : Nat → Nat} (hI : Ij ad 34) {σ : Sg} {n p g rn : Nat} {d : Nat → Nat} {th rd : Nat → Nat → Nat} {sl sn : Nat → Nat} {sc : Nat → Nat → Int32} {ft tr : Int32} {x : Nat} (hJ : I1 n p g rn d th rd sl sn sc ft tr σ) (hxn : x < n) : C1i l D ca ad yX6_kinds wsX6_kinds { frames := 4, cells := 0, slots := 0, locals := 97 } [.ref (ad 0), .int (nI x)] σ (fun r σ' => r = sbt (fun v => decide (areSo p d g (sth th (nI x) v (th x 1)) rn rd)) 3 ∧ I1 n p g rn d th rd sl sn sc ft tr σ') := by
  refine xk_entry cX6_kinds 5 (some .int) (by decide) rfl (Nat.le_of_ble_eq_true rfl) ?_
  intro pP eE sS mM below meth cC hx hb hml hr hts hown hlk hP hK hX hS ls hl
  have hl : lv_has ls 5 [(0, .ref (ad 0)), (1, .int (nI x))] := hl
  obtain ⟨hT, hR, hRd, hSh, hnp, hft, htr⟩ := id hJ
  have hn5 := hT.2.2.1
  have hg9 := hT.2.2.2.1
  have hp6 := hR.2.1
  have hrn8 := hRd.2.1
  have hXx := hT.2.2.2.2 x hxn
  obtain ⟨ho0, ho1, ho2, ho3, ho4⟩ := hXx.2
  have hp0 := hnp.mp (by omega)
  refine lv_aload_n hx hb dX6_kinds_0 rfl (lv_at hl 0 rfl) ?_
  refine lv_iload_n hx hb dX6_kinds_1 rfl (lv_at hl 1 rfl) ?_
  refine xk_fa (va_runV (As := [.int (nI x)]) (rest := []) ⟨hx, hb, hml, hown, hts⟩ (k1_thingAt_in l hI (x := x) hT.2.1 hn5 (by omega)) (cwV 1 hts gX6_kinds_X6_thingAt rfl rfl rfl (by decide +kernel) ⟨Nat.le_of_ble_eq_true rfl, Nat.le_of_ble_eq_true rfl⟩) (xk_preV X1_ok hK hX hP (xk_recv hK hP 0 (by omega) (ci := 6) e1_well rfl)) rfl rfl hl.1 rfl (lv_room (Nat.le_of_ble_eq_true rfl)) dX6_kinds_2 ⟨Nat.le_of_ble_eq_true rfl, Nat.le_of_ble_eq_true rfl⟩) hS (fun H locs hP hS => ?_)
  refine lv_astore_n (lv' := [(2, .ref (ad (9 + x))), (0, .ref (ad 0)), (1, .int (nI x))]) hx hb dX6_kinds_5 rfl hl (by decide) rfl (fun ls hl => ?_)
  refine lv_aload_n hx hb dX6_kinds_6 rfl (lv_at hl 0 rfl) ?_
  refine lv_ifnonnull (tgt := 12) hx hb dX6_kinds_7 (by decide) ?_
  refine lv_iconst (v := nI 0) hx hb dX6_kinds_12 (by decide) ?_
  refine lv_istore_n (lv' := [(3, .int (nI 0)), (2, .ref (ad (9 + x))), (0, .ref (ad 0)), (1, .int (nI x))]) hx hb dX6_kinds_13 rfl hl (by decide) rfl (fun ls hl => ?_)
  refine lv_iconst (v := nI 0) hx hb dX6_kinds_14 (by decide) ?_
  refine lv_istore (lv' := [(4, .int (nI 0)), (3, .int (nI 0)), (2, .ref (ad (9 + x))), (0, .ref (ad 0)), (1, .int (nI x))]) hx hb dX6_kinds_15 hl (by decide) rfl (fun ls hl => ?_)
  have LP_17 : ∀ (n_17 : Nat) (v : Nat), (v ≤ 3) → (3 - v) < n_17 → ∀ (H : Heap) (locs : List Loc) (ls : Array Slot), va_P D vwCl (wl ad 34 (en1 ad ca σ)) H → va_S (AA ad 34) sS.heap H locs → lv_has ls 5 [(0, .ref (ad 0)), (1, .int (nI x)), (2, .ref (ad (9 + x))), (3, .int (sbt (fun v => decide (areSo p d g (sth th (nI x) v (th x 1)) rn rd)) v)), (4, .int (nI v))] → Wwi1 pP l eE { frames := 4, cells := 0, slots := 0, locals := 97 } sS mM [.ref (ad 0), .int (nI x)] below meth cC D ca ad (fun r σ' => r = sbt (fun v => decide (areSo p d g (sth th (nI x) v (th x 1)) rn rd)) 3 ∧ I1 n p g rn d th rd sl sn sc ft tr σ') H locs (F0 mM 17 ls []) := by
    intro n_17
    induction n_17 with
    | zero =>
      intro v hv0 hn_17
      exact absurd hn_17 (Nat.not_lt_zero _)
    | succ n_17 ih_17 =>
      intro v hv0 hn_17 H locs ls hP hS hl
      refine lv_iload hx hb dX6_kinds_17 (lv_at hl 4 rfl) ?_
      refine lv_iconst (v := nI 2) hx hb dX6_kinds_19 (by decide) ?_
      refine xn_igt (tgt := 54) hx hb dX6_kinds_20 (by decide) (by omega) (by omega) (fun c_20 => ?_) (fun c_20 => ?_)
      · refine lv_iload_n hx hb dX6_kinds_54 rfl (lv_at hl 3 rfl) ?_
        exact xk_iret hx hb hr (vp_nar_int _) X1_ok hK hX hP hS hlk dX6_kinds_55 (⟨by rw [show v = 3 by omega], hJ⟩)
      · refine lv_aload_n hx hb dX6_kinds_23 rfl (lv_at hl 0 rfl) ?_
        refine lv_aload_n hx hb dX6_kinds_24 rfl (lv_at hl 0 rfl) ?_
        refine xk_get hx hb hts (inX6_kinds_X6) hown hK hP 0 (by omega) (ci := 6) e1_well rfl 8 (by decide) (flX6_kinds_123 hts) rfl (.int (σ 0 8)) rfl dX6_kinds_25 ?_
        refine xn_eqi (y := nI g) hT.1 ?_
        refine lv_iload_n hx hb dX6_kinds_28 rfl (lv_at hl 1 rfl) ?_
        refine lv_iload hx hb dX6_kinds_29 (lv_at hl 4 rfl) ?_
        refine lv_aload_n hx hb dX6_kinds_31 rfl (lv_at hl 2 rfl) ?_
        refine xk_get hx hb hts (inX6_kinds_X4) hown hK hP (9 + x) (by omega) (ci := 4) (e1_thing (by omega) (by omega)) rfl 1 (by decide) (flX6_kinds_100 hts) rfl (.int (σ (9 + x) 1)) rfl dX6_kinds_32 ?_
        refine xn_eqi (y := nI (th x 1)) (hXx.1 1 (by omega)) ?_
        by_cases q_35 : areSo p d g (sth th (nI x) v (th x 1)) rn rd
        · refine xk_fi (va_runV (As := [.int (nI g), .int (nI x), .int (nI v), .int (nI (th x 1))]) (rest := []) ⟨hx, hb, hml, hown, hts⟩ (k1_areSo_t l hI (u := g) (xa := (nI x)) (kk := v) (ww := (th x 1)) hT hRd (by omega) (by omega) (by omega) hR hp0 q_35) (cwV 4 hts gX6_kinds_X6_readingsAreSo rfl rfl rfl (by decide +kernel) ⟨Nat.le_of_ble_eq_true rfl, Nat.le_of_ble_eq_true rfl⟩) (xk_preV X1_ok hK hX hP (xk_recv hK hP 0 (by omega) (ci := 6) e1_well rfl)) rfl rfl hl.1 rfl (lv_room (Nat.le_of_ble_eq_true rfl)) dX6_kinds_35 ⟨Nat.le_of_ble_eq_true rfl, Nat.le_of_ble_eq_true rfl⟩) hS (fun H locs hP hS => ?_)
          refine xn_zeq (tgt := 48) hx hb dX6_kinds_38 (by decide) (by omega) (fun c_38 => absurd c_38 (by omega)) (fun c_38 => ?_)
          refine lv_iload_n hx hb dX6_kinds_41 rfl (lv_at hl 3 rfl) ?_
          refine lv_iconst (v := nI 1) hx hb dX6_kinds_42 (by decide) ?_
          refine lv_iload hx hb dX6_kinds_43 (lv_at hl 4 rfl) ?_
          refine lv_ishl hx hb dX6_kinds_45 ?_
          refine lv_ior hx hb dX6_kinds_46 ?_
          refine lv_istore_n (lv' := [(3, .int ((sbt (fun v => decide (areSo p d g (sth th (nI x) v (th x 1)) rn rd)) v) ||| ((nI 1) <<< ((nI v) &&& 31)))), (0, .ref (ad 0)), (1, .int (nI x)), (2, .ref (ad (9 + x))), (4, .int (nI v))]) hx hb dX6_kinds_47 rfl hl (by decide) rfl (fun ls hl => ?_)
          refine lv_iinc (v := nI (v + 1)) (lv' := [(4, .int (nI (v + 1))), (3, .int ((sbt (fun v => decide (areSo p d g (sth th (nI x) v (th x 1)) rn rd)) v) ||| ((nI 1) <<< ((nI v) &&& 31)))), (0, .ref (ad 0)), (1, .int (nI x)), (2, .ref (ad (9 + x)))]) hx hb dX6_kinds_48 hl (k := 4) rfl (xn_inc _ 1) (by decide) rfl (fun ls hl => ?_)
          refine lv_goto (tgt := 17) hx hb dX6_kinds_51 (by decide) ?_
          have hst : sbt (fun v => decide (areSo p d g (sth th (nI x) v (th x 1)) rn rd)) (v + 1) = sbt (fun v => decide (areSo p d g (sth th (nI x) v (th x 1)) rn rd)) v ||| (nI 1 <<< (nI v &&& 31)) := by simp only [sbt]; rw [if_pos (by simpa using q_35)]
          rw [← hst] at hl
          exact ih_17 (v + 1) (by omega) (by omega) _ _ _ hP hS (lv_sub hl [2, 3, 4, 1, 0] rfl)
        · refine xk_fi (va_runV (As := [.int (nI g), .int (nI x), .int (nI v), .int (nI (th x 1))]) (rest := []) ⟨hx, hb, hml, hown, hts⟩ (k1_areSo_f l hI (u := g) (xa := (nI x)) (kk := v) (ww := (th x 1)) hT hRd (by omega) (by omega) (by omega) hR hp0 q_35) (cwV 4 hts gX6_kinds_X6_readingsAreSo rfl rfl rfl (by decide +kernel) ⟨Nat.le_of_ble_eq_true rfl, Nat.le_of_ble_eq_true rfl⟩) (xk_preV X1_ok hK hX hP (xk_recv hK hP 0 (by omega) (ci := 6) e1_well rfl)) rfl rfl hl.1 rfl (lv_room (Nat.le_of_ble_eq_true rfl)) dX6_kinds_35 ⟨Nat.le_of_ble_eq_true rfl, Nat.le_of_ble_eq_true rfl⟩) hS (fun H locs hP hS => ?_)
          refine xn_zeq (tgt := 48) hx hb dX6_kinds_38 (by decide) (by omega) (fun c_38 => ?_) (fun c_38 => absurd c_38 (by omega))
          refine lv_iinc (v := nI (v + 1)) (lv' := [(4, .int (nI (v + 1))), (0, .ref (ad 0)), (1, .int (nI x)), (2, .ref (ad (9 + x))), (3, .int (sbt (fun v => decide (areSo p d g (sth th (nI x) v (th x 1)) rn rd)) v))]) hx hb dX6_kinds_48 hl (k := 4) rfl (xn_inc _ 1) (by decide) rfl (fun ls hl => ?_)
          refine lv_goto (tgt := 17) hx hb dX6_kinds_51 (by decide) ?_
          have hst : sbt (fun v => decide (areSo p d g (sth th (nI x) v (th x 1)) rn rd)) (v + 1) = sbt (fun v => decide (areSo p d g (sth th (nI x) v (th x 1)) rn rd)) v := by simp only [sbt]; rw [if_neg (by simpa using q_35)]
          rw [← hst] at hl
          exact ih_17 (v + 1) (by omega) (by omega) _ _ _ hP hS (lv_sub hl [1, 2, 3, 4, 0] rfl)
  exact LP_17 _ 0 (by omega) (Nat.lt_succ_self _) _ _ _ hP hS (lv_sub hl [3, 4, 2, 1, 0] rfl)

set_option maxHeartbeats 4000000 in
set_option maxRecDepth 100000 in
theorem a1_depths_no (l : Launch) {D : va_G} {ca : Nat → ClassId} {ad : Nat → Nat} (hI : Ij ad 34) {σ : Sg} {n p g rn : Nat} {d : Nat → Nat} {th rd : Nat → Nat → Nat} {sl sn : Nat → Nat} {sc : Nat → Nat → Int32} {ft tr : Int32} (hJ : I1 n p g rn d th rd sl sn sc ft tr σ) (hn0 : n = 0) : C1i l D ca ad yX6_depths wsX6_depths { frames := 4, cells := 0, slots := 0, locals := 97 } [.ref (ad 0)] σ (fun r σ' => r = -3 ∧ I1 n p g rn d th rd sl sn sc ft tr σ') := by
  refine xk_entry cX6_depths 3 (some .int) (by decide) rfl (Nat.le_of_ble_eq_true rfl) ?_
  intro pP eE sS mM below meth cC hx hb hml hr hts hown hlk hP hK hX hS ls hl
  have hl : lv_has ls 3 [(0, .ref (ad 0))] := hl
  obtain ⟨hT, hR, hRd, hSh, hnp, hft, htr⟩ := id hJ
  have hn5 := hT.2.2.1
  have hg9 := hT.2.2.2.1
  have hp6 := hR.2.1
  have hrn8 := hRd.2.1
  refine lv_aload_n hx hb dX6_depths_0 rfl (lv_at hl 0 rfl) ?_
  refine xk_fi (va_runV (As := []) (rest := []) ⟨hx, hb, hml, hown, hts⟩ (k1_hasWell_f l hI hT.2.1 hn5 (by omega)) (cwV 0 hts gX6_depths_X6_hasWell rfl rfl rfl (by decide +kernel) ⟨Nat.le_of_ble_eq_true rfl, Nat.le_of_ble_eq_true rfl⟩) (xk_preV X1_ok hK hX hP (xk_recv hK hP 0 (by omega) (ci := 6) e1_well rfl)) rfl rfl hl.1 rfl (lv_room (Nat.le_of_ble_eq_true rfl)) dX6_depths_1 ⟨Nat.le_of_ble_eq_true rfl, Nat.le_of_ble_eq_true rfl⟩) hS (fun H locs hP hS => ?_)
  refine xn_zne (tgt := 10) hx hb dX6_depths_4 (by decide) (by omega) (fun c_4 => absurd c_4 (by omega)) (fun c_4 => ?_)
  refine lv_bipush (v := (-3)) hx hb dX6_depths_7 (by decide) ?_
  exact xk_iret hx hb hr (vp_nar_int _) X1_ok hK hX hP hS hlk dX6_depths_9 (⟨rfl, hJ⟩)

set_option maxHeartbeats 4000000 in
set_option maxRecDepth 100000 in
theorem a1_depths_ok (l : Launch) {D : va_G} {ca : Nat → ClassId} {ad : Nat → Nat} (hI : Ij ad 34) {σ : Sg} {n p g rn : Nat} {d : Nat → Nat} {th rd : Nat → Nat → Nat} {sl sn : Nat → Nat} {sc : Nat → Nat → Int32} {ft tr : Int32} (hJ : I1 n p g rn d th rd sl sn sc ft tr σ) (hn0 : 0 < n) : C1i l D ca ad yX6_depths wsX6_depths { frames := 4, cells := 0, slots := 0, locals := 97 } [.ref (ad 0)] σ (fun r σ' => r = sbt (fun v => decide (areSo p d v (sth th (-9) 0 0) rn rd)) 10 ∧ I1 n p g rn d th rd sl sn sc ft tr σ') := by
  refine xk_entry cX6_depths 3 (some .int) (by decide) rfl (Nat.le_of_ble_eq_true rfl) ?_
  intro pP eE sS mM below meth cC hx hb hml hr hts hown hlk hP hK hX hS ls hl
  have hl : lv_has ls 3 [(0, .ref (ad 0))] := hl
  obtain ⟨hT, hR, hRd, hSh, hnp, hft, htr⟩ := id hJ
  have hn5 := hT.2.2.1
  have hg9 := hT.2.2.2.1
  have hp6 := hR.2.1
  have hrn8 := hRd.2.1
  have hp0 := hnp.mp (by omega)
  refine lv_aload_n hx hb dX6_depths_0 rfl (lv_at hl 0 rfl) ?_
  refine xk_fi (va_runV (As := []) (rest := []) ⟨hx, hb, hml, hown, hts⟩ (k1_hasWell_t l hI hT.2.1 hn5 (by omega)) (cwV 0 hts gX6_depths_X6_hasWell rfl rfl rfl (by decide +kernel) ⟨Nat.le_of_ble_eq_true rfl, Nat.le_of_ble_eq_true rfl⟩) (xk_preV X1_ok hK hX hP (xk_recv hK hP 0 (by omega) (ci := 6) e1_well rfl)) rfl rfl hl.1 rfl (lv_room (Nat.le_of_ble_eq_true rfl)) dX6_depths_1 ⟨Nat.le_of_ble_eq_true rfl, Nat.le_of_ble_eq_true rfl⟩) hS (fun H locs hP hS => ?_)
  refine xn_zne (tgt := 10) hx hb dX6_depths_4 (by decide) (by omega) (fun c_4 => ?_) (fun c_4 => absurd c_4 (by omega))
  refine lv_iconst (v := nI 0) hx hb dX6_depths_10 (by decide) ?_
  refine lv_istore_n (lv' := [(1, .int (nI 0)), (0, .ref (ad 0))]) hx hb dX6_depths_11 rfl hl (by decide) rfl (fun ls hl => ?_)
  refine lv_iconst (v := nI 0) hx hb dX6_depths_12 (by decide) ?_
  refine lv_istore_n (lv' := [(2, .int (nI 0)), (1, .int (nI 0)), (0, .ref (ad 0))]) hx hb dX6_depths_13 rfl hl (by decide) rfl (fun ls hl => ?_)
  have LP_14 : ∀ (n_14 : Nat) (v : Nat), (v ≤ 10) → (10 - v) < n_14 → ∀ (H : Heap) (locs : List Loc) (ls : Array Slot), va_P D vwCl (wl ad 34 (en1 ad ca σ)) H → va_S (AA ad 34) sS.heap H locs → lv_has ls 3 [(0, .ref (ad 0)), (1, .int (sbt (fun v => decide (areSo p d v (sth th (-9) 0 0) rn rd)) v)), (2, .int (nI v))] → Wwi1 pP l eE { frames := 4, cells := 0, slots := 0, locals := 97 } sS mM [.ref (ad 0)] below meth cC D ca ad (fun r σ' => r = sbt (fun v => decide (areSo p d v (sth th (-9) 0 0) rn rd)) 10 ∧ I1 n p g rn d th rd sl sn sc ft tr σ') H locs (F0 mM 14 ls []) := by
    intro n_14
    induction n_14 with
    | zero =>
      intro v hv0 hn_14
      exact absurd hn_14 (Nat.not_lt_zero _)
    | succ n_14 ih_14 =>
      intro v hv0 hn_14 H locs ls hP hS hl
      refine lv_iload_n hx hb dX6_depths_14 rfl (lv_at hl 2 rfl) ?_
      refine lv_bipush (v := nI 9) hx hb dX6_depths_15 (by decide) ?_
      refine xn_igt (tgt := 44) hx hb dX6_depths_17 (by decide) (by omega) (by omega) (fun c_17 => ?_) (fun c_17 => ?_)
      · refine lv_iload_n hx hb dX6_depths_44 rfl (lv_at hl 1 rfl) ?_
        exact xk_iret hx hb hr (vp_nar_int _) X1_ok hK hX hP hS hlk dX6_depths_45 (⟨by rw [show v = 10 by omega], hJ⟩)
      · refine lv_aload_n hx hb dX6_depths_20 rfl (lv_at hl 0 rfl) ?_
        refine lv_iload_n hx hb dX6_depths_21 rfl (lv_at hl 2 rfl) ?_
        refine lv_bipush (v := (-9)) hx hb dX6_depths_22 (by decide) ?_
        refine lv_iconst (v := nI 0) hx hb dX6_depths_24 (by decide) ?_
        refine lv_iconst (v := nI 0) hx hb dX6_depths_25 (by decide) ?_
        by_cases q_26 : areSo p d v (sth th (-9) 0 0) rn rd
        · refine xk_fi (va_runV (As := [.int (nI v), .int (-9), .int (nI 0), .int (nI 0)]) (rest := []) ⟨hx, hb, hml, hown, hts⟩ (k1_areSo_t l hI (u := v) (xa := (-9)) (kk := 0) (ww := 0) hT hRd (by omega) (by omega) (by omega) hR hp0 q_26) (cwV 4 hts gX6_depths_X6_readingsAreSo rfl rfl rfl (by decide +kernel) ⟨Nat.le_of_ble_eq_true rfl, Nat.le_of_ble_eq_true rfl⟩) (xk_preV X1_ok hK hX hP (xk_recv hK hP 0 (by omega) (ci := 6) e1_well rfl)) rfl rfl hl.1 rfl (lv_room (Nat.le_of_ble_eq_true rfl)) dX6_depths_26 ⟨Nat.le_of_ble_eq_true rfl, Nat.le_of_ble_eq_true rfl⟩) hS (fun H locs hP hS => ?_)
          refine xn_zeq (tgt := 38) hx hb dX6_depths_29 (by decide) (by omega) (fun c_29 => absurd c_29 (by omega)) (fun c_29 => ?_)
          refine lv_iload_n hx hb dX6_depths_32 rfl (lv_at hl 1 rfl) ?_
          refine lv_iconst (v := nI 1) hx hb dX6_depths_33 (by decide) ?_
          refine lv_iload_n hx hb dX6_depths_34 rfl (lv_at hl 2 rfl) ?_
          refine lv_ishl hx hb dX6_depths_35 ?_
          refine lv_ior hx hb dX6_depths_36 ?_
          refine lv_istore_n (lv' := [(1, .int ((sbt (fun v => decide (areSo p d v (sth th (-9) 0 0) rn rd)) v) ||| ((nI 1) <<< ((nI v) &&& 31)))), (0, .ref (ad 0)), (2, .int (nI v))]) hx hb dX6_depths_37 rfl hl (by decide) rfl (fun ls hl => ?_)
          refine lv_iinc (v := nI (v + 1)) (lv' := [(2, .int (nI (v + 1))), (1, .int ((sbt (fun v => decide (areSo p d v (sth th (-9) 0 0) rn rd)) v) ||| ((nI 1) <<< ((nI v) &&& 31)))), (0, .ref (ad 0))]) hx hb dX6_depths_38 hl (k := 2) rfl (xn_inc _ 1) (by decide) rfl (fun ls hl => ?_)
          refine lv_goto (tgt := 14) hx hb dX6_depths_41 (by decide) ?_
          have hst : sbt (fun v => decide (areSo p d v (sth th (-9) 0 0) rn rd)) (v + 1) = sbt (fun v => decide (areSo p d v (sth th (-9) 0 0) rn rd)) v ||| (nI 1 <<< (nI v &&& 31)) := by simp only [sbt]; rw [if_pos (by simpa using q_26)]
          rw [← hst] at hl
          exact ih_14 (v + 1) (by omega) (by omega) _ _ _ hP hS (lv_sub hl [2, 1, 0] rfl)
        · refine xk_fi (va_runV (As := [.int (nI v), .int (-9), .int (nI 0), .int (nI 0)]) (rest := []) ⟨hx, hb, hml, hown, hts⟩ (k1_areSo_f l hI (u := v) (xa := (-9)) (kk := 0) (ww := 0) hT hRd (by omega) (by omega) (by omega) hR hp0 q_26) (cwV 4 hts gX6_depths_X6_readingsAreSo rfl rfl rfl (by decide +kernel) ⟨Nat.le_of_ble_eq_true rfl, Nat.le_of_ble_eq_true rfl⟩) (xk_preV X1_ok hK hX hP (xk_recv hK hP 0 (by omega) (ci := 6) e1_well rfl)) rfl rfl hl.1 rfl (lv_room (Nat.le_of_ble_eq_true rfl)) dX6_depths_26 ⟨Nat.le_of_ble_eq_true rfl, Nat.le_of_ble_eq_true rfl⟩) hS (fun H locs hP hS => ?_)
          refine xn_zeq (tgt := 38) hx hb dX6_depths_29 (by decide) (by omega) (fun c_29 => ?_) (fun c_29 => absurd c_29 (by omega))
          refine lv_iinc (v := nI (v + 1)) (lv' := [(2, .int (nI (v + 1))), (0, .ref (ad 0)), (1, .int (sbt (fun v => decide (areSo p d v (sth th (-9) 0 0) rn rd)) v))]) hx hb dX6_depths_38 hl (k := 2) rfl (xn_inc _ 1) (by decide) rfl (fun ls hl => ?_)
          refine lv_goto (tgt := 14) hx hb dX6_depths_41 (by decide) ?_
          have hst : sbt (fun v => decide (areSo p d v (sth th (-9) 0 0) rn rd)) (v + 1) = sbt (fun v => decide (areSo p d v (sth th (-9) 0 0) rn rd)) v := by simp only [sbt]; rw [if_neg (by simpa using q_26)]
          rw [← hst] at hl
          exact ih_14 (v + 1) (by omega) (by omega) _ _ _ hP hS (lv_sub hl [1, 2, 0] rfl)
  exact LP_14 _ 0 (by omega) (Nat.lt_succ_self _) _ _ _ hP hS (lv_sub hl [2, 1, 0] rfl)

set_option maxHeartbeats 4000000 in
set_option maxRecDepth 100000 in
theorem a1_odds_xo (l : Launch) {D : va_G} {ca : Nat → ClassId} {ad : Nat → Nat} (hI : Ij ad 34) {σ : Sg} {n p g rn : Nat} {d : Nat → Nat} {th rd : Nat → Nat → Nat} {sl sn : Nat → Nat} {sc : Nat → Nat → Int32} {ft tr : Int32} {x : Int32} {w : Int32} (hJ : I1 n p g rn d th rd sl sn sc ft tr σ) (hxx : ∀ j, j < n → x ≠ nI j) : C1l l D ca ad yX6_odds wsX6_odds { frames := 4, cells := 0, slots := 0, locals := 107 } [.ref (ad 0), .int x, .int w] σ (fun r σ' => r = (-9223372036854775808) ∧ I1 n p g rn d th rd sl sn sc ft tr σ') := by
  refine xk_entry cX6_odds 7 (some .long) (by decide) rfl (Nat.le_of_ble_eq_true rfl) ?_
  intro pP eE sS mM below meth cC hx hb hml hr hts hown hlk hP hK hX hS ls hl
  have hl : lv_has ls 7 [(0, .ref (ad 0)), (1, .int x), (2, .int w)] := hl
  obtain ⟨hT, hR, hRd, hSh, hnp, hft, htr⟩ := id hJ
  have hn5 := hT.2.2.1
  have hg9 := hT.2.2.2.1
  have hp6 := hR.2.1
  have hrn8 := hRd.2.1
  refine lv_aload_n hx hb dX6_odds_0 rfl (lv_at hl 0 rfl) ?_
  refine lv_iload_n hx hb dX6_odds_1 rfl (lv_at hl 1 rfl) ?_
  refine xk_fz (va_runV (As := [.int x]) (rest := []) ⟨hx, hb, hml, hown, hts⟩ (k1_thingAt_out l hI (x := x) hT.2.1 hn5 (by assumption)) (cwV 1 hts gX6_odds_X6_thingAt rfl rfl rfl (by decide +kernel) ⟨Nat.le_of_ble_eq_true rfl, Nat.le_of_ble_eq_true rfl⟩) (xk_preV X1_ok hK hX hP (xk_recv hK hP 0 (by omega) (ci := 6) e1_well rfl)) rfl rfl hl.1 rfl (lv_room (Nat.le_of_ble_eq_true rfl)) dX6_odds_2 ⟨Nat.le_of_ble_eq_true rfl, Nat.le_of_ble_eq_true rfl⟩) hS (fun H locs hP hS => ?_)
  refine lv_astore_nN (lv' := [(3, .null), (0, .ref (ad 0)), (1, .int x), (2, .int w)]) hx hb dX6_odds_5 rfl hl (by decide) rfl (fun ls hl => ?_)
  refine lv_aload_nN hx hb dX6_odds_6 rfl (lv_at hl 0 rfl) ?_
  refine lv_ifnullN (tgt := 19) hx hb dX6_odds_7 (by decide) ?_
  refine lv_ldc2 (v := (-9223372036854775808)) hx hb hown (hts (.constantLong RX6 199 (-9223372036854775808)) (by decide +kernel)) dX6_odds_19 ?_
  exact xk_lret hx hb hr X1_ok hK hX hP hS hlk dX6_odds_22 (⟨rfl, hJ⟩)

set_option maxHeartbeats 4000000 in
set_option maxRecDepth 100000 in
theorem a1_odds_wo (l : Launch) {D : va_G} {ca : Nat → ClassId} {ad : Nat → Nat} (hI : Ij ad 34) {σ : Sg} {n p g rn : Nat} {d : Nat → Nat} {th rd : Nat → Nat → Nat} {sl sn : Nat → Nat} {sc : Nat → Nat → Int32} {ft tr : Int32} {x : Nat} {w : Int32} (hJ : I1 n p g rn d th rd sl sn sc ft tr σ) (hxn : x < n) (hwo : ¬ (nI 0 ≤ w ∧ w ≤ nI 1)) : C1l l D ca ad yX6_odds wsX6_odds { frames := 4, cells := 0, slots := 0, locals := 107 } [.ref (ad 0), .int (nI x), .int w] σ (fun r σ' => r = (-9223372036854775808) ∧ I1 n p g rn d th rd sl sn sc ft tr σ') := by
  refine xk_entry cX6_odds 7 (some .long) (by decide) rfl (Nat.le_of_ble_eq_true rfl) ?_
  intro pP eE sS mM below meth cC hx hb hml hr hts hown hlk hP hK hX hS ls hl
  have hl : lv_has ls 7 [(0, .ref (ad 0)), (1, .int (nI x)), (2, .int w)] := hl
  obtain ⟨hT, hR, hRd, hSh, hnp, hft, htr⟩ := id hJ
  have hn5 := hT.2.2.1
  have hg9 := hT.2.2.2.1
  have hp6 := hR.2.1
  have hrn8 := hRd.2.1
  have hXx := hT.2.2.2.2 x hxn
  obtain ⟨ho0, ho1, ho2, ho3, ho4⟩ := hXx.2
  refine lv_aload_n hx hb dX6_odds_0 rfl (lv_at hl 0 rfl) ?_
  refine lv_iload_n hx hb dX6_odds_1 rfl (lv_at hl 1 rfl) ?_
  refine xk_fa (va_runV (As := [.int (nI x)]) (rest := []) ⟨hx, hb, hml, hown, hts⟩ (k1_thingAt_in l hI (x := x) hT.2.1 hn5 (by omega)) (cwV 1 hts gX6_odds_X6_thingAt rfl rfl rfl (by decide +kernel) ⟨Nat.le_of_ble_eq_true rfl, Nat.le_of_ble_eq_true rfl⟩) (xk_preV X1_ok hK hX hP (xk_recv hK hP 0 (by omega) (ci := 6) e1_well rfl)) rfl rfl hl.1 rfl (lv_room (Nat.le_of_ble_eq_true rfl)) dX6_odds_2 ⟨Nat.le_of_ble_eq_true rfl, Nat.le_of_ble_eq_true rfl⟩) hS (fun H locs hP hS => ?_)
  refine lv_astore_n (lv' := [(3, .ref (ad (9 + x))), (0, .ref (ad 0)), (1, .int (nI x)), (2, .int w)]) hx hb dX6_odds_5 rfl hl (by decide) rfl (fun ls hl => ?_)
  refine lv_aload_n hx hb dX6_odds_6 rfl (lv_at hl 0 rfl) ?_
  refine lv_ifnull hx hb dX6_odds_7 ?_
  refine lv_iload_n hx hb dX6_odds_10 rfl (lv_at hl 3 rfl) ?_
  refine lv_iconst (v := nI 0) hx hb dX6_odds_11 (by decide) ?_
  refine lv_iconst (v := nI 1) hx hb dX6_odds_12 (by decide) ?_
  refine xk_fi (va_runS (As := [.int w, .int (nI 0), .int (nI 1)]) (rest := []) ⟨hx, hb, hml, hown, hts⟩ (k1_within_f l hI w (nI 0) (nI 1) (by assumption)) (va_cwS 3 hts gX6_odds_X6_within rfl rfl rfl (by decide +kernel) ⟨Nat.le_of_ble_eq_true rfl, Nat.le_of_ble_eq_true rfl⟩) (xk_preS X1_ok hK hX hP) rfl rfl hl.1 rfl (lv_room (Nat.le_of_ble_eq_true rfl)) dX6_odds_13 ⟨Nat.le_of_ble_eq_true rfl, Nat.le_of_ble_eq_true rfl⟩) hS (fun H locs hP hS => ?_)
  refine xn_zne (tgt := 23) hx hb dX6_odds_16 (by decide) (by omega) (fun c_16 => absurd c_16 (by omega)) (fun c_16 => ?_)
  refine lv_ldc2 (v := (-9223372036854775808)) hx hb hown (hts (.constantLong RX6 199 (-9223372036854775808)) (by decide +kernel)) dX6_odds_19 ?_
  exact xk_lret hx hb hr X1_ok hK hX hP hS hlk dX6_odds_22 (⟨rfl, hJ⟩)

set_option maxRecDepth 20000 in
theorem flX6_odds_32 {s : State} {av : Array Value} (hts : ∀ w ∈ wsX6_odds, w.before av s = true) : (Cond.fieldLink RX6 32 "WellBack" "rota" "LWellBack$Rota;").before av s = true := hts _ (by decide +kernel)
set_option maxRecDepth 20000 in
theorem inX6_odds_X6 : ∀ w ∈ u_ws RX6 TX6 13, w ∈ wsX6_odds := by decide +kernel
set_option maxHeartbeats 4000000 in
set_option maxRecDepth 100000 in
theorem a1_odds_0 (l : Launch) {D : va_G} {ca : Nat → ClassId} {ad : Nat → Nat} (hI : Ij ad 34) {σ : Sg} {n p g rn : Nat} {d : Nat → Nat} {th rd : Nat → Nat → Nat} {sl sn : Nat → Nat} {sc : Nat → Nat → Int32} {ft tr : Int32} {x : Nat} (hJ : I1 n p g rn d th rd sl sn sc ft tr σ) (hxn : x < n) : C1l l D ca ad yX6_odds wsX6_odds { frames := 4, cells := 0, slots := 0, locals := 107 } [.ref (ad 0), .int (nI x), .int (nI 0)] σ (fun r σ' => r = lN ((cb (fun h => decide (rt p d g th x h)) 12) / Nat.gcd (cb (fun h => decide (rt p d g th x h)) 12) 12) ∧ I1 n p g rn d th rd sl sn sc ft tr σ') := by
  refine xk_entry cX6_odds 7 (some .long) (by decide) rfl (Nat.le_of_ble_eq_true rfl) ?_
  intro pP eE sS mM below meth cC hx hb hml hr hts hown hlk hP hK hX hS ls hl
  have hl : lv_has ls 7 [(0, .ref (ad 0)), (1, .int (nI x)), (2, .int (nI 0))] := hl
  obtain ⟨hT, hR, hRd, hSh, hnp, hft, htr⟩ := id hJ
  have hn5 := hT.2.2.1
  have hg9 := hT.2.2.2.1
  have hp6 := hR.2.1
  have hrn8 := hRd.2.1
  have hXx := hT.2.2.2.2 x hxn
  obtain ⟨ho0, ho1, ho2, ho3, ho4⟩ := hXx.2
  have hp0 := hnp.mp (by omega)
  refine lv_aload_n hx hb dX6_odds_0 rfl (lv_at hl 0 rfl) ?_
  refine lv_iload_n hx hb dX6_odds_1 rfl (lv_at hl 1 rfl) ?_
  refine xk_fa (va_runV (As := [.int (nI x)]) (rest := []) ⟨hx, hb, hml, hown, hts⟩ (k1_thingAt_in l hI (x := x) hT.2.1 hn5 (by omega)) (cwV 1 hts gX6_odds_X6_thingAt rfl rfl rfl (by decide +kernel) ⟨Nat.le_of_ble_eq_true rfl, Nat.le_of_ble_eq_true rfl⟩) (xk_preV X1_ok hK hX hP (xk_recv hK hP 0 (by omega) (ci := 6) e1_well rfl)) rfl rfl hl.1 rfl (lv_room (Nat.le_of_ble_eq_true rfl)) dX6_odds_2 ⟨Nat.le_of_ble_eq_true rfl, Nat.le_of_ble_eq_true rfl⟩) hS (fun H locs hP hS => ?_)
  refine lv_astore_n (lv' := [(3, .ref (ad (9 + x))), (0, .ref (ad 0)), (1, .int (nI x)), (2, .int (nI 0))]) hx hb dX6_odds_5 rfl hl (by decide) rfl (fun ls hl => ?_)
  refine lv_aload_n hx hb dX6_odds_6 rfl (lv_at hl 0 rfl) ?_
  refine lv_ifnull hx hb dX6_odds_7 ?_
  refine lv_iload_n hx hb dX6_odds_10 rfl (lv_at hl 3 rfl) ?_
  refine lv_iconst (v := nI 0) hx hb dX6_odds_11 (by decide) ?_
  refine lv_iconst (v := nI 1) hx hb dX6_odds_12 (by decide) ?_
  refine xk_fi (va_runS (As := [.int (nI 0), .int (nI 0), .int (nI 1)]) (rest := []) ⟨hx, hb, hml, hown, hts⟩ (k1_within_t l hI (nI 0) (nI 0) (nI 1) (xn_in (by omega) (by omega) (by omega))) (va_cwS 3 hts gX6_odds_X6_within rfl rfl rfl (by decide +kernel) ⟨Nat.le_of_ble_eq_true rfl, Nat.le_of_ble_eq_true rfl⟩) (xk_preS X1_ok hK hX hP) rfl rfl hl.1 rfl (lv_room (Nat.le_of_ble_eq_true rfl)) dX6_odds_13 ⟨Nat.le_of_ble_eq_true rfl, Nat.le_of_ble_eq_true rfl⟩) hS (fun H locs hP hS => ?_)
  refine xn_zne (tgt := 23) hx hb dX6_odds_16 (by decide) (by omega) (fun c_16 => ?_) (fun c_16 => absurd c_16 (by omega))
  refine lv_iconst (v := nI 0) hx hb dX6_odds_23 (by decide) ?_
  refine lv_istore (lv' := [(4, .int (nI 0)), (3, .ref (ad (9 + x))), (0, .ref (ad 0)), (1, .int (nI x)), (2, .int (nI 0))]) hx hb dX6_odds_24 hl (by decide) rfl (fun ls hl => ?_)
  refine lv_iconst (v := nI 0) hx hb dX6_odds_26 (by decide) ?_
  refine lv_istore (lv' := [(5, .int (nI 0)), (4, .int (nI 0)), (3, .ref (ad (9 + x))), (0, .ref (ad 0)), (1, .int (nI x)), (2, .int (nI 0))]) hx hb dX6_odds_27 hl (by decide) rfl (fun ls hl => ?_)
  have LP_29 : ∀ (n_29 : Nat) (h : Nat), (h ≤ 12) → (12 - h) < n_29 → ∀ (H : Heap) (locs : List Loc) (ls : Array Slot), va_P D vwCl (wl ad 34 (en1 ad ca σ)) H → va_S (AA ad 34) sS.heap H locs → lv_has ls 7 [(0, .ref (ad 0)), (2, .int (nI 0)), (3, .ref (ad (9 + x))), (4, .int (nI (cb (fun h => decide (rt p d g th x h)) h))), (5, .int (nI h))] → Wwl1 pP l eE { frames := 4, cells := 0, slots := 0, locals := 107 } sS mM [.ref (ad 0), .int (nI x), .int (nI 0)] below meth cC D ca ad (fun r σ' => r = lN ((cb (fun h => decide (rt p d g th x h)) 12) / Nat.gcd (cb (fun h => decide (rt p d g th x h)) 12) 12) ∧ I1 n p g rn d th rd sl sn sc ft tr σ') H locs (F0 mM 29 ls []) := by
    intro n_29
    induction n_29 with
    | zero =>
      intro h hh hn_29
      exact absurd hn_29 (Nat.not_lt_zero _)
    | succ n_29 ih_29 =>
      intro h hh hn_29 H locs ls hP hS hl
      refine lv_iload hx hb dX6_odds_29 (lv_at hl 4 rfl) ?_
      refine lv_bipush (v := nI 12) hx hb dX6_odds_31 (by decide) ?_
      refine xn_ige (tgt := 59) hx hb dX6_odds_33 (by decide) (by omega) (by omega) (fun c_33 => ?_) (fun c_33 => ?_)
      · have hh12 : h = 12 := by omega
        rw [hh12] at hl
        have hcl := cb_le (fun h => decide (rt p d g th x h)) 12
        have hcd := cmF_dvd (cb (fun h => decide (rt p d g th x h)) 12) hcl
        refine lv_iload_n hx hb dX6_odds_59 rfl (lv_at hl 1 rfl) ?_
        refine xn_zne (tgt := 68) hx hb dX6_odds_60 (by decide) (by omega) (fun c_60 => absurd c_60 (by omega)) (fun c_60 => ?_)
        refine lv_iload hx hb dX6_odds_63 (lv_at hl 3 rfl) ?_
        refine lv_goto (tgt := 70) hx hb dX6_odds_65 (by decide) ?_
        refine lv_istore (lv' := [(5, .int (nI (cb (fun h => decide (rt p d g th x h)) 12))), (0, .ref (ad 0)), (2, .int (nI 0)), (3, .ref (ad (9 + x))), (4, .int (nI (cb (fun h => decide (rt p d g th x h)) 12)))]) hx hb dX6_odds_70 hl (by decide) rfl (fun ls hl => ?_)
        refine lv_iload hx hb dX6_odds_72 (lv_at hl 4 rfl) ?_
        refine lv_bipush (v := nI 12) hx hb dX6_odds_74 (by decide) ?_
        refine xk_fi (va_runS (As := [.int (nI (cb (fun h => decide (rt p d g th x h)) 12)), .int (nI 12)]) (rest := []) ⟨hx, hb, hml, hown, hts⟩ (k1_cm l hI (a := cb (fun h => decide (rt p d g th x h)) 12) hcl) (va_cwS 2 hts gX6_odds_X6_commonMeasure rfl rfl rfl (by decide +kernel) ⟨Nat.le_of_ble_eq_true rfl, Nat.le_of_ble_eq_true rfl⟩) (xk_preS X1_ok hK hX hP) rfl rfl hl.1 rfl (lv_room (Nat.le_of_ble_eq_true rfl)) dX6_odds_76 ⟨Nat.le_of_ble_eq_true rfl, Nat.le_of_ble_eq_true rfl⟩) hS (fun H locs hP hS => ?_)
        refine lv_istore (lv' := [(6, .int (nI (cmF (cb (fun h => decide (rt p d g th x h)) 12) 12))), (5, .int (nI (cb (fun h => decide (rt p d g th x h)) 12))), (0, .ref (ad 0)), (2, .int (nI 0)), (3, .ref (ad (9 + x))), (4, .int (nI (cb (fun h => decide (rt p d g th x h)) 12)))]) hx hb dX6_odds_79 hl (by decide) rfl (fun ls hl => ?_)
        refine lv_iload hx hb dX6_odds_81 (lv_at hl 0 rfl) ?_
        refine xn_zle (tgt := 95) hx hb dX6_odds_83 (by decide) (by omega) (fun c_83 => absurd c_83 (by omega)) (fun c_83 => ?_)
        refine lv_iload hx hb dX6_odds_86 (lv_at hl 1 rfl) ?_
        refine lv_iload hx hb dX6_odds_88 (lv_at hl 0 rfl) ?_
        refine xn_idiv hx hb (by omega) (by omega) (by omega) dX6_odds_90 ?_
        refine lv_i2l hx hb dX6_odds_91 rfl ?_
        refine lv_goto (tgt := 98) hx hb dX6_odds_92 (by decide) ?_
        exact xk_lret hx hb hr X1_ok hK hX hP hS hlk dX6_odds_98 (⟨by rw [nI_l (Nat.lt_of_le_of_lt (Nat.div_le_self _ _) (by omega)), cmF_gcd _ hcl], hJ⟩)
      · have hcl := cb_le (fun h => decide (rt p d g th x h)) h
        refine lv_aload_n hx hb dX6_odds_36 rfl (lv_at hl 0 rfl) ?_
        refine lv_aload_n hx hb dX6_odds_37 rfl (lv_at hl 2 rfl) ?_
        refine lv_aload_n hx hb dX6_odds_38 rfl (lv_at hl 0 rfl) ?_
        refine xk_get hx hb hts (inX6_odds_X6) hown hK hP 0 (by omega) (ci := 6) e1_well rfl 3 (by decide) (flX6_odds_32 hts) rfl (.ref (ad 22)) rfl dX6_odds_39 ?_
        refine lv_iload hx hb dX6_odds_42 (lv_at hl 4 rfl) ?_
        by_cases q_44 : rt p d g th x h
        · refine xk_fi (va_runV (As := [.ref (ad (9 + x)), .ref (ad 22), .int (nI h)]) (rest := []) ⟨hx, hb, hml, hown, hts⟩ (k1_isRight_t l hI (x := x) (h := h) (q := 22) hT (by omega) (by omega) (by omega) hR hp0 (by omega) q_44) (cwV 3 hts gX6_odds_X6_isRight rfl rfl rfl (by decide +kernel) ⟨Nat.le_of_ble_eq_true rfl, Nat.le_of_ble_eq_true rfl⟩) (xk_preV X1_ok hK hX hP (xk_recv hK hP 0 (by omega) (ci := 6) e1_well rfl)) rfl rfl hl.1 rfl (lv_room (Nat.le_of_ble_eq_true rfl)) dX6_odds_44 ⟨Nat.le_of_ble_eq_true rfl, Nat.le_of_ble_eq_true rfl⟩) hS (fun H locs hP hS => ?_)
          refine xn_zeq (tgt := 53) hx hb dX6_odds_47 (by decide) (by omega) (fun c_47 => absurd c_47 (by omega)) (fun c_47 => ?_)
          refine lv_iinc (v := nI (cb (fun h => decide (rt p d g th x h)) h + 1)) (lv' := [(4, .int (nI (cb (fun h => decide (rt p d g th x h)) h + 1))), (0, .ref (ad 0)), (2, .int (nI 0)), (3, .ref (ad (9 + x))), (5, .int (nI h))]) hx hb dX6_odds_50 hl (k := 3) rfl (xn_inc _ 1) (by decide) rfl (fun ls hl => ?_)
          refine lv_iinc (v := nI (h + 1)) (lv' := [(5, .int (nI (h + 1))), (4, .int (nI (cb (fun h => decide (rt p d g th x h)) h + 1))), (0, .ref (ad 0)), (2, .int (nI 0)), (3, .ref (ad (9 + x)))]) hx hb dX6_odds_53 hl (k := 4) rfl (xn_inc _ 1) (by decide) rfl (fun ls hl => ?_)
          refine lv_goto (tgt := 29) hx hb dX6_odds_56 (by decide) ?_
          have hcb : cb (fun h => decide (rt p d g th x h)) (h + 1) = cb (fun h => decide (rt p d g th x h)) h + 1 := by simp only [cb]; rw [if_pos (by simpa using q_44)]
          rw [← hcb] at hl
          exact ih_29 (h + 1) (by omega) (by omega) _ _ _ hP hS (lv_sub hl [2, 3, 4, 1, 0] rfl)
        · refine xk_fi (va_runV (As := [.ref (ad (9 + x)), .ref (ad 22), .int (nI h)]) (rest := []) ⟨hx, hb, hml, hown, hts⟩ (k1_isRight_f l hI (x := x) (h := h) (q := 22) hT (by omega) (by omega) (by omega) hR hp0 (by omega) q_44) (cwV 3 hts gX6_odds_X6_isRight rfl rfl rfl (by decide +kernel) ⟨Nat.le_of_ble_eq_true rfl, Nat.le_of_ble_eq_true rfl⟩) (xk_preV X1_ok hK hX hP (xk_recv hK hP 0 (by omega) (ci := 6) e1_well rfl)) rfl rfl hl.1 rfl (lv_room (Nat.le_of_ble_eq_true rfl)) dX6_odds_44 ⟨Nat.le_of_ble_eq_true rfl, Nat.le_of_ble_eq_true rfl⟩) hS (fun H locs hP hS => ?_)
          refine xn_zeq (tgt := 53) hx hb dX6_odds_47 (by decide) (by omega) (fun c_47 => ?_) (fun c_47 => absurd c_47 (by omega))
          refine lv_iinc (v := nI (h + 1)) (lv' := [(5, .int (nI (h + 1))), (0, .ref (ad 0)), (2, .int (nI 0)), (3, .ref (ad (9 + x))), (4, .int (nI (cb (fun h => decide (rt p d g th x h)) h)))]) hx hb dX6_odds_53 hl (k := 4) rfl (xn_inc _ 1) (by decide) rfl (fun ls hl => ?_)
          refine lv_goto (tgt := 29) hx hb dX6_odds_56 (by decide) ?_
          have hcb : cb (fun h => decide (rt p d g th x h)) (h + 1) = cb (fun h => decide (rt p d g th x h)) h := by simp only [cb]; rw [if_neg (by simpa using q_44)]
          rw [← hcb] at hl
          exact ih_29 (h + 1) (by omega) (by omega) _ _ _ hP hS (lv_sub hl [1, 2, 3, 4, 0] rfl)
  exact LP_29 _ 0 (by omega) (Nat.lt_succ_self _) _ _ _ hP hS (lv_sub hl [3, 5, 2, 1, 0] rfl)

set_option maxHeartbeats 4000000 in
set_option maxRecDepth 100000 in
theorem a1_odds_1 (l : Launch) {D : va_G} {ca : Nat → ClassId} {ad : Nat → Nat} (hI : Ij ad 34) {σ : Sg} {n p g rn : Nat} {d : Nat → Nat} {th rd : Nat → Nat → Nat} {sl sn : Nat → Nat} {sc : Nat → Nat → Int32} {ft tr : Int32} {x : Nat} (hJ : I1 n p g rn d th rd sl sn sc ft tr σ) (hxn : x < n) : C1l l D ca ad yX6_odds wsX6_odds { frames := 4, cells := 0, slots := 0, locals := 107 } [.ref (ad 0), .int (nI x), .int (nI 1)] σ (fun r σ' => r = lN (12 / Nat.gcd (cb (fun h => decide (rt p d g th x h)) 12) 12) ∧ I1 n p g rn d th rd sl sn sc ft tr σ') := by
  refine xk_entry cX6_odds 7 (some .long) (by decide) rfl (Nat.le_of_ble_eq_true rfl) ?_
  intro pP eE sS mM below meth cC hx hb hml hr hts hown hlk hP hK hX hS ls hl
  have hl : lv_has ls 7 [(0, .ref (ad 0)), (1, .int (nI x)), (2, .int (nI 1))] := hl
  obtain ⟨hT, hR, hRd, hSh, hnp, hft, htr⟩ := id hJ
  have hn5 := hT.2.2.1
  have hg9 := hT.2.2.2.1
  have hp6 := hR.2.1
  have hrn8 := hRd.2.1
  have hXx := hT.2.2.2.2 x hxn
  obtain ⟨ho0, ho1, ho2, ho3, ho4⟩ := hXx.2
  have hp0 := hnp.mp (by omega)
  refine lv_aload_n hx hb dX6_odds_0 rfl (lv_at hl 0 rfl) ?_
  refine lv_iload_n hx hb dX6_odds_1 rfl (lv_at hl 1 rfl) ?_
  refine xk_fa (va_runV (As := [.int (nI x)]) (rest := []) ⟨hx, hb, hml, hown, hts⟩ (k1_thingAt_in l hI (x := x) hT.2.1 hn5 (by omega)) (cwV 1 hts gX6_odds_X6_thingAt rfl rfl rfl (by decide +kernel) ⟨Nat.le_of_ble_eq_true rfl, Nat.le_of_ble_eq_true rfl⟩) (xk_preV X1_ok hK hX hP (xk_recv hK hP 0 (by omega) (ci := 6) e1_well rfl)) rfl rfl hl.1 rfl (lv_room (Nat.le_of_ble_eq_true rfl)) dX6_odds_2 ⟨Nat.le_of_ble_eq_true rfl, Nat.le_of_ble_eq_true rfl⟩) hS (fun H locs hP hS => ?_)
  refine lv_astore_n (lv' := [(3, .ref (ad (9 + x))), (0, .ref (ad 0)), (1, .int (nI x)), (2, .int (nI 1))]) hx hb dX6_odds_5 rfl hl (by decide) rfl (fun ls hl => ?_)
  refine lv_aload_n hx hb dX6_odds_6 rfl (lv_at hl 0 rfl) ?_
  refine lv_ifnull hx hb dX6_odds_7 ?_
  refine lv_iload_n hx hb dX6_odds_10 rfl (lv_at hl 3 rfl) ?_
  refine lv_iconst (v := nI 0) hx hb dX6_odds_11 (by decide) ?_
  refine lv_iconst (v := nI 1) hx hb dX6_odds_12 (by decide) ?_
  refine xk_fi (va_runS (As := [.int (nI 1), .int (nI 0), .int (nI 1)]) (rest := []) ⟨hx, hb, hml, hown, hts⟩ (k1_within_t l hI (nI 1) (nI 0) (nI 1) (xn_in (by omega) (by omega) (by omega))) (va_cwS 3 hts gX6_odds_X6_within rfl rfl rfl (by decide +kernel) ⟨Nat.le_of_ble_eq_true rfl, Nat.le_of_ble_eq_true rfl⟩) (xk_preS X1_ok hK hX hP) rfl rfl hl.1 rfl (lv_room (Nat.le_of_ble_eq_true rfl)) dX6_odds_13 ⟨Nat.le_of_ble_eq_true rfl, Nat.le_of_ble_eq_true rfl⟩) hS (fun H locs hP hS => ?_)
  refine xn_zne (tgt := 23) hx hb dX6_odds_16 (by decide) (by omega) (fun c_16 => ?_) (fun c_16 => absurd c_16 (by omega))
  refine lv_iconst (v := nI 0) hx hb dX6_odds_23 (by decide) ?_
  refine lv_istore (lv' := [(4, .int (nI 0)), (3, .ref (ad (9 + x))), (0, .ref (ad 0)), (1, .int (nI x)), (2, .int (nI 1))]) hx hb dX6_odds_24 hl (by decide) rfl (fun ls hl => ?_)
  refine lv_iconst (v := nI 0) hx hb dX6_odds_26 (by decide) ?_
  refine lv_istore (lv' := [(5, .int (nI 0)), (4, .int (nI 0)), (3, .ref (ad (9 + x))), (0, .ref (ad 0)), (1, .int (nI x)), (2, .int (nI 1))]) hx hb dX6_odds_27 hl (by decide) rfl (fun ls hl => ?_)
  have LP_29 : ∀ (n_29 : Nat) (h : Nat), (h ≤ 12) → (12 - h) < n_29 → ∀ (H : Heap) (locs : List Loc) (ls : Array Slot), va_P D vwCl (wl ad 34 (en1 ad ca σ)) H → va_S (AA ad 34) sS.heap H locs → lv_has ls 7 [(0, .ref (ad 0)), (2, .int (nI 1)), (3, .ref (ad (9 + x))), (4, .int (nI (cb (fun h => decide (rt p d g th x h)) h))), (5, .int (nI h))] → Wwl1 pP l eE { frames := 4, cells := 0, slots := 0, locals := 107 } sS mM [.ref (ad 0), .int (nI x), .int (nI 1)] below meth cC D ca ad (fun r σ' => r = lN (12 / Nat.gcd (cb (fun h => decide (rt p d g th x h)) 12) 12) ∧ I1 n p g rn d th rd sl sn sc ft tr σ') H locs (F0 mM 29 ls []) := by
    intro n_29
    induction n_29 with
    | zero =>
      intro h hh hn_29
      exact absurd hn_29 (Nat.not_lt_zero _)
    | succ n_29 ih_29 =>
      intro h hh hn_29 H locs ls hP hS hl
      refine lv_iload hx hb dX6_odds_29 (lv_at hl 4 rfl) ?_
      refine lv_bipush (v := nI 12) hx hb dX6_odds_31 (by decide) ?_
      refine xn_ige (tgt := 59) hx hb dX6_odds_33 (by decide) (by omega) (by omega) (fun c_33 => ?_) (fun c_33 => ?_)
      · have hh12 : h = 12 := by omega
        rw [hh12] at hl
        have hcl := cb_le (fun h => decide (rt p d g th x h)) 12
        have hcd := cmF_dvd (cb (fun h => decide (rt p d g th x h)) 12) hcl
        refine lv_iload_n hx hb dX6_odds_59 rfl (lv_at hl 1 rfl) ?_
        refine xn_zne (tgt := 68) hx hb dX6_odds_60 (by decide) (by omega) (fun c_60 => ?_) (fun c_60 => absurd c_60 (by omega))
        refine lv_bipush (v := nI 12) hx hb dX6_odds_68 (by decide) ?_
        refine lv_istore (lv' := [(5, .int (nI 12)), (0, .ref (ad 0)), (2, .int (nI 1)), (3, .ref (ad (9 + x))), (4, .int (nI (cb (fun h => decide (rt p d g th x h)) 12)))]) hx hb dX6_odds_70 hl (by decide) rfl (fun ls hl => ?_)
        refine lv_iload hx hb dX6_odds_72 (lv_at hl 4 rfl) ?_
        refine lv_bipush (v := nI 12) hx hb dX6_odds_74 (by decide) ?_
        refine xk_fi (va_runS (As := [.int (nI (cb (fun h => decide (rt p d g th x h)) 12)), .int (nI 12)]) (rest := []) ⟨hx, hb, hml, hown, hts⟩ (k1_cm l hI (a := cb (fun h => decide (rt p d g th x h)) 12) hcl) (va_cwS 2 hts gX6_odds_X6_commonMeasure rfl rfl rfl (by decide +kernel) ⟨Nat.le_of_ble_eq_true rfl, Nat.le_of_ble_eq_true rfl⟩) (xk_preS X1_ok hK hX hP) rfl rfl hl.1 rfl (lv_room (Nat.le_of_ble_eq_true rfl)) dX6_odds_76 ⟨Nat.le_of_ble_eq_true rfl, Nat.le_of_ble_eq_true rfl⟩) hS (fun H locs hP hS => ?_)
        refine lv_istore (lv' := [(6, .int (nI (cmF (cb (fun h => decide (rt p d g th x h)) 12) 12))), (5, .int (nI 12)), (0, .ref (ad 0)), (2, .int (nI 1)), (3, .ref (ad (9 + x))), (4, .int (nI (cb (fun h => decide (rt p d g th x h)) 12)))]) hx hb dX6_odds_79 hl (by decide) rfl (fun ls hl => ?_)
        refine lv_iload hx hb dX6_odds_81 (lv_at hl 0 rfl) ?_
        refine xn_zle (tgt := 95) hx hb dX6_odds_83 (by decide) (by omega) (fun c_83 => absurd c_83 (by omega)) (fun c_83 => ?_)
        refine lv_iload hx hb dX6_odds_86 (lv_at hl 1 rfl) ?_
        refine lv_iload hx hb dX6_odds_88 (lv_at hl 0 rfl) ?_
        refine xn_idiv hx hb (by omega) (by omega) (by omega) dX6_odds_90 ?_
        refine lv_i2l hx hb dX6_odds_91 rfl ?_
        refine lv_goto (tgt := 98) hx hb dX6_odds_92 (by decide) ?_
        exact xk_lret hx hb hr X1_ok hK hX hP hS hlk dX6_odds_98 (⟨by rw [nI_l (Nat.lt_of_le_of_lt (Nat.div_le_self _ _) (by omega)), cmF_gcd _ hcl], hJ⟩)
      · have hcl := cb_le (fun h => decide (rt p d g th x h)) h
        refine lv_aload_n hx hb dX6_odds_36 rfl (lv_at hl 0 rfl) ?_
        refine lv_aload_n hx hb dX6_odds_37 rfl (lv_at hl 2 rfl) ?_
        refine lv_aload_n hx hb dX6_odds_38 rfl (lv_at hl 0 rfl) ?_
        refine xk_get hx hb hts (inX6_odds_X6) hown hK hP 0 (by omega) (ci := 6) e1_well rfl 3 (by decide) (flX6_odds_32 hts) rfl (.ref (ad 22)) rfl dX6_odds_39 ?_
        refine lv_iload hx hb dX6_odds_42 (lv_at hl 4 rfl) ?_
        by_cases q_44 : rt p d g th x h
        · refine xk_fi (va_runV (As := [.ref (ad (9 + x)), .ref (ad 22), .int (nI h)]) (rest := []) ⟨hx, hb, hml, hown, hts⟩ (k1_isRight_t l hI (x := x) (h := h) (q := 22) hT (by omega) (by omega) (by omega) hR hp0 (by omega) q_44) (cwV 3 hts gX6_odds_X6_isRight rfl rfl rfl (by decide +kernel) ⟨Nat.le_of_ble_eq_true rfl, Nat.le_of_ble_eq_true rfl⟩) (xk_preV X1_ok hK hX hP (xk_recv hK hP 0 (by omega) (ci := 6) e1_well rfl)) rfl rfl hl.1 rfl (lv_room (Nat.le_of_ble_eq_true rfl)) dX6_odds_44 ⟨Nat.le_of_ble_eq_true rfl, Nat.le_of_ble_eq_true rfl⟩) hS (fun H locs hP hS => ?_)
          refine xn_zeq (tgt := 53) hx hb dX6_odds_47 (by decide) (by omega) (fun c_47 => absurd c_47 (by omega)) (fun c_47 => ?_)
          refine lv_iinc (v := nI (cb (fun h => decide (rt p d g th x h)) h + 1)) (lv' := [(4, .int (nI (cb (fun h => decide (rt p d g th x h)) h + 1))), (0, .ref (ad 0)), (2, .int (nI 1)), (3, .ref (ad (9 + x))), (5, .int (nI h))]) hx hb dX6_odds_50 hl (k := 3) rfl (xn_inc _ 1) (by decide) rfl (fun ls hl => ?_)
          refine lv_iinc (v := nI (h + 1)) (lv' := [(5, .int (nI (h + 1))), (4, .int (nI (cb (fun h => decide (rt p d g th x h)) h + 1))), (0, .ref (ad 0)), (2, .int (nI 1)), (3, .ref (ad (9 + x)))]) hx hb dX6_odds_53 hl (k := 4) rfl (xn_inc _ 1) (by decide) rfl (fun ls hl => ?_)
          refine lv_goto (tgt := 29) hx hb dX6_odds_56 (by decide) ?_
          have hcb : cb (fun h => decide (rt p d g th x h)) (h + 1) = cb (fun h => decide (rt p d g th x h)) h + 1 := by simp only [cb]; rw [if_pos (by simpa using q_44)]
          rw [← hcb] at hl
          exact ih_29 (h + 1) (by omega) (by omega) _ _ _ hP hS (lv_sub hl [2, 3, 4, 1, 0] rfl)
        · refine xk_fi (va_runV (As := [.ref (ad (9 + x)), .ref (ad 22), .int (nI h)]) (rest := []) ⟨hx, hb, hml, hown, hts⟩ (k1_isRight_f l hI (x := x) (h := h) (q := 22) hT (by omega) (by omega) (by omega) hR hp0 (by omega) q_44) (cwV 3 hts gX6_odds_X6_isRight rfl rfl rfl (by decide +kernel) ⟨Nat.le_of_ble_eq_true rfl, Nat.le_of_ble_eq_true rfl⟩) (xk_preV X1_ok hK hX hP (xk_recv hK hP 0 (by omega) (ci := 6) e1_well rfl)) rfl rfl hl.1 rfl (lv_room (Nat.le_of_ble_eq_true rfl)) dX6_odds_44 ⟨Nat.le_of_ble_eq_true rfl, Nat.le_of_ble_eq_true rfl⟩) hS (fun H locs hP hS => ?_)
          refine xn_zeq (tgt := 53) hx hb dX6_odds_47 (by decide) (by omega) (fun c_47 => ?_) (fun c_47 => absurd c_47 (by omega))
          refine lv_iinc (v := nI (h + 1)) (lv' := [(5, .int (nI (h + 1))), (0, .ref (ad 0)), (2, .int (nI 1)), (3, .ref (ad (9 + x))), (4, .int (nI (cb (fun h => decide (rt p d g th x h)) h)))]) hx hb dX6_odds_53 hl (k := 4) rfl (xn_inc _ 1) (by decide) rfl (fun ls hl => ?_)
          refine lv_goto (tgt := 29) hx hb dX6_odds_56 (by decide) ?_
          have hcb : cb (fun h => decide (rt p d g th x h)) (h + 1) = cb (fun h => decide (rt p d g th x h)) h := by simp only [cb]; rw [if_neg (by simpa using q_44)]
          rw [← hcb] at hl
          exact ih_29 (h + 1) (by omega) (by omega) _ _ _ hP hS (lv_sub hl [1, 2, 3, 4, 0] rfl)
  exact LP_29 _ 0 (by omega) (Nat.lt_succ_self _) _ _ _ hP hS (lv_sub hl [3, 5, 2, 1, 0] rfl)
