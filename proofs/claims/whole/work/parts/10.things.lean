/-! the class as a whole -/
/-- a thing's delay: kind, depth, weight -/
def dly (k g w : Nat) : Nat := if k = 1 then g + w - 1 else if k = 2 then 2 * (g + w) else g + w
theorem dly_le {k g w : Nat} (hg : g ≤ 9) (hw : w ≤ 9) : dly k g w ≤ 36 := by
  unfold dly
  split
  · omega
  · split <;> omega
def dz (c : Nat) : Int32 := if c = 5 then -9 else nI c
def ThOk (th : Nat → Nat → Nat) (x : Nat) : Prop := th x 0 < 3 ∧ th x 1 ≤ 9 ∧ th x 2 < 5 ∧ th x 3 < 5 ∧ th x 4 ≤ 9
def ThingsAt (σ : Sg) (n g : Nat) (th : Nat → Nat → Nat) : Prop := σ 0 8 = nI g ∧ σ 0 9 = nI n ∧ n ≤ 5 ∧ g ≤ 9 ∧ ∀ x, x < n → (∀ f, f < 5 → σ (9 + x) f = nI (th x f)) ∧ ThOk th x
def ReadsAt (σ : Sg) (rn n : Nat) (rd : Nat → Nat → Nat) : Prop := σ 0 10 = nI rn ∧ rn ≤ 8 ∧ ∀ k, k < rn → σ (14 + k) 0 = nI (rd k 0) ∧ σ (14 + k) 1 = nI (rd k 1) ∧ σ (14 + k) 2 = dz (rd k 2) ∧ rd k 0 < n ∧ rd k 1 ≤ 23 ∧ rd k 2 ≤ 5
abbrev dl (g : Nat) (th : Nat → Nat → Nat) (x : Nat) : Nat := dly (th x 0) g (th x 1)
/-- a thing is right in an hour -/
abbrev rt (p : Nat) (d : Nat → Nat) (g : Nat) (th : Nat → Nat → Nat) (x h : Nat) : Prop := oth p d (th x 2) h (dl g th x) = nI (th x 3)
/-- how many, which -/
def cb (f : Nat → Bool) : Nat → Nat
  | 0 => 0
  | n + 1 => if f n then cb f n + 1 else cb f n
def sbt (f : Nat → Bool) : Nat → Int32
  | 0 => 0
  | n + 1 => if f n then sbt f n ||| (nI 1 <<< (nI n &&& 31)) else sbt f n
theorem cb_le (f : Nat → Bool) : ∀ n, cb f n ≤ n := by
  intro n
  induction n with
  | zero => exact Nat.le_refl _
  | succ n ih => simp only [cb]; split <;> omega
theorem cb_congr {f g : Nat → Bool} : ∀ n, (∀ x, x < n → f x = g x) → cb f n = cb g n := by
  intro n
  induction n with
  | zero => intro _; rfl
  | succ n ih => intro h; simp only [cb, ih (fun x hx => h x (by omega)), h n (by omega)]
theorem mx0 {a : Nat} (ha : a < 2 ^ 31) : (if nI 0 < nI a then nI a else nI 0) = nI a := by
  by_cases h : a = 0
  · subst h
    rfl
  · exact if_pos ((nI_ltI (by decide) ha).mpr (by omega))

set_option maxHeartbeats 4000000 in
set_option maxRecDepth 100000 in
theorem k1_delayBy (l : Launch) {D : va_G} {ca : Nat → ClassId} {ad : Nat → Nat} (hI : Ij ad 34) {σ : Sg} {k g w : Nat} (hk : k < 3) (hg : g ≤ 9) (hw : w ≤ 9) : C1i l D ca ad yX6_delayBy wsX6_delayBy { frames := 1, cells := 0, slots := 0, locals := 40 } [.int (nI k), .int (nI g), .int (nI w)] σ (xFn (nI (dly k g w)) σ) := by
  refine xk_entry cX6_delayBy 4 (some .int) (by decide) rfl (Nat.le_of_ble_eq_true rfl) ?_
  intro pP eE sS mM below meth cC hx hb hml hr hts hown hlk hP hK hX hS ls hl
  have hl : lv_has ls 4 [(0, .int (nI k)), (1, .int (nI g)), (2, .int (nI w))] := hl
  refine lv_iload_n hx hb dX6_delayBy_0 rfl (lv_at hl 1 rfl) ?_
  refine lv_iload_n hx hb dX6_delayBy_1 rfl (lv_at hl 2 rfl) ?_
  refine xn_iadd hx hb dX6_delayBy_2 ?_
  refine lv_istore_n (lv' := [(3, .int (nI (g + w))), (0, .int (nI k)), (1, .int (nI g)), (2, .int (nI w))]) hx hb dX6_delayBy_3 rfl hl (by decide) rfl (fun ls hl => ?_)
  refine lv_iload_n hx hb dX6_delayBy_4 rfl (lv_at hl 1 rfl) ?_
  refine lv_iconst (v := nI 1) hx hb dX6_delayBy_5 (by decide) ?_
  refine xn_ine (tgt := 17) hx hb dX6_delayBy_6 (by decide) (by omega) (by omega) (fun c_6 => ?_) (fun c_6 => ?_)
  · refine lv_iload_n hx hb dX6_delayBy_17 rfl (lv_at hl 1 rfl) ?_
    refine lv_iconst (v := nI 2) hx hb dX6_delayBy_18 (by decide) ?_
    refine xn_ine (tgt := 28) hx hb dX6_delayBy_19 (by decide) (by omega) (by omega) (fun c_19 => ?_) (fun c_19 => ?_)
    · refine lv_iload_n hx hb dX6_delayBy_28 rfl (lv_at hl 0 rfl) ?_
      exact xk_iret hx hb hr (vp_nar_int _) X1_ok hK hX hP hS hlk dX6_delayBy_29 (⟨by rw [dly, if_neg c_6, if_neg c_19], rfl⟩)
    · refine lv_iconst (v := nI 2) hx hb dX6_delayBy_22 (by decide) ?_
      refine lv_iload_n hx hb dX6_delayBy_23 rfl (lv_at hl 0 rfl) ?_
      refine xn_imul hx hb dX6_delayBy_24 ?_
      refine lv_goto (tgt := 29) hx hb dX6_delayBy_25 (by decide) ?_
      exact xk_iret hx hb hr (vp_nar_int _) X1_ok hK hX hP hS hlk dX6_delayBy_29 (⟨by rw [dly, if_neg c_6, if_pos c_19], rfl⟩)
  · refine lv_iconst (v := nI 0) hx hb dX6_delayBy_9 (by decide) ?_
    refine lv_iload_n hx hb dX6_delayBy_10 rfl (lv_at hl 0 rfl) ?_
    refine lv_iconst (v := nI 1) hx hb dX6_delayBy_11 (by decide) ?_
    by_cases q_12 : g + w = 0
    · refine lv_isub hx hb dX6_delayBy_12 ?_
      refine xn_eqi (y := (-1)) (by rw [q_12]; rfl) ?_
      refine va_mmax hx hb (hml.trans hl.1.symm) (own := RX6) hown (hts (.methodLink RX6 273 Lib.Math.max.name) (by decide +kernel)) (hts (.static Lib.Math.max.name) (by decide +kernel)) (hts (.initialized "java/lang/Math") (by decide +kernel)) (hts (.code Lib.Math.max.name Lib.Math.max.code 2 (some .int)) (by decide +kernel)) (Nat.le_of_ble_eq_true rfl) (Nat.le_of_ble_eq_true rfl) (Nat.zero_le _) (Nat.zero_le _) dX6_delayBy_13 ?_
      refine xn_eqi (y := nI 0) (if_neg (by decide)) ?_
      exact xk_iret hx hb hr (vp_nar_int _) X1_ok hK hX hP hS hlk dX6_delayBy_16 (⟨by rw [dly, if_pos c_6, q_12], rfl⟩)
    · refine xn_isub hx hb (by omega) dX6_delayBy_12 ?_
      refine va_mmax hx hb (hml.trans hl.1.symm) (own := RX6) hown (hts (.methodLink RX6 273 Lib.Math.max.name) (by decide +kernel)) (hts (.static Lib.Math.max.name) (by decide +kernel)) (hts (.initialized "java/lang/Math") (by decide +kernel)) (hts (.code Lib.Math.max.name Lib.Math.max.code 2 (some .int)) (by decide +kernel)) (Nat.le_of_ble_eq_true rfl) (Nat.le_of_ble_eq_true rfl) (Nat.zero_le _) (Nat.zero_le _) dX6_delayBy_13 ?_
      refine xn_eqi (y := nI (g + w - 1)) (mx0 (by omega)) ?_
      exact xk_iret hx hb hr (vp_nar_int _) X1_ok hK hX hP hS hlk dX6_delayBy_16 (⟨by rw [dly, if_pos c_6], rfl⟩)

set_option maxRecDepth 20000 in
theorem flX6_delayOf_97 {s : State} {av : Array Value} (hts : ∀ w ∈ wsX6_delayOf, w.before av s = true) : (Cond.fieldLink RX6 97 "WellBack$Thing" "kind" "I").before av s = true := hts _ (by decide +kernel)
set_option maxRecDepth 20000 in
theorem flX6_delayOf_100 {s : State} {av : Array Value} (hts : ∀ w ∈ wsX6_delayOf, w.before av s = true) : (Cond.fieldLink RX6 100 "WellBack$Thing" "weight" "I").before av s = true := hts _ (by decide +kernel)
set_option maxRecDepth 20000 in
theorem flX6_delayOf_123 {s : State} {av : Array Value} (hts : ∀ w ∈ wsX6_delayOf, w.before av s = true) : (Cond.fieldLink RX6 123 "WellBack" "depth" "I").before av s = true := hts _ (by decide +kernel)
set_option maxRecDepth 20000 in
theorem inX6_delayOf_X4 : ∀ w ∈ u_ws RX4 TX4 5, w ∈ wsX6_delayOf := by decide +kernel
set_option maxRecDepth 20000 in
theorem inX6_delayOf_X6 : ∀ w ∈ u_ws RX6 TX6 13, w ∈ wsX6_delayOf := by decide +kernel
set_option maxHeartbeats 4000000 in
set_option maxRecDepth 100000 in
theorem k1_delayOf (l : Launch) {D : va_G} {ca : Nat → ClassId} {ad : Nat → Nat} (hI : Ij ad 34) {σ : Sg} {n g : Nat} {th : Nat → Nat → Nat} {x : Nat} (hT : ThingsAt σ n g th) (hxn : x < n) : C1i l D ca ad yX6_delayOf wsX6_delayOf { frames := 2, cells := 0, slots := 0, locals := 63 } [.ref (ad 0), .ref (ad (9 + x))] σ (xFn (nI (dl g th x)) σ) := by
  refine xk_entry cX6_delayOf 2 (some .int) (by decide) rfl (Nat.le_of_ble_eq_true rfl) ?_
  intro pP eE sS mM below meth cC hx hb hml hr hts hown hlk hP hK hX hS ls hl
  have hl : lv_has ls 2 [(0, .ref (ad 0)), (1, .ref (ad (9 + x)))] := hl
  have hn5 := hT.2.2.1
  have hg9 := hT.2.2.2.1
  have hXx := hT.2.2.2.2 x hxn
  obtain ⟨ho0, ho1, ho2, ho3, ho4⟩ := hXx.2
  refine lv_aload_n hx hb dX6_delayOf_0 rfl (lv_at hl 1 rfl) ?_
  refine xk_get hx hb hts (inX6_delayOf_X4) hown hK hP (9 + x) (by omega) (ci := 4) (e1_thing (by omega) (by omega)) rfl 0 (by decide) (flX6_delayOf_97 hts) rfl (.int (σ (9 + x) 0)) rfl dX6_delayOf_1 ?_
  refine xn_eqi (y := nI (th x 0)) (hXx.1 0 (by omega)) ?_
  refine lv_aload_n hx hb dX6_delayOf_4 rfl (lv_at hl 0 rfl) ?_
  refine xk_get hx hb hts (inX6_delayOf_X6) hown hK hP 0 (by omega) (ci := 6) e1_well rfl 8 (by decide) (flX6_delayOf_123 hts) rfl (.int (σ 0 8)) rfl dX6_delayOf_5 ?_
  refine xn_eqi (y := nI g) hT.1 ?_
  refine lv_aload_n hx hb dX6_delayOf_8 rfl (lv_at hl 1 rfl) ?_
  refine xk_get hx hb hts (inX6_delayOf_X4) hown hK hP (9 + x) (by omega) (ci := 4) (e1_thing (by omega) (by omega)) rfl 1 (by decide) (flX6_delayOf_100 hts) rfl (.int (σ (9 + x) 1)) rfl dX6_delayOf_9 ?_
  refine xn_eqi (y := nI (th x 1)) (hXx.1 1 (by omega)) ?_
  refine xk_fi (va_runS (As := [.int (nI (th x 0)), .int (nI g), .int (nI (th x 1))]) (rest := []) ⟨hx, hb, hml, hown, hts⟩ (k1_delayBy l hI (k := th x 0) (g := g) (w := th x 1) (by omega) (by omega) (by omega)) (va_cwS 3 hts gX6_delayOf_X6_delayBy rfl rfl rfl (by decide +kernel) ⟨Nat.le_of_ble_eq_true rfl, Nat.le_of_ble_eq_true rfl⟩) (xk_preS X1_ok hK hX hP) rfl rfl hl.1 rfl (lv_room (Nat.le_of_ble_eq_true rfl)) dX6_delayOf_12 ⟨Nat.le_of_ble_eq_true rfl, Nat.le_of_ble_eq_true rfl⟩) hS (fun H locs hP hS => ?_)
  exact xk_iret hx hb hr (vp_nar_int _) X1_ok hK hX hP hS hlk dX6_delayOf_15 (⟨rfl, rfl⟩)

set_option maxRecDepth 20000 in
theorem flX6_isRight_103 {s : State} {av : Array Value} (hts : ∀ w ∈ wsX6_isRight, w.before av s = true) : (Cond.fieldLink RX6 103 "WellBack$Thing" "owner" "I").before av s = true := hts _ (by decide +kernel)
set_option maxRecDepth 20000 in
theorem flX6_isRight_106 {s : State} {av : Array Value} (hts : ∀ w ∈ wsX6_isRight, w.before av s = true) : (Cond.fieldLink RX6 106 "WellBack$Thing" "goal" "I").before av s = true := hts _ (by decide +kernel)
set_option maxRecDepth 20000 in
theorem inX6_isRight_X4 : ∀ w ∈ u_ws RX4 TX4 5, w ∈ wsX6_isRight := by decide +kernel
set_option maxHeartbeats 4000000 in
set_option maxRecDepth 100000 in
theorem k1_isRight (l : Launch) {D : va_G} {ca : Nat → ClassId} {ad : Nat → Nat} (hI : Ij ad 34) {σ : Sg} {n g : Nat} {th : Nat → Nat → Nat} {x h : Nat} {q p : Nat} {d : Nat → Nat} (hT : ThingsAt σ n g th) (hxn : x < n) (hq1 : 22 ≤ q) (hq2 : q < 25) (hR : RotaAt σ q p d) (hp0 : 0 < p) (hh : h ≤ 99) : C1i l D ca ad yX6_isRight wsX6_isRight { frames := 3, cells := 0, slots := 0, locals := 84 } [.ref (ad 0), .ref (ad (9 + x)), .ref (ad q), .int (nI h)] σ (xFn (bz (rt p d g th x h)) σ) := by
  refine xk_entry cX6_isRight 4 (some .boolean) (by decide) rfl (Nat.le_of_ble_eq_true rfl) ?_
  intro pP eE sS mM below meth cC hx hb hml hr hts hown hlk hP hK hX hS ls hl
  have hl : lv_has ls 4 [(0, .ref (ad 0)), (1, .ref (ad (9 + x))), (2, .ref (ad q)), (3, .int (nI h))] := hl
  have hn5 := hT.2.2.1
  have hg9 := hT.2.2.2.1
  have hXx := hT.2.2.2.2 x hxn
  obtain ⟨ho0, ho1, ho2, ho3, ho4⟩ := hXx.2
  refine lv_aload_n hx hb dX6_isRight_0 rfl (lv_at hl 2 rfl) ?_
  refine lv_aload_n hx hb dX6_isRight_1 rfl (lv_at hl 1 rfl) ?_
  refine xk_get hx hb hts (inX6_isRight_X4) hown hK hP (9 + x) (by omega) (ci := 4) (e1_thing (by omega) (by omega)) rfl 2 (by decide) (flX6_isRight_103 hts) rfl (.int (σ (9 + x) 2)) rfl dX6_isRight_2 ?_
  refine xn_eqi (y := nI (th x 2)) (hXx.1 2 (by omega)) ?_
  refine lv_iload_n hx hb dX6_isRight_5 rfl (lv_at hl 3 rfl) ?_
  refine lv_aload_n hx hb dX6_isRight_6 rfl (lv_at hl 0 rfl) ?_
  refine lv_aload_n hx hb dX6_isRight_7 rfl (lv_at hl 1 rfl) ?_
  refine xk_fi (va_runV (As := [.ref (ad (9 + x))]) (rest := [.int (nI h), .int (nI (th x 2)), .ref (ad q)]) ⟨hx, hb, hml, hown, hts⟩ (k1_delayOf l hI (x := x) hT (by omega)) (cwV 1 hts gX6_isRight_X6_delayOf rfl rfl rfl (by decide +kernel) ⟨Nat.le_of_ble_eq_true rfl, Nat.le_of_ble_eq_true rfl⟩) (xk_preV X1_ok hK hX hP (xk_recv hK hP 0 (by omega) (ci := 6) e1_well rfl)) rfl rfl hl.1 rfl (lv_room (Nat.le_of_ble_eq_true rfl)) dX6_isRight_8 ⟨Nat.le_of_ble_eq_true rfl, Nat.le_of_ble_eq_true rfl⟩) hS (fun H locs hP hS => ?_)
  have hdl_8 : dl g th x ≤ 36 := dly_le hg9 ho1
  refine xk_fi (va_runV (As := [.int (nI (th x 2)), .int (nI h), .int (nI (dl g th x))]) (rest := []) ⟨hx, hb, hml, hown, hts⟩ (k1_other l hI (q := q) (d := d) (e := th x 2) (h := h) (y := dl g th x) (by omega) (by omega) hR (by omega) (by omega) (by omega)) (cwV 3 hts gX6_isRight_X1_otherDrawer rfl rfl rfl (by decide +kernel) ⟨Nat.le_of_ble_eq_true rfl, Nat.le_of_ble_eq_true rfl⟩) (xk_preV X1_ok hK hX hP (xk_recv hK hP q (by omega) (ci := 1) (e1_rota (by omega) (by omega)) rfl)) rfl rfl hl.1 rfl (lv_room (Nat.le_of_ble_eq_true rfl)) dX6_isRight_11 ⟨Nat.le_of_ble_eq_true rfl, Nat.le_of_ble_eq_true rfl⟩) hS (fun H locs hP hS => ?_)
  refine lv_aload_n hx hb dX6_isRight_14 rfl (lv_at hl 1 rfl) ?_
  refine xk_get hx hb hts (inX6_isRight_X4) hown hK hP (9 + x) (by omega) (ci := 4) (e1_thing (by omega) (by omega)) rfl 3 (by decide) (flX6_isRight_106 hts) rfl (.int (σ (9 + x) 3)) rfl dX6_isRight_15 ?_
  refine xn_eqi (y := nI (th x 3)) (hXx.1 3 (by omega)) ?_
  refine lv_icmp_ne (tgt := 25) hx hb dX6_isRight_18 (by decide) (fun c_18 => ?_) (fun c_18 => ?_)
  · refine lv_iconst (v := nI 0) hx hb dX6_isRight_25 (by decide) ?_
    exact xk_iret hx hb hr rfl X1_ok hK hX hP hS hlk dX6_isRight_26 (⟨(bz_f c_18).symm, rfl⟩)
  · refine lv_iconst (v := nI 1) hx hb dX6_isRight_21 (by decide) ?_
    refine lv_goto (tgt := 26) hx hb dX6_isRight_22 (by decide) ?_
    exact xk_iret hx hb hr rfl X1_ok hK hX hP hS hlk dX6_isRight_26 (⟨(bz_t c_18).symm, rfl⟩)

theorem k1_isRight_t (l : Launch) {D : va_G} {ca : Nat → ClassId} {ad : Nat → Nat} (hI : Ij ad 34) {σ : Sg} {n g : Nat} {th : Nat → Nat → Nat} {x h : Nat} {q p : Nat} {d : Nat → Nat} (hT : ThingsAt σ n g th) (hxn : x < n) (hq1 : 22 ≤ q) (hq2 : q < 25) (hR : RotaAt σ q p d) (hp0 : 0 < p) (hh : h ≤ 99) (hz : rt p d g th x h) : C1i l D ca ad yX6_isRight wsX6_isRight { frames := 3, cells := 0, slots := 0, locals := 84 } [.ref (ad 0), .ref (ad (9 + x)), .ref (ad q), .int (nI h)] σ (xFn (nI 1) σ) := by
  have k := k1_isRight l (D := D) (ca := ca) hI hT hxn hq1 hq2 hR hp0 hh
  rwa [bz_t hz] at k

theorem k1_isRight_f (l : Launch) {D : va_G} {ca : Nat → ClassId} {ad : Nat → Nat} (hI : Ij ad 34) {σ : Sg} {n g : Nat} {th : Nat → Nat → Nat} {x h : Nat} {q p : Nat} {d : Nat → Nat} (hT : ThingsAt σ n g th) (hxn : x < n) (hq1 : 22 ≤ q) (hq2 : q < 25) (hR : RotaAt σ q p d) (hp0 : 0 < p) (hh : h ≤ 99) (hz : ¬ rt p d g th x h) : C1i l D ca ad yX6_isRight wsX6_isRight { frames := 3, cells := 0, slots := 0, locals := 84 } [.ref (ad 0), .ref (ad (9 + x)), .ref (ad q), .int (nI h)] σ (xFn (nI 0) σ) := by
  have k := k1_isRight l (D := D) (ca := ca) hI hT hxn hq1 hq2 hR hp0 hh
  rwa [bz_f hz] at k

set_option maxRecDepth 20000 in
theorem flX6_rightOnesBy_90 {s : State} {av : Array Value} (hts : ∀ w ∈ wsX6_rightOnesBy, w.before av s = true) : (Cond.fieldLink RX6 90 "WellBack" "thingCount" "I").before av s = true := hts _ (by decide +kernel)
set_option maxRecDepth 20000 in
theorem flX6_rightOnesBy_109 {s : State} {av : Array Value} (hts : ∀ w ∈ wsX6_rightOnesBy, w.before av s = true) : (Cond.fieldLink RX6 109 "WellBack$Thing" "hour" "I").before av s = true := hts _ (by decide +kernel)
set_option maxRecDepth 20000 in
theorem inX6_rightOnesBy_X4 : ∀ w ∈ u_ws RX4 TX4 5, w ∈ wsX6_rightOnesBy := by decide +kernel
set_option maxRecDepth 20000 in
theorem inX6_rightOnesBy_X6 : ∀ w ∈ u_ws RX6 TX6 13, w ∈ wsX6_rightOnesBy := by decide +kernel
set_option maxHeartbeats 4000000 in
set_option maxRecDepth 100000 in
theorem k1_rightBy (l : Launch) {D : va_G} {ca : Nat → ClassId} {ad : Nat → Nat} (hI : Ij ad 34) {σ : Sg} {n g : Nat} {th : Nat → Nat → Nat} {q p : Nat} {d : Nat → Nat} (hT : ThingsAt σ n g th) (hq1 : 22 ≤ q) (hq2 : q < 25) (hR : RotaAt σ q p d) (hp0 : 0 < p) : C1i l D ca ad yX6_rightOnesBy wsX6_rightOnesBy { frames := 4, cells := 0, slots := 0, locals := 107 } [.ref (ad 0), .ref (ad q)] σ (xFn (nI (cb (fun x => decide (rt p d g th x (th x 4))) n)) σ) := by
  refine xk_entry cX6_rightOnesBy 5 (some .int) (by decide) rfl (Nat.le_of_ble_eq_true rfl) ?_
  intro pP eE sS mM below meth cC hx hb hml hr hts hown hlk hP hK hX hS ls hl
  have hl : lv_has ls 5 [(0, .ref (ad 0)), (1, .ref (ad q))] := hl
  have hn5 := hT.2.2.1
  have hg9 := hT.2.2.2.1
  refine lv_iconst (v := nI 0) hx hb dX6_rightOnesBy_0 (by decide) ?_
  refine lv_istore_n (lv' := [(2, .int (nI 0)), (0, .ref (ad 0)), (1, .ref (ad q))]) hx hb dX6_rightOnesBy_1 rfl hl (by decide) rfl (fun ls hl => ?_)
  refine lv_iconst (v := nI 0) hx hb dX6_rightOnesBy_2 (by decide) ?_
  refine lv_istore_n (lv' := [(3, .int (nI 0)), (2, .int (nI 0)), (0, .ref (ad 0)), (1, .ref (ad q))]) hx hb dX6_rightOnesBy_3 rfl hl (by decide) rfl (fun ls hl => ?_)
  have LP_4 : ∀ (n_4 : Nat) (x : Nat), (x ≤ n) → (n - x) < n_4 → ∀ (H : Heap) (locs : List Loc) (ls : Array Slot), va_P D vwCl (wl ad 34 (en1 ad ca σ)) H → va_S (AA ad 34) sS.heap H locs → lv_has ls 5 [(0, .ref (ad 0)), (1, .ref (ad q)), (2, .int (nI (cb (fun x => decide (rt p d g th x (th x 4))) x))), (3, .int (nI x))] → Wwi1 pP l eE { frames := 4, cells := 0, slots := 0, locals := 107 } sS mM [.ref (ad 0), .ref (ad q)] below meth cC D ca ad (xFn (nI (cb (fun x => decide (rt p d g th x (th x 4))) n)) σ) H locs (F0 mM 4 ls []) := by
    intro n_4
    induction n_4 with
    | zero =>
      intro x hx0 hn_4
      exact absurd hn_4 (Nat.not_lt_zero _)
    | succ n_4 ih_4 =>
      intro x hx0 hn_4 H locs ls hP hS hl
      refine lv_iload_n hx hb dX6_rightOnesBy_4 rfl (lv_at hl 3 rfl) ?_
      refine lv_aload_n hx hb dX6_rightOnesBy_5 rfl (lv_at hl 0 rfl) ?_
      refine xk_get hx hb hts (inX6_rightOnesBy_X6) hown hK hP 0 (by omega) (ci := 6) e1_well rfl 9 (by decide) (flX6_rightOnesBy_90 hts) rfl (.int (σ 0 9)) rfl dX6_rightOnesBy_6 ?_
      refine xn_eqi (y := nI n) hT.2.1 ?_
      refine xn_ige (tgt := 48) hx hb dX6_rightOnesBy_9 (by decide) (by omega) (by omega) (fun c_9 => ?_) (fun c_9 => ?_)
      · refine lv_iload_n hx hb dX6_rightOnesBy_48 rfl (lv_at hl 2 rfl) ?_
        exact xk_iret hx hb hr (vp_nar_int _) X1_ok hK hX hP hS hlk dX6_rightOnesBy_49 (⟨by rw [show x = n by omega], rfl⟩)
      · have hXx := hT.2.2.2.2 x c_9
        obtain ⟨ho0, ho1, ho2, ho3, ho4⟩ := hXx.2
        have hcbl := cb_le (fun x => decide (rt p d g th x (th x 4))) x
        refine lv_aload_n hx hb dX6_rightOnesBy_12 rfl (lv_at hl 0 rfl) ?_
        refine lv_iload_n hx hb dX6_rightOnesBy_13 rfl (lv_at hl 3 rfl) ?_
        refine xk_fa (va_runV (As := [.int (nI x)]) (rest := []) ⟨hx, hb, hml, hown, hts⟩ (k1_thingAt_in l hI (x := x) hT.2.1 hn5 (by omega)) (cwV 1 hts gX6_rightOnesBy_X6_thingAt rfl rfl rfl (by decide +kernel) ⟨Nat.le_of_ble_eq_true rfl, Nat.le_of_ble_eq_true rfl⟩) (xk_preV X1_ok hK hX hP (xk_recv hK hP 0 (by omega) (ci := 6) e1_well rfl)) rfl rfl hl.1 rfl (lv_room (Nat.le_of_ble_eq_true rfl)) dX6_rightOnesBy_14 ⟨Nat.le_of_ble_eq_true rfl, Nat.le_of_ble_eq_true rfl⟩) hS (fun H locs hP hS => ?_)
        refine lv_astore (lv' := [(4, .ref (ad (9 + x))), (0, .ref (ad 0)), (1, .ref (ad q)), (2, .int (nI (cb (fun x => decide (rt p d g th x (th x 4))) x))), (3, .int (nI x))]) hx hb dX6_rightOnesBy_17 hl (by decide) rfl (fun ls hl => ?_)
        refine lv_aload hx hb dX6_rightOnesBy_19 (lv_at hl 0 rfl) ?_
        refine lv_ifnull hx hb dX6_rightOnesBy_21 ?_
        refine lv_aload_n hx hb dX6_rightOnesBy_24 rfl (lv_at hl 1 rfl) ?_
        refine lv_aload hx hb dX6_rightOnesBy_25 (lv_at hl 0 rfl) ?_
        refine lv_aload_n hx hb dX6_rightOnesBy_27 rfl (lv_at hl 2 rfl) ?_
        refine lv_aload hx hb dX6_rightOnesBy_28 (lv_at hl 0 rfl) ?_
        refine xk_get hx hb hts (inX6_rightOnesBy_X4) hown hK hP (9 + x) (by omega) (ci := 4) (e1_thing (by omega) (by omega)) rfl 4 (by decide) (flX6_rightOnesBy_109 hts) rfl (.int (σ (9 + x) 4)) rfl dX6_rightOnesBy_30 ?_
        refine xn_eqi (y := nI (th x 4)) (hXx.1 4 (by omega)) ?_
        by_cases q_33 : rt p d g th x (th x 4)
        · refine xk_fi (va_runV (As := [.ref (ad (9 + x)), .ref (ad q), .int (nI (th x 4))]) (rest := []) ⟨hx, hb, hml, hown, hts⟩ (k1_isRight_t l hI (x := x) (h := th x 4) (q := q) hT (by omega) (by omega) (by omega) hR hp0 (by omega) q_33) (cwV 3 hts gX6_rightOnesBy_X6_isRight rfl rfl rfl (by decide +kernel) ⟨Nat.le_of_ble_eq_true rfl, Nat.le_of_ble_eq_true rfl⟩) (xk_preV X1_ok hK hX hP (xk_recv hK hP 0 (by omega) (ci := 6) e1_well rfl)) rfl rfl hl.1 rfl (lv_room (Nat.le_of_ble_eq_true rfl)) dX6_rightOnesBy_33 ⟨Nat.le_of_ble_eq_true rfl, Nat.le_of_ble_eq_true rfl⟩) hS (fun H locs hP hS => ?_)
          refine xn_zeq (tgt := 42) hx hb dX6_rightOnesBy_36 (by decide) (by omega) (fun c_36 => absurd c_36 (by omega)) (fun c_36 => ?_)
          refine lv_iinc (v := nI (cb (fun x => decide (rt p d g th x (th x 4))) x + 1)) (lv' := [(2, .int (nI (cb (fun x => decide (rt p d g th x (th x 4))) x + 1))), (4, .ref (ad (9 + x))), (0, .ref (ad 0)), (1, .ref (ad q)), (3, .int (nI x))]) hx hb dX6_rightOnesBy_39 hl (k := 3) rfl (xn_inc _ 1) (by decide) rfl (fun ls hl => ?_)
          refine lv_iinc (v := nI (x + 1)) (lv' := [(3, .int (nI (x + 1))), (2, .int (nI (cb (fun x => decide (rt p d g th x (th x 4))) x + 1))), (4, .ref (ad (9 + x))), (0, .ref (ad 0)), (1, .ref (ad q))]) hx hb dX6_rightOnesBy_42 hl (k := 4) rfl (xn_inc _ 1) (by decide) rfl (fun ls hl => ?_)
          refine lv_goto (tgt := 4) hx hb dX6_rightOnesBy_45 (by decide) ?_
          have hcb : cb (fun x => decide (rt p d g th x (th x 4))) (x + 1) = cb (fun x => decide (rt p d g th x (th x 4))) x + 1 := by simp only [cb]; rw [if_pos (by simpa using q_33)]
          rw [← hcb] at hl
          exact ih_4 (x + 1) (by omega) (by omega) _ _ _ hP hS (lv_sub hl [3, 4, 1, 0] rfl)
        · refine xk_fi (va_runV (As := [.ref (ad (9 + x)), .ref (ad q), .int (nI (th x 4))]) (rest := []) ⟨hx, hb, hml, hown, hts⟩ (k1_isRight_f l hI (x := x) (h := th x 4) (q := q) hT (by omega) (by omega) (by omega) hR hp0 (by omega) q_33) (cwV 3 hts gX6_rightOnesBy_X6_isRight rfl rfl rfl (by decide +kernel) ⟨Nat.le_of_ble_eq_true rfl, Nat.le_of_ble_eq_true rfl⟩) (xk_preV X1_ok hK hX hP (xk_recv hK hP 0 (by omega) (ci := 6) e1_well rfl)) rfl rfl hl.1 rfl (lv_room (Nat.le_of_ble_eq_true rfl)) dX6_rightOnesBy_33 ⟨Nat.le_of_ble_eq_true rfl, Nat.le_of_ble_eq_true rfl⟩) hS (fun H locs hP hS => ?_)
          refine xn_zeq (tgt := 42) hx hb dX6_rightOnesBy_36 (by decide) (by omega) (fun c_36 => ?_) (fun c_36 => absurd c_36 (by omega))
          refine lv_iinc (v := nI (x + 1)) (lv' := [(3, .int (nI (x + 1))), (4, .ref (ad (9 + x))), (0, .ref (ad 0)), (1, .ref (ad q)), (2, .int (nI (cb (fun x => decide (rt p d g th x (th x 4))) x)))]) hx hb dX6_rightOnesBy_42 hl (k := 4) rfl (xn_inc _ 1) (by decide) rfl (fun ls hl => ?_)
          refine lv_goto (tgt := 4) hx hb dX6_rightOnesBy_45 (by decide) ?_
          have hcb : cb (fun x => decide (rt p d g th x (th x 4))) (x + 1) = cb (fun x => decide (rt p d g th x (th x 4))) x := by simp only [cb]; rw [if_neg (by simpa using q_33)]
          rw [← hcb] at hl
          exact ih_4 (x + 1) (by omega) (by omega) _ _ _ hP hS (lv_sub hl [2, 3, 4, 0] rfl)
  exact LP_4 _ 0 (by omega) (Nat.lt_succ_self _) _ _ _ hP hS (lv_sub hl [2, 3, 1, 0] rfl)
