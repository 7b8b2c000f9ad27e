/-! who draws: the rota as numbers -/
def RotaAt (σ : Sg) (q p : Nat) (d : Nat → Nat) : Prop := σ q 1 = nI p ∧ p ≤ 6 ∧ ∀ k, k < p → σ (q + 3) k = nI (d k) ∧ d k < 5
/-- how often it has come up till another one draws it: the fuel, the next coming -/
def cta (p : Nat) (d : Nat → Nat) (e h y : Nat) : Nat → Nat → Nat
  | 0, _ => 0
  | f + 1, c => if d ((h + c * y) % p) = e then cta p d e h y f (c + 1) else c
/-- who draws it, 9 below 0: nobody -/
def oth (p : Nat) (d : Nat → Nat) (e h y : Nat) : Int32 := if cta p d e h y p 1 = 0 then -9 else nI (d ((h + cta p d e h y p 1 * y) % p))
theorem cta_le (p : Nat) (d : Nat → Nat) (e h y : Nat) : ∀ f c, cta p d e h y f c = 0 ∨ (c ≤ cta p d e h y f c ∧ cta p d e h y f c < c + f ∧ d ((h + cta p d e h y f c * y) % p) ≠ e) := by
  intro f
  induction f with
  | zero => intro c; exact Or.inl rfl
  | succ f ih =>
    intro c
    unfold cta
    by_cases hc : d ((h + c * y) % p) = e
    · rw [if_pos hc]
      rcases ih (c + 1) with q | ⟨q1, q2, q3⟩
      · exact Or.inl q
      · exact Or.inr ⟨by omega, by omega, q3⟩
    · rw [if_neg hc]
      exact Or.inr ⟨by omega, by omega, hc⟩

set_option maxRecDepth 20000 in
theorem flX1_hasPlace_9 {s : State} {av : Array Value} (hts : ∀ w ∈ wsX1_hasPlace, w.before av s = true) : (Cond.fieldLink RX1 9 "WellBack$Rota" "drawers" "[I").before av s = true := hts _ (by decide +kernel)
set_option maxRecDepth 20000 in
theorem flX1_hasPlace_15 {s : State} {av : Array Value} (hts : ∀ w ∈ wsX1_hasPlace, w.before av s = true) : (Cond.fieldLink RX1 15 "WellBack$Rota" "places" "I").before av s = true := hts _ (by decide +kernel)
set_option maxRecDepth 20000 in
theorem inX1_hasPlace_X1 : ∀ w ∈ u_ws RX1 TX1 2, w ∈ wsX1_hasPlace := by decide +kernel
set_option maxHeartbeats 4000000 in
set_option maxRecDepth 100000 in
theorem k1_hasPlace_in (l : Launch) {D : va_G} {ca : Nat → ClassId} {ad : Nat → Nat} (hI : Ij ad 34) {σ : Sg} {q p : Nat} {k : Nat} (hq1 : 22 ≤ q) (hq2 : q < 25) (hp1 : σ q 1 = nI p) (hp6 : p ≤ 6) (hk : k < p) : C1i l D ca ad yX1_hasPlace wsX1_hasPlace { frames := 0, cells := 0, slots := 0, locals := 0 } [.ref (ad q), .int (nI k)] σ (xFn (nI 1) σ) := by
  refine xk_entry cX1_hasPlace 2 (some .boolean) (by decide) rfl (Nat.le_of_ble_eq_true rfl) ?_
  intro pP eE sS mM below meth cC hx hb hml hr hts hown hlk hP hK hX hS ls hl
  have hl : lv_has ls 2 [(0, .ref (ad q)), (1, .int (nI k))] := hl
  refine lv_iload_n hx hb dX1_hasPlace_0 rfl (lv_at hl 1 rfl) ?_
  refine xn_zlt (tgt := 25) hx hb dX1_hasPlace_1 (by decide) (by omega) (fun c_1 => absurd c_1 (by omega)) (fun c_1 => ?_)
  refine lv_iload_n hx hb dX1_hasPlace_4 rfl (lv_at hl 1 rfl) ?_
  refine lv_aload_n hx hb dX1_hasPlace_5 rfl (lv_at hl 0 rfl) ?_
  refine xk_get hx hb hts (inX1_hasPlace_X1) hown hK hP q (by omega) (ci := 1) (e1_rota (by omega) (by omega)) rfl 1 (by decide) (flX1_hasPlace_15 hts) rfl (.int (σ q 1)) rfl dX1_hasPlace_6 ?_
  refine xn_eqi (y := nI p) hp1 ?_
  refine xn_ige (tgt := 25) hx hb dX1_hasPlace_9 (by decide) (by omega) (by omega) (fun c_9 => absurd c_9 (by omega)) (fun c_9 => ?_)
  refine lv_iload_n hx hb dX1_hasPlace_12 rfl (lv_at hl 1 rfl) ?_
  refine lv_aload_n hx hb dX1_hasPlace_13 rfl (lv_at hl 0 rfl) ?_
  refine xk_get hx hb hts (inX1_hasPlace_X1) hown hK hP q (by omega) (ci := 1) (e1_rota (by omega) (by omega)) rfl 0 (by decide) (flX1_hasPlace_9 hts) rfl (.ref (ad (q + 3))) rfl dX1_hasPlace_14 ?_
  refine xk_alen hx hb hK hP (q + 3) (by omega) (e1_dr (by omega) (by omega)) 0 rfl 6 rfl dX1_hasPlace_17 ?_
  refine xn_ige (tgt := 25) hx hb dX1_hasPlace_18 (by decide) (by omega) (by omega) (fun c_18 => absurd c_18 (by omega)) (fun c_18 => ?_)
  refine lv_iconst (v := nI 1) hx hb dX1_hasPlace_21 (by decide) ?_
  refine lv_goto (tgt := 26) hx hb dX1_hasPlace_22 (by decide) ?_
  exact xk_iret hx hb hr rfl X1_ok hK hX hP hS hlk dX1_hasPlace_26 (⟨rfl, rfl⟩)

set_option maxHeartbeats 4000000 in
set_option maxRecDepth 100000 in
theorem k1_hasPlace_out (l : Launch) {D : va_G} {ca : Nat → ClassId} {ad : Nat → Nat} (hI : Ij ad 34) {σ : Sg} {q p : Nat} {x : Int32} (hq1 : 22 ≤ q) (hq2 : q < 25) (hp1 : σ q 1 = nI p) (hp6 : p ≤ 6) (hxx : ∀ j, j < p → x ≠ nI j) : C1i l D ca ad yX1_hasPlace wsX1_hasPlace { frames := 0, cells := 0, slots := 0, locals := 0 } [.ref (ad q), .int x] σ (xFn (nI 0) σ) := by
  refine xk_entry cX1_hasPlace 2 (some .boolean) (by decide) rfl (Nat.le_of_ble_eq_true rfl) ?_
  intro pP eE sS mM below meth cC hx hb hml hr hts hown hlk hP hK hX hS ls hl
  have hl : lv_has ls 2 [(0, .ref (ad q)), (1, .int x)] := hl
  refine lv_iload_n hx hb dX1_hasPlace_0 rfl (lv_at hl 1 rfl) ?_
  refine lv_if_lt (tgt := 25) hx hb dX1_hasPlace_1 (by decide) (fun c_1 => ?_) (fun c_1 => ?_)
  · refine lv_iconst (v := nI 0) hx hb dX1_hasPlace_25 (by decide) ?_
    exact xk_iret hx hb hr rfl X1_ok hK hX hP hS hlk dX1_hasPlace_26 (⟨rfl, rfl⟩)
  · obtain ⟨j, hj, rfl⟩ := nI_of c_1
    refine lv_iload_n hx hb dX1_hasPlace_4 rfl (lv_at hl 1 rfl) ?_
    refine lv_aload_n hx hb dX1_hasPlace_5 rfl (lv_at hl 0 rfl) ?_
    refine xk_get hx hb hts (inX1_hasPlace_X1) hown hK hP q (by omega) (ci := 1) (e1_rota (by omega) (by omega)) rfl 1 (by decide) (flX1_hasPlace_15 hts) rfl (.int (σ q 1)) rfl dX1_hasPlace_6 ?_
    refine xn_eqi (y := nI p) hp1 ?_
    refine xn_ige (tgt := 25) hx hb dX1_hasPlace_9 (by decide) (by omega) (by omega) (fun c_9 => ?_) (fun c_9 => ?_)
    · refine lv_iconst (v := nI 0) hx hb dX1_hasPlace_25 (by decide) ?_
      exact xk_iret hx hb hr rfl X1_ok hK hX hP hS hlk dX1_hasPlace_26 (⟨rfl, rfl⟩)
    · exact absurd rfl (hxx j c_9)

set_option maxRecDepth 20000 in
theorem flX1_setPlace_9 {s : State} {av : Array Value} (hts : ∀ w ∈ wsX1_setPlace, w.before av s = true) : (Cond.fieldLink RX1 9 "WellBack$Rota" "drawers" "[I").before av s = true := hts _ (by decide +kernel)
set_option maxRecDepth 20000 in
theorem inX1_setPlace_X1 : ∀ w ∈ u_ws RX1 TX1 2, w ∈ wsX1_setPlace := by decide +kernel
set_option maxHeartbeats 4000000 in
set_option maxRecDepth 100000 in
theorem k1_setPlace (l : Launch) {D : va_G} {ca : Nat → ClassId} {ad : Nat → Nat} (hI : Ij ad 34) {σ : Sg} {q p : Nat} {k w : Nat} (hq1 : 22 ≤ q) (hq2 : q < 25) (hp1 : σ q 1 = nI p) (hp6 : p ≤ 6) (hk : k < p) : C1v l D ca ad yX1_setPlace wsX1_setPlace { frames := 1, cells := 0, slots := 0, locals := 21 } [.ref (ad q), .int (nI k), .int (nI w)] σ (xFv (up σ (q + 3) k (nI w))) := by
  refine xk_entry cX1_setPlace 3 none (by decide) rfl (Nat.le_of_ble_eq_true rfl) ?_
  intro pP eE sS mM below meth cC hx hb hml hr hts hown hlk hP hK hX hS ls hl
  have hl : lv_has ls 3 [(0, .ref (ad q)), (1, .int (nI k)), (2, .int (nI w))] := hl
  refine lv_aload_n hx hb dX1_setPlace_0 rfl (lv_at hl 0 rfl) ?_
  refine lv_iload_n hx hb dX1_setPlace_1 rfl (lv_at hl 1 rfl) ?_
  refine xk_fi (va_runV (As := [.int (nI k)]) (rest := []) ⟨hx, hb, hml, hown, hts⟩ (k1_hasPlace_in l hI (by omega) (by omega) hp1 (by omega) (by omega)) (cwV 1 hts gX1_setPlace_X1_hasPlace rfl rfl rfl (by decide +kernel) ⟨Nat.le_of_ble_eq_true rfl, Nat.le_of_ble_eq_true rfl⟩) (xk_preV X1_ok hK hX hP (xk_recv hK hP q (by omega) (ci := 1) (e1_rota (by omega) (by omega)) rfl)) rfl rfl hl.1 rfl (lv_room (Nat.le_of_ble_eq_true rfl)) dX1_setPlace_2 ⟨Nat.le_of_ble_eq_true rfl, Nat.le_of_ble_eq_true rfl⟩) hS (fun H locs hP hS => ?_)
  refine xn_zeq (tgt := 15) hx hb dX1_setPlace_5 (by decide) (by omega) (fun c_5 => absurd c_5 (by omega)) (fun c_5 => ?_)
  refine lv_aload_n hx hb dX1_setPlace_8 rfl (lv_at hl 0 rfl) ?_
  refine xk_get hx hb hts (inX1_setPlace_X1) hown hK hP q (by omega) (ci := 1) (e1_rota (by omega) (by omega)) rfl 0 (by decide) (flX1_setPlace_9 hts) rfl (.ref (ad (q + 3))) rfl dX1_setPlace_9 ?_
  refine lv_iload_n hx hb dX1_setPlace_12 rfl (lv_at hl 1 rfl) ?_
  refine lv_iload_n hx hb dX1_setPlace_13 rfl (lv_at hl 2 rfl) ?_
  refine xk_iast hx hb hK hI hP hS (q + 3) (by omega) (n := 6) (fun τ => (e1_dr (by omega) (by omega))) rfl k (by omega) (by decide) e1_loc dX1_setPlace_14 (fun H locs hP hS => ?_)
  exact xk_vret hx hb hr X1_ok hK hX hP hS hlk dX1_setPlace_15 rfl

set_option maxRecDepth 20000 in
theorem flX1_drawerIn_9 {s : State} {av : Array Value} (hts : ∀ w ∈ wsX1_drawerIn, w.before av s = true) : (Cond.fieldLink RX1 9 "WellBack$Rota" "drawers" "[I").before av s = true := hts _ (by decide +kernel)
set_option maxRecDepth 20000 in
theorem flX1_drawerIn_15 {s : State} {av : Array Value} (hts : ∀ w ∈ wsX1_drawerIn, w.before av s = true) : (Cond.fieldLink RX1 15 "WellBack$Rota" "places" "I").before av s = true := hts _ (by decide +kernel)
set_option maxRecDepth 20000 in
theorem inX1_drawerIn_X1 : ∀ w ∈ u_ws RX1 TX1 2, w ∈ wsX1_drawerIn := by decide +kernel
set_option maxHeartbeats 4000000 in
set_option maxRecDepth 100000 in
theorem k1_drawerIn (l : Launch) {D : va_G} {ca : Nat → ClassId} {ad : Nat → Nat} (hI : Ij ad 34) {σ : Sg} {q p : Nat} {d : Nat → Nat} {h : Nat} (hq1 : 22 ≤ q) (hq2 : q < 25) (hR : RotaAt σ q p d) (hp0 : 0 < p) (hh : h < 2 ^ 31) : C1i l D ca ad yX1_drawerIn wsX1_drawerIn { frames := 0, cells := 0, slots := 0, locals := 0 } [.ref (ad q), .int (nI h)] σ (xFn (nI (d (h % p))) σ) := by
  refine xk_entry cX1_drawerIn 2 (some .int) (by decide) rfl (Nat.le_of_ble_eq_true rfl) ?_
  intro pP eE sS mM below meth cC hx hb hml hr hts hown hlk hP hK hX hS ls hl
  have hl : lv_has ls 2 [(0, .ref (ad q)), (1, .int (nI h))] := hl
  have hp6 := hR.2.1
  have hm := Nat.mod_lt h hp0
  refine lv_aload_n hx hb dX1_drawerIn_0 rfl (lv_at hl 0 rfl) ?_
  refine xk_get hx hb hts (inX1_drawerIn_X1) hown hK hP q (by omega) (ci := 1) (e1_rota (by omega) (by omega)) rfl 1 (by decide) (flX1_drawerIn_15 hts) rfl (.int (σ q 1)) rfl dX1_drawerIn_1 ?_
  refine xn_eqi (y := nI p) hR.1 ?_
  refine xn_zle (tgt := 23) hx hb dX1_drawerIn_4 (by decide) (by omega) (fun c_4 => absurd c_4 (by omega)) (fun c_4 => ?_)
  refine lv_aload_n hx hb dX1_drawerIn_7 rfl (lv_at hl 0 rfl) ?_
  refine xk_get hx hb hts (inX1_drawerIn_X1) hown hK hP q (by omega) (ci := 1) (e1_rota (by omega) (by omega)) rfl 1 (by decide) (flX1_drawerIn_15 hts) rfl (.int (σ q 1)) rfl dX1_drawerIn_8 ?_
  refine xn_eqi (y := nI p) hR.1 ?_
  refine lv_aload_n hx hb dX1_drawerIn_11 rfl (lv_at hl 0 rfl) ?_
  refine xk_get hx hb hts (inX1_drawerIn_X1) hown hK hP q (by omega) (ci := 1) (e1_rota (by omega) (by omega)) rfl 0 (by decide) (flX1_drawerIn_9 hts) rfl (.ref (ad (q + 3))) rfl dX1_drawerIn_12 ?_
  refine xk_alen hx hb hK hP (q + 3) (by omega) (e1_dr (by omega) (by omega)) 0 rfl 6 rfl dX1_drawerIn_15 ?_
  refine xn_igt (tgt := 23) hx hb dX1_drawerIn_16 (by decide) (by omega) (by omega) (fun c_16 => absurd c_16 (by omega)) (fun c_16 => ?_)
  refine lv_iload_n hx hb dX1_drawerIn_19 rfl (lv_at hl 1 rfl) ?_
  refine xn_zge (tgt := 26) hx hb dX1_drawerIn_20 (by decide) (by omega) (fun c_20 => ?_) (fun c_20 => absurd c_20 (by omega))
  refine lv_aload_n hx hb dX1_drawerIn_26 rfl (lv_at hl 0 rfl) ?_
  refine xk_get hx hb hts (inX1_drawerIn_X1) hown hK hP q (by omega) (ci := 1) (e1_rota (by omega) (by omega)) rfl 0 (by decide) (flX1_drawerIn_9 hts) rfl (.ref (ad (q + 3))) rfl dX1_drawerIn_27 ?_
  refine lv_iload_n hx hb dX1_drawerIn_30 rfl (lv_at hl 1 rfl) ?_
  refine lv_aload_n hx hb dX1_drawerIn_31 rfl (lv_at hl 0 rfl) ?_
  refine xk_get hx hb hts (inX1_drawerIn_X1) hown hK hP q (by omega) (ci := 1) (e1_rota (by omega) (by omega)) rfl 1 (by decide) (flX1_drawerIn_15 hts) rfl (.int (σ q 1)) rfl dX1_drawerIn_32 ?_
  refine xn_eqi (y := nI p) hR.1 ?_
  refine xn_irem hx hb (by omega) (by omega) (by omega) dX1_drawerIn_35 ?_
  refine xk_iald hx hb hK hP (q + 3) (by omega) (n := 6) (e1_dr (by omega) (by omega)) rfl (h % p) (by omega) (by decide) dX1_drawerIn_36 ?_
  refine xn_eqi (y := nI (d (h % p))) ((hR.2.2 _ (by omega)).1) ?_
  exact xk_iret hx hb hr (vp_nar_int _) X1_ok hK hX hP hS hlk dX1_drawerIn_37 (⟨rfl, rfl⟩)

set_option maxRecDepth 20000 in
theorem flX1_comingsTillAnother_15 {s : State} {av : Array Value} (hts : ∀ w ∈ wsX1_comingsTillAnother, w.before av s = true) : (Cond.fieldLink RX1 15 "WellBack$Rota" "places" "I").before av s = true := hts _ (by decide +kernel)
set_option maxRecDepth 20000 in
theorem inX1_comingsTillAnother_X1 : ∀ w ∈ u_ws RX1 TX1 2, w ∈ wsX1_comingsTillAnother := by decide +kernel
set_option maxHeartbeats 4000000 in
set_option maxRecDepth 100000 in
theorem k1_comings (l : Launch) {D : va_G} {ca : Nat → ClassId} {ad : Nat → Nat} (hI : Ij ad 34) {σ : Sg} {q p : Nat} {d : Nat → Nat} {e h y : Nat} (hq1 : 22 ≤ q) (hq2 : q < 25) (hR : RotaAt σ q p d) (hp0 : 0 < p) (he : e < 5) (hby : h + 6 * y < 2 ^ 31) : C1i l D ca ad yX1_comingsTillAnother wsX1_comingsTillAnother { frames := 1, cells := 0, slots := 0, locals := 21 } [.ref (ad q), .int (nI e), .int (nI h), .int (nI y)] σ (xFn (nI (cta p d e h y p 1)) σ) := by
  refine xk_entry cX1_comingsTillAnother 5 (some .int) (by decide) rfl (Nat.le_of_ble_eq_true rfl) ?_
  intro pP eE sS mM below meth cC hx hb hml hr hts hown hlk hP hK hX hS ls hl
  have hl : lv_has ls 5 [(0, .ref (ad q)), (1, .int (nI e)), (2, .int (nI h)), (3, .int (nI y))] := hl
  have hp6 := hR.2.1
  refine lv_iconst (v := nI 1) hx hb dX1_comingsTillAnother_0 (by decide) ?_
  refine lv_istore (lv' := [(4, .int (nI 1)), (0, .ref (ad q)), (1, .int (nI e)), (2, .int (nI h)), (3, .int (nI y))]) hx hb dX1_comingsTillAnother_1 hl (by decide) rfl (fun ls hl => ?_)
  have LP_3 : ∀ (n_3 : Nat) (c : Nat), (c ≤ p + 1) → (0 < c) → (cta p d e h y (p + 1 - c) c = cta p d e h y p 1) → (p + 1 - c) < n_3 → ∀ (H : Heap) (locs : List Loc) (ls : Array Slot), va_P D vwCl (wl ad 34 (en1 ad ca σ)) H → va_S (AA ad 34) sS.heap H locs → lv_has ls 5 [(0, .ref (ad q)), (1, .int (nI e)), (2, .int (nI h)), (3, .int (nI y)), (4, .int (nI c))] → Wwi1 pP l eE { frames := 1, cells := 0, slots := 0, locals := 21 } sS mM [.ref (ad q), .int (nI e), .int (nI h), .int (nI y)] below meth cC D ca ad (xFn (nI (cta p d e h y p 1)) σ) H locs (F0 mM 3 ls []) := by
    intro n_3
    induction n_3 with
    | zero =>
      intro c hc1 hc0 hv hn_3
      exact absurd hn_3 (Nat.not_lt_zero _)
    | succ n_3 ih_3 =>
      intro c hc1 hc0 hv hn_3 H locs ls hP hS hl
      refine lv_iload hx hb dX1_comingsTillAnother_3 (lv_at hl 4 rfl) ?_
      refine lv_aload_n hx hb dX1_comingsTillAnother_5 rfl (lv_at hl 0 rfl) ?_
      refine xk_get hx hb hts (inX1_comingsTillAnother_X1) hown hK hP q (by omega) (ci := 1) (e1_rota (by omega) (by omega)) rfl 1 (by decide) (flX1_comingsTillAnother_15 hts) rfl (.int (σ q 1)) rfl dX1_comingsTillAnother_6 ?_
      refine xn_eqi (y := nI p) hR.1 ?_
      refine xn_igt (tgt := 35) hx hb dX1_comingsTillAnother_9 (by decide) (by omega) (by omega) (fun c_9 => ?_) (fun c_9 => ?_)
      · refine lv_iconst (v := nI 0) hx hb dX1_comingsTillAnother_35 (by decide) ?_
        exact xk_iret hx hb hr (vp_nar_int _) X1_ok hK hX hP hS hlk dX1_comingsTillAnother_36 (⟨by rw [← hv, show p + 1 - c = 0 by omega]; rfl, rfl⟩)
      · have hcy : c * y ≤ 6 * y := Nat.mul_le_mul_right y (by omega)
        refine lv_aload_n hx hb dX1_comingsTillAnother_12 rfl (lv_at hl 0 rfl) ?_
        refine lv_iload_n hx hb dX1_comingsTillAnother_13 rfl (lv_at hl 2 rfl) ?_
        refine lv_iload hx hb dX1_comingsTillAnother_14 (lv_at hl 4 rfl) ?_
        refine lv_iload_n hx hb dX1_comingsTillAnother_16 rfl (lv_at hl 3 rfl) ?_
        refine xn_imul hx hb dX1_comingsTillAnother_17 ?_
        refine xn_iadd hx hb dX1_comingsTillAnother_18 ?_
        refine xk_fi (va_runV (As := [.int (nI (h + (c * y)))]) (rest := []) ⟨hx, hb, hml, hown, hts⟩ (k1_drawerIn l hI (q := q) (d := d) (h := h + (c * y)) (by omega) (by omega) hR (by omega) (by omega)) (cwV 1 hts gX1_comingsTillAnother_X1_drawerIn rfl rfl rfl (by decide +kernel) ⟨Nat.le_of_ble_eq_true rfl, Nat.le_of_ble_eq_true rfl⟩) (xk_preV X1_ok hK hX hP (xk_recv hK hP q (by omega) (ci := 1) (e1_rota (by omega) (by omega)) rfl)) rfl rfl hl.1 rfl (lv_room (Nat.le_of_ble_eq_true rfl)) dX1_comingsTillAnother_19 ⟨Nat.le_of_ble_eq_true rfl, Nat.le_of_ble_eq_true rfl⟩) hS (fun H locs hP hS => ?_)
        have hd_19 := (hR.2.2 _ (Nat.mod_lt (h + (c * y)) (by omega : 0 < p))).2
        refine lv_iload_n hx hb dX1_comingsTillAnother_22 rfl (lv_at hl 1 rfl) ?_
        refine xn_ieq (tgt := 29) hx hb dX1_comingsTillAnother_23 (by decide) (by omega) (by omega) (fun c_23 => ?_) (fun c_23 => ?_)
        · refine lv_iinc (v := nI (c + 1)) (lv' := [(4, .int (nI (c + 1))), (0, .ref (ad q)), (1, .int (nI e)), (2, .int (nI h)), (3, .int (nI y))]) hx hb dX1_comingsTillAnother_29 hl (k := 4) rfl (xn_inc _ 1) (by decide) rfl (fun ls hl => ?_)
          refine lv_goto (tgt := 3) hx hb dX1_comingsTillAnother_32 (by decide) ?_
          exact ih_3 (c + 1) (by omega) (by omega) (by rw [← hv, show p + 1 - c = (p + 1 - (c + 1)) + 1 by omega, cta, if_pos c_23]) (by omega) _ _ _ hP hS (lv_sub hl [1, 2, 3, 4, 0] rfl)
        · refine lv_iload hx hb dX1_comingsTillAnother_26 (lv_at hl 4 rfl) ?_
          exact xk_iret hx hb hr (vp_nar_int _) X1_ok hK hX hP hS hlk dX1_comingsTillAnother_28 (⟨by rw [← hv, show p + 1 - c = (p - c) + 1 by omega, cta, if_neg c_23], rfl⟩)
  exact LP_3 _ 1 (by omega) (by omega) (by rw [show p + 1 - 1 = p by omega]) (Nat.lt_succ_self _) _ _ _ hP hS (lv_sub hl [1, 2, 3, 4, 0] rfl)

set_option maxHeartbeats 4000000 in
set_option maxRecDepth 100000 in
theorem k1_other (l : Launch) {D : va_G} {ca : Nat → ClassId} {ad : Nat → Nat} (hI : Ij ad 34) {σ : Sg} {q p : Nat} {d : Nat → Nat} {e h y : Nat} (hq1 : 22 ≤ q) (hq2 : q < 25) (hR : RotaAt σ q p d) (hp0 : 0 < p) (he : e < 5) (hby : h + 6 * y < 2 ^ 31) : C1i l D ca ad yX1_otherDrawer wsX1_otherDrawer { frames := 2, cells := 0, slots := 0, locals := 45 } [.ref (ad q), .int (nI e), .int (nI h), .int (nI y)] σ (xFn (oth p d e h y) σ) := by
  refine xk_entry cX1_otherDrawer 5 (some .int) (by decide) rfl (Nat.le_of_ble_eq_true rfl) ?_
  intro pP eE sS mM below meth cC hx hb hml hr hts hown hlk hP hK hX hS ls hl
  have hl : lv_has ls 5 [(0, .ref (ad q)), (1, .int (nI e)), (2, .int (nI h)), (3, .int (nI y))] := hl
  have hp6 := hR.2.1
  refine lv_aload_n hx hb dX1_otherDrawer_0 rfl (lv_at hl 0 rfl) ?_
  refine lv_iload_n hx hb dX1_otherDrawer_1 rfl (lv_at hl 1 rfl) ?_
  refine lv_iload_n hx hb dX1_otherDrawer_2 rfl (lv_at hl 2 rfl) ?_
  refine lv_iload_n hx hb dX1_otherDrawer_3 rfl (lv_at hl 3 rfl) ?_
  refine xk_fi (va_runV (As := [.int (nI e), .int (nI h), .int (nI y)]) (rest := []) ⟨hx, hb, hml, hown, hts⟩ (k1_comings l hI (q := q) (d := d) (e := e) (h := h) (y := y) (by omega) (by omega) hR (by omega) (by omega) (by omega)) (cwV 3 hts gX1_otherDrawer_X1_comingsTillAnother rfl rfl rfl (by decide +kernel) ⟨Nat.le_of_ble_eq_true rfl, Nat.le_of_ble_eq_true rfl⟩) (xk_preV X1_ok hK hX hP (xk_recv hK hP q (by omega) (ci := 1) (e1_rota (by omega) (by omega)) rfl)) rfl rfl hl.1 rfl (lv_room (Nat.le_of_ble_eq_true rfl)) dX1_otherDrawer_4 ⟨Nat.le_of_ble_eq_true rfl, Nat.le_of_ble_eq_true rfl⟩) hS (fun H locs hP hS => ?_)
  have hc := cta_le p d e h y p 1
  have hcy : cta p d e h y p 1 * y ≤ 6 * y := Nat.mul_le_mul_right y (by omega)
  refine lv_istore (lv' := [(4, .int (nI (cta p d e h y p 1))), (0, .ref (ad q)), (1, .int (nI e)), (2, .int (nI h)), (3, .int (nI y))]) hx hb dX1_otherDrawer_7 hl (by decide) rfl (fun ls hl => ?_)
  refine lv_iload hx hb dX1_otherDrawer_9 (lv_at hl 0 rfl) ?_
  refine xn_zne (tgt := 19) hx hb dX1_otherDrawer_11 (by decide) (by omega) (fun c_11 => ?_) (fun c_11 => ?_)
  · refine lv_aload_n hx hb dX1_otherDrawer_19 rfl (lv_at hl 1 rfl) ?_
    refine lv_iload_n hx hb dX1_otherDrawer_20 rfl (lv_at hl 3 rfl) ?_
    refine lv_iload hx hb dX1_otherDrawer_21 (lv_at hl 0 rfl) ?_
    refine lv_iload_n hx hb dX1_otherDrawer_23 rfl (lv_at hl 4 rfl) ?_
    refine xn_imul hx hb dX1_otherDrawer_24 ?_
    refine xn_iadd hx hb dX1_otherDrawer_25 ?_
    refine xk_fi (va_runV (As := [.int (nI (h + ((cta p d e h y p 1) * y)))]) (rest := []) ⟨hx, hb, hml, hown, hts⟩ (k1_drawerIn l hI (q := q) (d := d) (h := h + ((cta p d e h y p 1) * y)) (by omega) (by omega) hR (by omega) (by omega)) (cwV 1 hts gX1_otherDrawer_X1_drawerIn rfl rfl rfl (by decide +kernel) ⟨Nat.le_of_ble_eq_true rfl, Nat.le_of_ble_eq_true rfl⟩) (xk_preV X1_ok hK hX hP (xk_recv hK hP q (by omega) (ci := 1) (e1_rota (by omega) (by omega)) rfl)) rfl rfl hl.1 rfl (lv_room (Nat.le_of_ble_eq_true rfl)) dX1_otherDrawer_26 ⟨Nat.le_of_ble_eq_true rfl, Nat.le_of_ble_eq_true rfl⟩) hS (fun H locs hP hS => ?_)
    have hd_26 := (hR.2.2 _ (Nat.mod_lt (h + ((cta p d e h y p 1) * y)) (by omega : 0 < p))).2
    exact xk_iret hx hb hr (vp_nar_int _) X1_ok hK hX hP hS hlk dX1_otherDrawer_29 (⟨by rw [oth, if_neg c_11], rfl⟩)
  · refine lv_bipush (v := (-9)) hx hb dX1_otherDrawer_14 (by decide) ?_
    refine lv_goto (tgt := 29) hx hb dX1_otherDrawer_16 (by decide) ?_
    exact xk_iret hx hb hr (vp_nar_int _) X1_ok hK hX hP hS hlk dX1_otherDrawer_29 (⟨by rw [oth, if_pos c_11], rfl⟩)

theorem RotaAt_set {σ : Sg} {q p k w : Nat} {d : Nat → Nat} (h : RotaAt σ q p d) (hw : w < 5) : RotaAt (up σ (q + 3) k (nI w)) q p (fun j => if j = k then w else d j) := by
  obtain ⟨h1, h2, h3⟩ := h
  refine ⟨by rw [up_n (by omega)]; exact h1, h2, fun j hj => ?_⟩
  by_cases hjk : j = k
  · subst hjk
    simp only [if_true, up_s]
    exact ⟨trivial, hw⟩
  · simp only [if_neg hjk]
    rw [up_n (by omega)]
    exact h3 j hj
theorem RotaAt_fr {σ τ : Sg} {q p : Nat} {d : Nat → Nat} (h : RotaAt σ q p d) (h1 : τ q = σ q) (h2 : τ (q + 3) = σ (q + 3)) : RotaAt τ q p d := by
  unfold RotaAt
  rw [h1, h2]
  exact h
theorem RotaAt_eq {σ : Sg} {q p : Nat} {d d' : Nat → Nat} (h : RotaAt σ q p d) (he : ∀ k, k < p → d' k = d k) : RotaAt σ q p d' := ⟨h.1, h.2.1, fun k hk => by rw [he k hk]; exact h.2.2 k hk⟩
def sw (d : Nat → Nat) (a b : Nat) : Nat → Nat := fun j => if j = b then d a else if j = a then d b else d j

set_option maxHeartbeats 4000000 in
set_option maxRecDepth 100000 in
theorem k1_swap (l : Launch) {D : va_G} {ca : Nat → ClassId} {ad : Nat → Nat} (hI : Ij ad 34) {σ : Sg} {q p : Nat} {d : Nat → Nat} {a b : Nat} (hq1 : 22 ≤ q) (hq2 : q < 25) (hR : RotaAt σ q p d) (ha : a < p) (hb2 : b < p) : C1v l D ca ad yX1_swap wsX1_swap { frames := 2, cells := 0, slots := 0, locals := 43 } [.ref (ad q), .int (nI a), .int (nI b)] σ (fun σ' => (∀ i, i ≠ q + 3 → σ' i = σ i) ∧ RotaAt σ' q p (sw d a b)) := by
  refine xk_entry cX1_swap 4 none (by decide) rfl (Nat.le_of_ble_eq_true rfl) ?_
  intro pP eE sS mM below meth cC hx hb hml hr hts hown hlk hP hK hX hS ls hl
  have hl : lv_has ls 4 [(0, .ref (ad q)), (1, .int (nI a)), (2, .int (nI b))] := hl
  have hp6 := hR.2.1
  have hda := (hR.2.2 a ha).2
  have hdb := (hR.2.2 b hb2).2
  refine lv_aload_n hx hb dX1_swap_0 rfl (lv_at hl 0 rfl) ?_
  refine lv_iload_n hx hb dX1_swap_1 rfl (lv_at hl 1 rfl) ?_
  refine xk_fi (va_runV (As := [.int (nI a)]) (rest := []) ⟨hx, hb, hml, hown, hts⟩ (k1_drawerIn l hI (q := q) (d := d) (h := a) (by omega) (by omega) hR (by omega) (by omega)) (cwV 1 hts gX1_swap_X1_drawerIn rfl rfl rfl (by decide +kernel) ⟨Nat.le_of_ble_eq_true rfl, Nat.le_of_ble_eq_true rfl⟩) (xk_preV X1_ok hK hX hP (xk_recv hK hP q (by omega) (ci := 1) (e1_rota (by omega) (by omega)) rfl)) rfl rfl hl.1 rfl (lv_room (Nat.le_of_ble_eq_true rfl)) dX1_swap_2 ⟨Nat.le_of_ble_eq_true rfl, Nat.le_of_ble_eq_true rfl⟩) hS (fun H locs hP hS => ?_)
  rw [Nat.mod_eq_of_lt (by omega : a < p)]
  refine lv_istore_n (lv' := [(3, .int (nI (d a))), (0, .ref (ad q)), (1, .int (nI a)), (2, .int (nI b))]) hx hb dX1_swap_5 rfl hl (by decide) rfl (fun ls hl => ?_)
  refine lv_aload_n hx hb dX1_swap_6 rfl (lv_at hl 1 rfl) ?_
  refine lv_iload_n hx hb dX1_swap_7 rfl (lv_at hl 2 rfl) ?_
  refine lv_aload_n hx hb dX1_swap_8 rfl (lv_at hl 1 rfl) ?_
  refine lv_iload_n hx hb dX1_swap_9 rfl (lv_at hl 3 rfl) ?_
  refine xk_fi (va_runV (As := [.int (nI b)]) (rest := [.int (nI a), .ref (ad q)]) ⟨hx, hb, hml, hown, hts⟩ (k1_drawerIn l hI (q := q) (d := d) (h := b) (by omega) (by omega) hR (by omega) (by omega)) (cwV 1 hts gX1_swap_X1_drawerIn rfl rfl rfl (by decide +kernel) ⟨Nat.le_of_ble_eq_true rfl, Nat.le_of_ble_eq_true rfl⟩) (xk_preV X1_ok hK hX hP (xk_recv hK hP q (by omega) (ci := 1) (e1_rota (by omega) (by omega)) rfl)) rfl rfl hl.1 rfl (lv_room (Nat.le_of_ble_eq_true rfl)) dX1_swap_10 ⟨Nat.le_of_ble_eq_true rfl, Nat.le_of_ble_eq_true rfl⟩) hS (fun H locs hP hS => ?_)
  rw [Nat.mod_eq_of_lt (by omega : b < p)]
  refine xk_fv (va_runV (As := [.int (nI a), .int (nI (d b))]) (rest := []) ⟨hx, hb, hml, hown, hts⟩ (k1_setPlace l hI (q := q) (k := a) (w := d b) (by omega) (by omega) hR.1 (by omega) (by omega)) (cwV 2 hts gX1_swap_X1_setPlace rfl rfl rfl (by decide +kernel) ⟨Nat.le_of_ble_eq_true rfl, Nat.le_of_ble_eq_true rfl⟩) (xk_preV X1_ok hK hX hP (xk_recv hK hP q (by omega) (ci := 1) (e1_rota (by omega) (by omega)) rfl)) rfl rfl hl.1 rfl (lv_room (Nat.le_of_ble_eq_true rfl)) dX1_swap_13 ⟨Nat.le_of_ble_eq_true rfl, Nat.le_of_ble_eq_true rfl⟩) hS (fun H locs hP hS => ?_)
  have hR1 := RotaAt_set (k := a) hR hdb
  refine lv_aload_n hx hb dX1_swap_16 rfl (lv_at hl 1 rfl) ?_
  refine lv_iload_n hx hb dX1_swap_17 rfl (lv_at hl 3 rfl) ?_
  refine lv_iload_n hx hb dX1_swap_18 rfl (lv_at hl 0 rfl) ?_
  refine xk_fv (va_runV (As := [.int (nI b), .int (nI (d a))]) (rest := []) ⟨hx, hb, hml, hown, hts⟩ (k1_setPlace l hI (q := q) (k := b) (w := d a) (by omega) (by omega) hR1.1 (by omega) (by omega)) (cwV 2 hts gX1_swap_X1_setPlace rfl rfl rfl (by decide +kernel) ⟨Nat.le_of_ble_eq_true rfl, Nat.le_of_ble_eq_true rfl⟩) (xk_preV X1_ok hK hX hP (xk_recv hK hP q (by omega) (ci := 1) (e1_rota (by omega) (by omega)) rfl)) rfl rfl hl.1 rfl (lv_room (Nat.le_of_ble_eq_true rfl)) dX1_swap_19 ⟨Nat.le_of_ble_eq_true rfl, Nat.le_of_ble_eq_true rfl⟩) hS (fun H locs hP hS => ?_)
  have hR2 := RotaAt_set (k := b) hR1 hda
  exact xk_vret hx hb hr X1_ok hK hX hP hS hlk dX1_swap_22 (⟨fun i hi => by rw [up_r hi, up_r hi], hR2⟩)

set_option maxRecDepth 20000 in
theorem flX1_takeFrom_15 {s : State} {av : Array Value} (hts : ∀ w ∈ wsX1_takeFrom, w.before av s = true) : (Cond.fieldLink RX1 15 "WellBack$Rota" "places" "I").before av s = true := hts _ (by decide +kernel)
set_option maxRecDepth 20000 in
theorem inX1_takeFrom_X1 : ∀ w ∈ u_ws RX1 TX1 2, w ∈ wsX1_takeFrom := by decide +kernel
set_option maxHeartbeats 4000000 in
set_option maxRecDepth 100000 in
theorem k1_takeFrom (l : Launch) {D : va_G} {ca : Nat → ClassId} {ad : Nat → Nat} (hI : Ij ad 34) {σ : Sg} {q o p : Nat} {d : Nat → Nat} (hq1 : 22 ≤ q) (hq2 : q < 25) (ho1 : 22 ≤ o) (ho2 : o < 25) (hqo : q ≠ o) (hR : RotaAt σ o p d) (hp0 : 0 < p) : C1v l D ca ad yX1_takeFrom wsX1_takeFrom { frames := 2, cells := 0, slots := 0, locals := 43 } [.ref (ad q), .ref (ad o)] σ (fun σ' => (∀ i, i ≠ q → i ≠ q + 3 → σ' i = σ i) ∧ RotaAt σ' q p d) := by
  refine xk_entry cX1_takeFrom 3 none (by decide) rfl (Nat.le_of_ble_eq_true rfl) ?_
  intro pP eE sS mM below meth cC hx hb hml hr hts hown hlk hP hK hX hS ls hl
  have hl : lv_has ls 3 [(0, .ref (ad q)), (1, .ref (ad o))] := hl
  have hp6 := hR.2.1
  refine lv_aload_n hx hb dX1_takeFrom_0 rfl (lv_at hl 0 rfl) ?_
  refine lv_aload_n hx hb dX1_takeFrom_1 rfl (lv_at hl 1 rfl) ?_
  refine xk_get hx hb hts (inX1_takeFrom_X1) hown hK hP o (by omega) (ci := 1) (e1_rota (by omega) (by omega)) rfl 1 (by decide) (flX1_takeFrom_15 hts) rfl (.int (σ o 1)) rfl dX1_takeFrom_2 ?_
  refine xn_eqi (y := nI p) hR.1 ?_
  refine xk_put hx hb hts (inX1_takeFrom_X1) tyX1 tyX1_ok nmX1 hown hK hI hP hS q (by omega) (ci := 1) (e1_rota (by omega) (by omega)) rfl 1 (by decide) (flX1_takeFrom_15 hts) rfl rfl (by decide +kernel) (Nat.le_of_ble_eq_true rfl) e1_loc (by rw [e1_rota (by omega) (by omega)]; simp [up]) dX1_takeFrom_5 (fun H locs hP hS => ?_)
  refine lv_iconst (v := nI 0) hx hb dX1_takeFrom_8 (by decide) ?_
  refine lv_istore_n (lv' := [(2, .int (nI 0)), (0, .ref (ad q)), (1, .ref (ad o))]) hx hb dX1_takeFrom_9 rfl hl (by decide) rfl (fun ls hl => ?_)
  have LP_10 : ∀ (n_10 : Nat) (k : Nat) (τ : Sg), (k ≤ p) → (∀ i, i ≠ q → i ≠ q + 3 → τ i = σ i) → (τ q 1 = nI p) → (∀ j, j < k → τ (q + 3) j = nI (d j)) → (p - k) < n_10 → ∀ (H : Heap) (locs : List Loc) (ls : Array Slot), va_P D vwCl (wl ad 34 (en1 ad ca τ)) H → va_S (AA ad 34) sS.heap H locs → lv_has ls 3 [(0, .ref (ad q)), (1, .ref (ad o)), (2, .int (nI k))] → Wwv1 pP l eE { frames := 2, cells := 0, slots := 0, locals := 43 } sS mM [.ref (ad q), .ref (ad o)] below meth cC D ca ad (fun σ' => (∀ i, i ≠ q → i ≠ q + 3 → σ' i = σ i) ∧ RotaAt σ' q p d) H locs (F0 mM 10 ls []) := by
    intro n_10
    induction n_10 with
    | zero =>
      intro k τ hk hfr ht hd hn_10
      exact absurd hn_10 (Nat.not_lt_zero _)
    | succ n_10 ih_10 =>
      intro k τ hk hfr ht hd hn_10 H locs ls hP hS hl
      refine lv_iload_n hx hb dX1_takeFrom_10 rfl (lv_at hl 2 rfl) ?_
      refine lv_aload_n hx hb dX1_takeFrom_11 rfl (lv_at hl 0 rfl) ?_
      refine xk_get hx hb hts (inX1_takeFrom_X1) hown hK hP q (by omega) (ci := 1) (e1_rota (by omega) (by omega)) rfl 1 (by decide) (flX1_takeFrom_15 hts) rfl (.int (τ q 1)) rfl dX1_takeFrom_12 ?_
      refine xn_eqi (y := nI p) ht ?_
      refine xn_ige (tgt := 34) hx hb dX1_takeFrom_15 (by decide) (by omega) (by omega) (fun c_15 => ?_) (fun c_15 => ?_)
      · exact xk_vret hx hb hr X1_ok hK hX hP hS hlk dX1_takeFrom_34 (⟨hfr, ht, hp6, fun j hj => ⟨hd j (by omega), (hR.2.2 j hj).2⟩⟩)
      · refine lv_aload_n hx hb dX1_takeFrom_18 rfl (lv_at hl 0 rfl) ?_
        refine lv_iload_n hx hb dX1_takeFrom_19 rfl (lv_at hl 2 rfl) ?_
        refine lv_aload_n hx hb dX1_takeFrom_20 rfl (lv_at hl 1 rfl) ?_
        refine lv_iload_n hx hb dX1_takeFrom_21 rfl (lv_at hl 2 rfl) ?_
        have hRo := RotaAt_fr (τ := τ) hR (hfr _ (by omega) (by omega)) (hfr _ (by omega) (by omega))
        refine xk_fi (va_runV (As := [.int (nI k)]) (rest := [.int (nI k), .ref (ad q)]) ⟨hx, hb, hml, hown, hts⟩ (k1_drawerIn l hI (q := o) (d := d) (h := k) (by omega) (by omega) hRo (by omega) (by omega)) (cwV 1 hts gX1_takeFrom_X1_drawerIn rfl rfl rfl (by decide +kernel) ⟨Nat.le_of_ble_eq_true rfl, Nat.le_of_ble_eq_true rfl⟩) (xk_preV X1_ok hK hX hP (xk_recv hK hP o (by omega) (ci := 1) (e1_rota (by omega) (by omega)) rfl)) rfl rfl hl.1 rfl (lv_room (Nat.le_of_ble_eq_true rfl)) dX1_takeFrom_22 ⟨Nat.le_of_ble_eq_true rfl, Nat.le_of_ble_eq_true rfl⟩) hS (fun H locs hP hS => ?_)
        rw [Nat.mod_eq_of_lt (by omega : k < p)]
        refine xk_fv (va_runV (As := [.int (nI k), .int (nI (d k))]) (rest := []) ⟨hx, hb, hml, hown, hts⟩ (k1_setPlace l hI (q := q) (k := k) (w := d k) (by omega) (by omega) ht (by omega) (by omega)) (cwV 2 hts gX1_takeFrom_X1_setPlace rfl rfl rfl (by decide +kernel) ⟨Nat.le_of_ble_eq_true rfl, Nat.le_of_ble_eq_true rfl⟩) (xk_preV X1_ok hK hX hP (xk_recv hK hP q (by omega) (ci := 1) (e1_rota (by omega) (by omega)) rfl)) rfl rfl hl.1 rfl (lv_room (Nat.le_of_ble_eq_true rfl)) dX1_takeFrom_25 ⟨Nat.le_of_ble_eq_true rfl, Nat.le_of_ble_eq_true rfl⟩) hS (fun H locs hP hS => ?_)
        refine lv_iinc (v := nI (k + 1)) (lv' := [(2, .int (nI (k + 1))), (0, .ref (ad q)), (1, .ref (ad o))]) hx hb dX1_takeFrom_28 hl (k := 2) rfl (xn_inc _ 1) (by decide) rfl (fun ls hl => ?_)
        refine lv_goto (tgt := 10) hx hb dX1_takeFrom_31 (by decide) ?_
        exact ih_10 (k + 1) (up τ (q + 3) k (nI (d k))) (by omega) (fun i h1 h2 => by rw [up_r h2]; exact hfr i h1 h2) (by rw [up_r (by omega)]; exact ht) (fun j hj => by
          by_cases hjk : j = k
          · rw [hjk, up_s]
          · rw [up_n (by omega)]; exact hd j (by omega)) (by omega) _ _ _ hP hS (lv_sub hl [1, 2, 0] rfl)
  exact LP_10 _ 0 (up σ q 1 (nI p)) (by omega) (fun i h1 _ => up_r h1) up_s (fun j hj => absurd hj (Nat.not_lt_zero _)) (Nat.lt_succ_self _) _ _ _ hP hS (lv_sub hl [1, 2, 0] rfl)
