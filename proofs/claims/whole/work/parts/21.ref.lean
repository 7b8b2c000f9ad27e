/-! the reference: drawers, walks -/
theorem wk_bnd {p y e0 h0 : Nat} {d : Nat → Nat} (hd : ∀ k, k < p → d k < 5) (hp : 0 < p) (hp6 : p ≤ 6) (hy : y ≤ 36) (he0 : e0 < 5) : ∀ j e h, wk p d y e0 h0 j = some (e, h) → e < 5 ∧ h ≤ h0 + j * 216 := by
  intro j
  induction j with
  | zero =>
    intro e h hw
    simp only [wk] at hw
    cases hw
    exact ⟨he0, by omega⟩
  | succ j ih =>
    intro e h hw
    cases hj : wk p d y e0 h0 j with
    | none => simp only [wk, hj, Option.bind_none] at hw; cases hw
    | some q =>
      obtain ⟨e1, h1⟩ := q
      obtain ⟨a, b⟩ := ih e1 h1 hj
      by_cases hc : cta p d e1 h1 y p 1 = 0
      · rw [wk_s0 hj hc] at hw; cases hw
      · rw [wk_s1 hj hc] at hw
        cases hw
        have hcp := cta_0 hp hc
        have hm := Nat.mul_le_mul (show cta p d e1 h1 y p 1 ≤ 6 by omega) hy
        exact ⟨hd _ (Nat.mod_lt _ hp), by rw [Nat.succ_mul]; omega⟩
def hz : Option (Nat × Nat) → Int32
  | none => -9
  | some q => nI q.2
theorem wz_s {p y e0 h0 j e h : Nat} {d : Nat → Nat} (hj : wk p d y e0 h0 j = some (e, h)) : oth p d e h y = wz (wk p d y e0 h0 (j + 1)) ∧ dwn p d e h y = hz (wk p d y e0 h0 (j + 1)) := by
  by_cases hc : cta p d e h y p 1 = 0
  · rw [wk_s0 hj hc, oth, dwn, if_pos hc, if_pos hc]
    exact ⟨rfl, rfl⟩
  · rw [wk_s1 hj hc, oth, dwn, if_neg hc, if_neg hc]
    exact ⟨rfl, rfl⟩

set_option maxRecDepth 20000 in
theorem flX7_drawerBy_28 {s : State} {av : Array Value} (hts : ∀ w ∈ wsX7_drawerBy, w.before av s = true) : (Cond.fieldLink RX7 28 "WellBackModel" "owner" "[I").before av s = true := hts _ (by decide +kernel)
set_option maxRecDepth 20000 in
theorem flX7_drawerBy_138 {s : State} {av : Array Value} (hts : ∀ w ∈ wsX7_drawerBy, w.before av s = true) : (Cond.fieldLink RX7 138 "WellBackModel" "drawer" "I").before av s = true := hts _ (by decide +kernel)
set_option maxRecDepth 20000 in
theorem inX7_drawerBy_X7 : ∀ w ∈ u_ws RX7 TX7 30, w ∈ wsX7_drawerBy := by decide +kernel
set_option maxHeartbeats 4000000 in
set_option maxRecDepth 100000 in
theorem k2_drawerBy (l : Launch) {D : va_G} {ca : Nat → ClassId} {ad : Nat → Nat} (hI : Ij ad 18) {σ : Sg} {n g : Nat} {th : Nat → Nat → Nat} {p : Nat} {d : Nat → Nat} {x h : Nat} (hT : ThM σ n g th) (hR : RotaM σ p d) (hp0 : 0 < p) (hxn : x < n) (hhb : h ≤ 100000) : C2i l D ca ad yX7_drawerBy wsX7_drawerBy { frames := 2, cells := 0, slots := 0, locals := 48 } [.ref (ad 0), .int (nI x), .int (nI h)] σ (fun r σ' => r = oth p d (th x 2) h (dl g th x) ∧ σ' 0 21 = dwn p d (th x 2) h (dl g th x) ∧ FrF σ σ') := by
  refine xk_entry cX7_drawerBy 3 (some .int) (by decide) rfl (Nat.le_of_ble_eq_true rfl) ?_
  intro pP eE sS mM below meth cC hx hb hml hr hts hown hlk hP hK hX hS ls hl
  have hl : lv_has ls 3 [(0, .ref (ad 0)), (1, .int (nI x)), (2, .int (nI h))] := hl
  have hn5 := hT.2.2.1
  have hg9 := hT.2.2.2.1
  have hp6 := hR.2.1
  have hXx := hT.2.2.2.2 x hxn
  obtain ⟨ho0, ho1, ho2, ho3, ho4⟩ := hXx.2
  have hFc : FrF σ σ := FrF.rf
  have hTc := hT
  have hRc := hR
  have hXxc := hTc.2.2.2.2 x (by omega)
  refine lv_aload_n hx hb dX7_drawerBy_0 rfl (lv_at hl 0 rfl) ?_
  refine lv_iload_n hx hb dX7_drawerBy_1 rfl (lv_at hl 1 rfl) ?_
  refine lv_aload_n hx hb dX7_drawerBy_2 rfl (lv_at hl 0 rfl) ?_
  refine xk_get hx hb hts (inX7_drawerBy_X7) hown hK hP 0 (by omega) (ci := 7) e2_obj rfl 11 (by decide) (flX7_drawerBy_28 hts) rfl (.ref (ad 7)) rfl dX7_drawerBy_3 ?_
  refine lv_iload_n hx hb dX7_drawerBy_6 rfl (lv_at hl 1 rfl) ?_
  refine xk_iald hx hb hK hP 7 (by omega) (n := 5) (e2_row 5 (by decide) rfl) rfl x (by omega) (by decide) dX7_drawerBy_7 ?_
  refine xn_eqi (y := nI (th x 2)) (hXxc.1 2 (by omega)) ?_
  refine lv_iload_n hx hb dX7_drawerBy_8 rfl (lv_at hl 2 rfl) ?_
  refine xk_cv (va_runV (As := [.int (nI x), .int (nI (th x 2)), .int (nI h)]) (rest := []) ⟨hx, hb, hml, hown, hts⟩ (k2_follow l hI (x := x) (e := th x 2) (h := h) hTc hRc hp0 (by omega) (by omega) (by omega)) (cwV 3 hts gX7_drawerBy_X7_follow rfl rfl rfl (by decide +kernel) ⟨Nat.le_of_ble_eq_true rfl, Nat.le_of_ble_eq_true rfl⟩) (xk_preV X2_ok hK hX hP (xk_recv hK hP 0 (by omega) (ci := 7) e2_obj rfl)) rfl rfl hl.1 rfl (lv_room (Nat.le_of_ble_eq_true rfl)) dX7_drawerBy_9 ⟨Nat.le_of_ble_eq_true rfl, Nat.le_of_ble_eq_true rfl⟩) hS (fun τ9 H locs hp hP hS => ?_)
  obtain ⟨hq20, hq21, hq22, hF9⟩ := hp
  have hFc := hFc.tr hF9
  have hTc := ThM_fr hT hFc.M
  have hRc := RotaM_fr hR hFc.M
  have hXxc := hTc.2.2.2.2 x (by omega)
  refine lv_aload_n hx hb dX7_drawerBy_12 rfl (lv_at hl 0 rfl) ?_
  refine xk_get hx hb hts (inX7_drawerBy_X7) hown hK hP 0 (by omega) (ci := 7) e2_obj rfl 20 (by decide) (flX7_drawerBy_138 hts) rfl (.int (τ9 0 20)) rfl dX7_drawerBy_13 ?_
  refine xn_eqi (y := oth p d (th x 2) h (dl g th x)) hq20 ?_
  exact xk_iret hx hb hr (vp_nar_int _) X2_ok hK hX hP hS hlk dX7_drawerBy_16 (⟨rfl, hq21, hFc⟩)

set_option maxRecDepth 20000 in
theorem flX7_has_28 {s : State} {av : Array Value} (hts : ∀ w ∈ wsX7_has, w.before av s = true) : (Cond.fieldLink RX7 28 "WellBackModel" "owner" "[I").before av s = true := hts _ (by decide +kernel)
set_option maxRecDepth 20000 in
theorem flX7_has_34 {s : State} {av : Array Value} (hts : ∀ w ∈ wsX7_has, w.before av s = true) : (Cond.fieldLink RX7 34 "WellBackModel" "hourOf" "[I").before av s = true := hts _ (by decide +kernel)
set_option maxRecDepth 20000 in
theorem flX7_has_138 {s : State} {av : Array Value} (hts : ∀ w ∈ wsX7_has, w.before av s = true) : (Cond.fieldLink RX7 138 "WellBackModel" "drawer" "I").before av s = true := hts _ (by decide +kernel)
set_option maxRecDepth 20000 in
theorem flX7_has_141 {s : State} {av : Array Value} (hts : ∀ w ∈ wsX7_has, w.before av s = true) : (Cond.fieldLink RX7 141 "WellBackModel" "drawn" "I").before av s = true := hts _ (by decide +kernel)
set_option maxRecDepth 20000 in
theorem inX7_has_X7 : ∀ w ∈ u_ws RX7 TX7 30, w ∈ wsX7_has := by decide +kernel
set_option maxHeartbeats 4000000 in
set_option maxRecDepth 100000 in
theorem k2_has (l : Launch) {D : va_G} {ca : Nat → ClassId} {ad : Nat → Nat} (hI : Ij ad 18) {σ : Sg} {n g : Nat} {th : Nat → Nat → Nat} {p : Nat} {d : Nat → Nat} {x k : Nat} (hT : ThM σ n g th) (hR : RotaM σ p d) (hp0 : 0 < p) (hxn : x < n) (hk30 : k ≤ 30) : C2i l D ca ad yX7_has wsX7_has { frames := 2, cells := 0, slots := 0, locals := 48 } [.ref (ad 0), .int (nI x), .int (nI k)] σ (fun r σ' => r = wz (wk p d (dl g th x) (th x 2) (th x 4) k) ∧ FrF σ σ') := by
  refine xk_entry cX7_has 6 (some .int) (by decide) rfl (Nat.le_of_ble_eq_true rfl) ?_
  intro pP eE sS mM below meth cC hx hb hml hr hts hown hlk hP hK hX hS ls hl
  have hl : lv_has ls 6 [(0, .ref (ad 0)), (1, .int (nI x)), (2, .int (nI k))] := hl
  have hn5 := hT.2.2.1
  have hg9 := hT.2.2.2.1
  have hp6 := hR.2.1
  have hXx := hT.2.2.2.2 x hxn
  obtain ⟨ho0, ho1, ho2, ho3, ho4⟩ := hXx.2
  have hdlx : dl g th x ≤ 36 := dly_le hg9 ho1
  have hFc : FrF σ σ := FrF.rf
  have hTc := hT
  have hRc := hR
  have hXxc := hTc.2.2.2.2 x (by omega)
  refine lv_aload_n hx hb dX7_has_0 rfl (lv_at hl 0 rfl) ?_
  refine xk_get hx hb hts (inX7_has_X7) hown hK hP 0 (by omega) (ci := 7) e2_obj rfl 11 (by decide) (flX7_has_28 hts) rfl (.ref (ad 7)) rfl dX7_has_1 ?_
  refine lv_iload_n hx hb dX7_has_4 rfl (lv_at hl 1 rfl) ?_
  refine xk_iald hx hb hK hP 7 (by omega) (n := 5) (e2_row 5 (by decide) rfl) rfl x (by omega) (by decide) dX7_has_5 ?_
  refine xn_eqi (y := nI (th x 2)) (hXxc.1 2 (by omega)) ?_
  refine lv_istore_n (lv' := [(3, .int (nI (th x 2))), (0, .ref (ad 0)), (1, .int (nI x)), (2, .int (nI k))]) hx hb dX7_has_6 rfl hl (by decide) rfl (fun ls hl => ?_)
  refine lv_aload_n hx hb dX7_has_7 rfl (lv_at hl 1 rfl) ?_
  refine xk_get hx hb hts (inX7_has_X7) hown hK hP 0 (by omega) (ci := 7) e2_obj rfl 13 (by decide) (flX7_has_34 hts) rfl (.ref (ad 9)) rfl dX7_has_8 ?_
  refine lv_iload_n hx hb dX7_has_11 rfl (lv_at hl 2 rfl) ?_
  refine xk_iald hx hb hK hP 9 (by omega) (n := 5) (e2_row 5 (by decide) rfl) rfl x (by omega) (by decide) dX7_has_12 ?_
  refine xn_eqi (y := nI (th x 4)) (hXxc.1 4 (by omega)) ?_
  refine lv_istore (lv' := [(4, .int (nI (th x 4))), (3, .int (nI (th x 2))), (0, .ref (ad 0)), (1, .int (nI x)), (2, .int (nI k))]) hx hb dX7_has_13 hl (by decide) rfl (fun ls hl => ?_)
  refine lv_iconst (v := nI 0) hx hb dX7_has_15 (by decide) ?_
  refine lv_istore (lv' := [(5, .int (nI 0)), (4, .int (nI (th x 4))), (3, .int (nI (th x 2))), (0, .ref (ad 0)), (1, .int (nI x)), (2, .int (nI k))]) hx hb dX7_has_16 hl (by decide) rfl (fun ls hl => ?_)
  have LP_18 : ∀ (n_18 : Nat) (j : Nat) (τ : Sg), (j ≤ k) → (FrF σ τ) → (k - j) < n_18 → ∀ (H : Heap) (locs : List Loc) (ls : Array Slot), va_P D vwCl (wl ad 18 (en2 ad ca τ)) H → va_S (AA ad 18) sS.heap H locs → lv_has ls 6 [(0, .ref (ad 0)), (1, .int (nI x)), (2, .int (nI k)), (3, .int (wz (wk p d (dl g th x) (th x 2) (th x 4) j))), (4, .int (hz (wk p d (dl g th x) (th x 2) (th x 4) j))), (5, .int (nI j))] → Wwi2 pP l eE { frames := 2, cells := 0, slots := 0, locals := 48 } sS mM [.ref (ad 0), .int (nI x), .int (nI k)] below meth cC D ca ad (fun r σ' => r = wz (wk p d (dl g th x) (th x 2) (th x 4) k) ∧ FrF σ σ') H locs (F0 mM 18 ls []) := by
    intro n_18
    induction n_18 with
    | zero =>
      intro j τ hj hFc hn_18
      exact absurd hn_18 (Nat.not_lt_zero _)
    | succ n_18 ih_18 =>
      intro j τ hj hFc hn_18 H locs ls hP hS hl
      have hTc := ThM_fr hT hFc.M
      have hRc := RotaM_fr hR hFc.M
      have hXxc := hTc.2.2.2.2 x (by omega)
      refine lv_iload hx hb dX7_has_18 (lv_at hl 5 rfl) ?_
      refine lv_iload_n hx hb dX7_has_20 rfl (lv_at hl 2 rfl) ?_
      refine xn_ige (tgt := 55) hx hb dX7_has_21 (by decide) (by omega) (by omega) (fun c_21 => ?_) (fun c_21 => ?_)
      · refine lv_iload_n hx hb dX7_has_55 rfl (lv_at hl 3 rfl) ?_
        exact xk_iret hx hb hr (vp_nar_int _) X2_ok hK hX hP hS hlk dX7_has_56 (⟨by rw [show j = k by omega], hFc⟩)
      · rcases hw : wk p d (dl g th x) (th x 2) (th x 4) j with _ | ⟨e, h⟩
        · rw [hw] at hl
          have hl : lv_has ls 6 [(0, .ref (ad 0)), (1, .int (nI x)), (2, .int (nI k)), (3, .int (-9)), (4, .int (-9)), (5, .int (nI j))] := hl
          refine lv_iload_n hx hb dX7_has_24 rfl (lv_at hl 3 rfl) ?_
          refine lv_bipush (v := (-9)) hx hb dX7_has_25 (by decide) ?_
          refine lv_icmp_eq (tgt := 55) hx hb dX7_has_27 (by decide) (fun c_27 => ?_) (fun c_27 => absurd rfl c_27)
          refine lv_iload_n hx hb dX7_has_55 rfl (lv_at hl 3 rfl) ?_
          exact xk_iret hx hb hr (vp_nar_int _) X2_ok hK hX hP hS hlk dX7_has_56 (⟨by rw [wk_none' hw (by omega)]; rfl, hFc⟩)
        · rw [hw] at hl
          have hl : lv_has ls 6 [(0, .ref (ad 0)), (1, .int (nI x)), (2, .int (nI k)), (3, .int (nI e)), (4, .int (nI h)), (5, .int (nI j))] := hl
          have hbd := wk_bnd (fun k hk => (hR.2.2 k hk).2) hp0 hp6 hdlx ho2 j e h hw
          have hj30 : j * 216 ≤ 30 * 216 := Nat.mul_le_mul_right 216 (by omega)
          refine lv_iload_n hx hb dX7_has_24 rfl (lv_at hl 3 rfl) ?_
          refine lv_bipush (v := (-9)) hx hb dX7_has_25 (by decide) ?_
          refine lv_icmp_eq (tgt := 55) hx hb dX7_has_27 (by decide) (fun c_27 => absurd c_27 (nI_n9' (by omega))) (fun c_27 => ?_)
          refine lv_aload_n hx hb dX7_has_30 rfl (lv_at hl 0 rfl) ?_
          refine lv_iload_n hx hb dX7_has_31 rfl (lv_at hl 1 rfl) ?_
          refine lv_iload_n hx hb dX7_has_32 rfl (lv_at hl 3 rfl) ?_
          refine lv_iload hx hb dX7_has_33 (lv_at hl 4 rfl) ?_
          refine xk_cv (va_runV (As := [.int (nI x), .int (nI e), .int (nI h)]) (rest := []) ⟨hx, hb, hml, hown, hts⟩ (k2_follow l hI (x := x) (e := e) (h := h) hTc hRc hp0 (by omega) (by omega) (by omega)) (cwV 3 hts gX7_has_X7_follow rfl rfl rfl (by decide +kernel) ⟨Nat.le_of_ble_eq_true rfl, Nat.le_of_ble_eq_true rfl⟩) (xk_preV X2_ok hK hX hP (xk_recv hK hP 0 (by omega) (ci := 7) e2_obj rfl)) rfl rfl hl.1 rfl (lv_room (Nat.le_of_ble_eq_true rfl)) dX7_has_35 ⟨Nat.le_of_ble_eq_true rfl, Nat.le_of_ble_eq_true rfl⟩) hS (fun τ35 H locs hp hP hS => ?_)
          obtain ⟨hq20, hq21, hq22, hF35⟩ := hp
          have hFc := hFc.tr hF35
          have hTc := ThM_fr hT hFc.M
          have hRc := RotaM_fr hR hFc.M
          have hXxc := hTc.2.2.2.2 x (by omega)
          have hws := wz_s hw
          refine lv_aload_n hx hb dX7_has_38 rfl (lv_at hl 0 rfl) ?_
          refine xk_get hx hb hts (inX7_has_X7) hown hK hP 0 (by omega) (ci := 7) e2_obj rfl 20 (by decide) (flX7_has_138 hts) rfl (.int (τ35 0 20)) rfl dX7_has_39 ?_
          refine xn_eqi (y := wz (wk p d (dl g th x) (th x 2) (th x 4) (j + 1))) (hq20.trans hws.1) ?_
          refine lv_istore_n (lv' := [(3, .int (wz (wk p d (dl g th x) (th x 2) (th x 4) (j + 1)))), (0, .ref (ad 0)), (1, .int (nI x)), (2, .int (nI k)), (4, .int (nI h)), (5, .int (nI j))]) hx hb dX7_has_42 rfl hl (by decide) rfl (fun ls hl => ?_)
          refine lv_aload_n hx hb dX7_has_43 rfl (lv_at hl 1 rfl) ?_
          refine xk_get hx hb hts (inX7_has_X7) hown hK hP 0 (by omega) (ci := 7) e2_obj rfl 21 (by decide) (flX7_has_141 hts) rfl (.int (τ35 0 21)) rfl dX7_has_44 ?_
          refine xn_eqi (y := hz (wk p d (dl g th x) (th x 2) (th x 4) (j + 1))) (hq21.trans hws.2) ?_
          refine lv_istore (lv' := [(4, .int (hz (wk p d (dl g th x) (th x 2) (th x 4) (j + 1)))), (3, .int (wz (wk p d (dl g th x) (th x 2) (th x 4) (j + 1)))), (0, .ref (ad 0)), (1, .int (nI x)), (2, .int (nI k)), (5, .int (nI j))]) hx hb dX7_has_47 hl (by decide) rfl (fun ls hl => ?_)
          refine lv_iinc (v := nI (j + 1)) (lv' := [(5, .int (nI (j + 1))), (4, .int (hz (wk p d (dl g th x) (th x 2) (th x 4) (j + 1)))), (3, .int (wz (wk p d (dl g th x) (th x 2) (th x 4) (j + 1)))), (0, .ref (ad 0)), (1, .int (nI x)), (2, .int (nI k))]) hx hb dX7_has_49 hl (k := 5) rfl (xn_inc _ 1) (by decide) rfl (fun ls hl => ?_)
          refine lv_goto (tgt := 18) hx hb dX7_has_52 (by decide) ?_
          exact ih_18 (j + 1) τ35 (by omega) hFc (by omega) _ _ _ hP hS (lv_sub hl [3, 4, 5, 2, 1, 0] rfl)
  exact LP_18 _ 0 σ (by omega) FrF.rf (Nat.lt_succ_self _) _ _ _ hP hS (lv_sub hl [3, 4, 5, 2, 1, 0] rfl)

set_option maxRecDepth 20000 in
theorem flX7_rightNow_31 {s : State} {av : Array Value} (hts : ∀ w ∈ wsX7_rightNow, w.before av s = true) : (Cond.fieldLink RX7 31 "WellBackModel" "goal" "[I").before av s = true := hts _ (by decide +kernel)
set_option maxRecDepth 20000 in
theorem flX7_rightNow_34 {s : State} {av : Array Value} (hts : ∀ w ∈ wsX7_rightNow, w.before av s = true) : (Cond.fieldLink RX7 34 "WellBackModel" "hourOf" "[I").before av s = true := hts _ (by decide +kernel)
set_option maxRecDepth 20000 in
theorem flX7_rightNow_71 {s : State} {av : Array Value} (hts : ∀ w ∈ wsX7_rightNow, w.before av s = true) : (Cond.fieldLink RX7 71 "WellBackModel" "things" "I").before av s = true := hts _ (by decide +kernel)
set_option maxRecDepth 20000 in
theorem inX7_rightNow_X7 : ∀ w ∈ u_ws RX7 TX7 30, w ∈ wsX7_rightNow := by decide +kernel
set_option maxHeartbeats 4000000 in
set_option maxRecDepth 100000 in
theorem k2_rightNow (l : Launch) {D : va_G} {ca : Nat → ClassId} {ad : Nat → Nat} (hI : Ij ad 18) {σ : Sg} {n g : Nat} {th : Nat → Nat → Nat} {p : Nat} {d : Nat → Nat} (hT : ThM σ n g th) (hR : RotaM σ p d) (hp0 : 0 < p) : C2i l D ca ad yX7_rightNow wsX7_rightNow { frames := 3, cells := 0, slots := 0, locals := 70 } [.ref (ad 0)] σ (fun r σ' => r = nI (cb (fun x => decide (rt p d g th x (th x 4))) n) ∧ FrF σ σ') := by
  refine xk_entry cX7_rightNow 3 (some .int) (by decide) rfl (Nat.le_of_ble_eq_true rfl) ?_
  intro pP eE sS mM below meth cC hx hb hml hr hts hown hlk hP hK hX hS ls hl
  have hl : lv_has ls 3 [(0, .ref (ad 0))] := hl
  have hn5 := hT.2.2.1
  have hg9 := hT.2.2.2.1
  have hp6 := hR.2.1
  have hFc : FrF σ σ := FrF.rf
  have hTc := hT
  have hRc := hR
  refine lv_iconst (v := nI 0) hx hb dX7_rightNow_0 (by decide) ?_
  refine lv_istore_n (lv' := [(1, .int (nI 0)), (0, .ref (ad 0))]) hx hb dX7_rightNow_1 rfl hl (by decide) rfl (fun ls hl => ?_)
  refine lv_iconst (v := nI 0) hx hb dX7_rightNow_2 (by decide) ?_
  refine lv_istore_n (lv' := [(2, .int (nI 0)), (1, .int (nI 0)), (0, .ref (ad 0))]) hx hb dX7_rightNow_3 rfl hl (by decide) rfl (fun ls hl => ?_)
  have LP_4 : ∀ (n_4 : Nat) (x : Nat) (τ : Sg), (x ≤ n) → (FrF σ τ) → (n - x) < n_4 → ∀ (H : Heap) (locs : List Loc) (ls : Array Slot), va_P D vwCl (wl ad 18 (en2 ad ca τ)) H → va_S (AA ad 18) sS.heap H locs → lv_has ls 3 [(0, .ref (ad 0)), (1, .int (nI (cb (fun x => decide (rt p d g th x (th x 4))) x))), (2, .int (nI x))] → Wwi2 pP l eE { frames := 3, cells := 0, slots := 0, locals := 70 } sS mM [.ref (ad 0)] below meth cC D ca ad (fun r σ' => r = nI (cb (fun x => decide (rt p d g th x (th x 4))) n) ∧ FrF σ σ') H locs (F0 mM 4 ls []) := by
    intro n_4
    induction n_4 with
    | zero =>
      intro x τ hx0 hFc hn_4
      exact absurd hn_4 (Nat.not_lt_zero _)
    | succ n_4 ih_4 =>
      intro x τ hx0 hFc hn_4 H locs ls hP hS hl
      have hTc := ThM_fr hT hFc.M
      have hRc := RotaM_fr hR hFc.M
      refine lv_iload_n hx hb dX7_rightNow_4 rfl (lv_at hl 2 rfl) ?_
      refine lv_aload_n hx hb dX7_rightNow_5 rfl (lv_at hl 0 rfl) ?_
      refine xk_get hx hb hts (inX7_rightNow_X7) hown hK hP 0 (by omega) (ci := 7) e2_obj rfl 7 (by decide) (flX7_rightNow_71 hts) rfl (.int (τ 0 7)) rfl dX7_rightNow_6 ?_
      refine xn_eqi (y := nI n) hTc.2.1 ?_
      refine xn_ige (tgt := 46) hx hb dX7_rightNow_9 (by decide) (by omega) (by omega) (fun c_9 => ?_) (fun c_9 => ?_)
      · refine lv_iload_n hx hb dX7_rightNow_46 rfl (lv_at hl 1 rfl) ?_
        exact xk_iret hx hb hr (vp_nar_int _) X2_ok hK hX hP hS hlk dX7_rightNow_47 (⟨by rw [show x = n by omega], hFc⟩)
      · obtain ⟨ho0, ho1, ho2, ho3, ho4⟩ := (hT.2.2.2.2 x c_9).2
        have hXxc := hTc.2.2.2.2 x c_9
        have hcbl := cb_le (fun x => decide (rt p d g th x (th x 4))) x
        refine lv_iload_n hx hb dX7_rightNow_12 rfl (lv_at hl 1 rfl) ?_
        refine lv_aload_n hx hb dX7_rightNow_13 rfl (lv_at hl 0 rfl) ?_
        refine lv_iload_n hx hb dX7_rightNow_14 rfl (lv_at hl 2 rfl) ?_
        refine lv_aload_n hx hb dX7_rightNow_15 rfl (lv_at hl 0 rfl) ?_
        refine xk_get hx hb hts (inX7_rightNow_X7) hown hK hP 0 (by omega) (ci := 7) e2_obj rfl 13 (by decide) (flX7_rightNow_34 hts) rfl (.ref (ad 9)) rfl dX7_rightNow_16 ?_
        refine lv_iload_n hx hb dX7_rightNow_19 rfl (lv_at hl 2 rfl) ?_
        refine xk_iald hx hb hK hP 9 (by omega) (n := 5) (e2_row 5 (by decide) rfl) rfl x (by omega) (by decide) dX7_rightNow_20 ?_
        refine xn_eqi (y := nI (th x 4)) (hXxc.1 4 (by omega)) ?_
        refine xk_ci (va_runV (As := [.int (nI x), .int (nI (th x 4))]) (rest := [.int (nI (cb (fun x => decide (rt p d g th x (th x 4))) x))]) ⟨hx, hb, hml, hown, hts⟩ (k2_drawerBy l hI (x := x) (h := th x 4) hTc hRc hp0 (by omega) (by omega)) (cwV 2 hts gX7_rightNow_X7_drawerBy rfl rfl rfl (by decide +kernel) ⟨Nat.le_of_ble_eq_true rfl, Nat.le_of_ble_eq_true rfl⟩) (xk_preV X2_ok hK hX hP (xk_recv hK hP 0 (by omega) (ci := 7) e2_obj rfl)) rfl rfl hl.1 rfl (lv_room (Nat.le_of_ble_eq_true rfl)) dX7_rightNow_21 ⟨Nat.le_of_ble_eq_true rfl, Nat.le_of_ble_eq_true rfl⟩) hS (fun r21 τ21 H locs hp hP hS => ?_)
        obtain ⟨rfl, hdn, hF21⟩ := hp
        have hFc := hFc.tr hF21
        have hTc := ThM_fr hT hFc.M
        have hRc := RotaM_fr hR hFc.M
        have hXxc := hTc.2.2.2.2 x (by omega)
        refine lv_aload_n hx hb dX7_rightNow_24 rfl (lv_at hl 0 rfl) ?_
        refine xk_get hx hb hts (inX7_rightNow_X7) hown hK hP 0 (by omega) (ci := 7) e2_obj rfl 12 (by decide) (flX7_rightNow_31 hts) rfl (.ref (ad 8)) rfl dX7_rightNow_25 ?_
        refine lv_iload_n hx hb dX7_rightNow_28 rfl (lv_at hl 2 rfl) ?_
        refine xk_iald hx hb hK hP 8 (by omega) (n := 5) (e2_row 5 (by decide) rfl) rfl x (by omega) (by decide) dX7_rightNow_29 ?_
        refine xn_eqi (y := nI (th x 3)) (hXxc.1 3 (by omega)) ?_
        refine lv_icmp_ne (tgt := 37) hx hb dX7_rightNow_30 (by decide) (fun c_30 => ?_) (fun c_30 => ?_)
        · refine lv_iconst (v := nI 0) hx hb dX7_rightNow_37 (by decide) ?_
          refine xn_iadd hx hb dX7_rightNow_38 ?_
          refine lv_istore_n (lv' := [(1, .int (nI ((cb (fun x => decide (rt p d g th x (th x 4))) x) + 0))), (0, .ref (ad 0)), (2, .int (nI x))]) hx hb dX7_rightNow_39 rfl hl (by decide) rfl (fun ls hl => ?_)
          refine lv_iinc (v := nI (x + 1)) (lv' := [(2, .int (nI (x + 1))), (1, .int (nI ((cb (fun x => decide (rt p d g th x (th x 4))) x) + 0))), (0, .ref (ad 0))]) hx hb dX7_rightNow_40 hl (k := 2) rfl (xn_inc _ 1) (by decide) rfl (fun ls hl => ?_)
          refine lv_goto (tgt := 4) hx hb dX7_rightNow_43 (by decide) ?_
          have hcb : cb (fun x => decide (rt p d g th x (th x 4))) (x + 1) = cb (fun x => decide (rt p d g th x (th x 4))) x + 0 := by simp only [cb]; rw [if_neg (by simpa using c_30)]; rfl
          rw [← hcb] at hl
          exact ih_4 (x + 1) τ21 (by omega) hFc (by omega) _ _ _ hP hS (lv_sub hl [2, 1, 0] rfl)
        · refine lv_iconst (v := nI 1) hx hb dX7_rightNow_33 (by decide) ?_
          refine lv_goto (tgt := 38) hx hb dX7_rightNow_34 (by decide) ?_
          refine xn_iadd hx hb dX7_rightNow_38 ?_
          refine lv_istore_n (lv' := [(1, .int (nI ((cb (fun x => decide (rt p d g th x (th x 4))) x) + 1))), (0, .ref (ad 0)), (2, .int (nI x))]) hx hb dX7_rightNow_39 rfl hl (by decide) rfl (fun ls hl => ?_)
          refine lv_iinc (v := nI (x + 1)) (lv' := [(2, .int (nI (x + 1))), (1, .int (nI ((cb (fun x => decide (rt p d g th x (th x 4))) x) + 1))), (0, .ref (ad 0))]) hx hb dX7_rightNow_40 hl (k := 2) rfl (xn_inc _ 1) (by decide) rfl (fun ls hl => ?_)
          refine lv_goto (tgt := 4) hx hb dX7_rightNow_43 (by decide) ?_
          have hcb : cb (fun x => decide (rt p d g th x (th x 4))) (x + 1) = cb (fun x => decide (rt p d g th x (th x 4))) x + 1 := by simp only [cb]; rw [if_pos (by simpa using c_30)]
          rw [← hcb] at hl
          exact ih_4 (x + 1) τ21 (by omega) hFc (by omega) _ _ _ hP hS (lv_sub hl [2, 1, 0] rfl)
  exact LP_4 _ 0 σ (by omega) FrF.rf (Nat.lt_succ_self _) _ _ _ hP hS (lv_sub hl [2, 1, 0] rfl)

set_option maxRecDepth 20000 in
theorem flX7_areSo_52 {s : State} {av : Array Value} (hts : ∀ w ∈ wsX7_areSo, w.before av s = true) : (Cond.fieldLink RX7 52 "WellBackModel" "readThing" "[I").before av s = true := hts _ (by decide +kernel)
set_option maxRecDepth 20000 in
theorem flX7_areSo_55 {s : State} {av : Array Value} (hts : ∀ w ∈ wsX7_areSo, w.before av s = true) : (Cond.fieldLink RX7 55 "WellBackModel" "readHour" "[I").before av s = true := hts _ (by decide +kernel)
set_option maxRecDepth 20000 in
theorem flX7_areSo_58 {s : State} {av : Array Value} (hts : ∀ w ∈ wsX7_areSo, w.before av s = true) : (Cond.fieldLink RX7 58 "WellBackModel" "readDrawer" "[I").before av s = true := hts _ (by decide +kernel)
set_option maxRecDepth 20000 in
theorem flX7_areSo_113 {s : State} {av : Array Value} (hts : ∀ w ∈ wsX7_areSo, w.before av s = true) : (Cond.fieldLink RX7 113 "WellBackModel" "readings" "I").before av s = true := hts _ (by decide +kernel)
set_option maxRecDepth 20000 in
theorem inX7_areSo_X7 : ∀ w ∈ u_ws RX7 TX7 30, w ∈ wsX7_areSo := by decide +kernel
set_option maxHeartbeats 4000000 in
set_option maxRecDepth 100000 in
theorem k2_areSo (l : Launch) {D : va_G} {ca : Nat → ClassId} {ad : Nat → Nat} (hI : Ij ad 18) {σ : Sg} {n g : Nat} {th : Nat → Nat → Nat} {p : Nat} {d : Nat → Nat} {rn : Nat} {rd : Nat → Nat → Nat} (hT : ThM σ n g th) (hR : RotaM σ p d) (hp0 : 0 < p) (hRd : ReadsM σ rn n rd) : C2i l D ca ad yX7_areSo wsX7_areSo { frames := 3, cells := 0, slots := 0, locals := 70 } [.ref (ad 0)] σ (fun r σ' => r = bz (areSo p d g th rn rd) ∧ FrF σ σ') := by
  refine xk_entry cX7_areSo 2 (some .boolean) (by decide) rfl (Nat.le_of_ble_eq_true rfl) ?_
  intro pP eE sS mM below meth cC hx hb hml hr hts hown hlk hP hK hX hS ls hl
  have hl : lv_has ls 2 [(0, .ref (ad 0))] := hl
  have hn5 := hT.2.2.1
  have hg9 := hT.2.2.2.1
  have hp6 := hR.2.1
  have hFc : FrF σ σ := FrF.rf
  have hTc := hT
  have hRc := hR
  have hRdc := hRd
  have hrn8 := hRd.2.1
  refine lv_iconst (v := nI 0) hx hb dX7_areSo_0 (by decide) ?_
  refine lv_istore_n (lv' := [(1, .int (nI 0)), (0, .ref (ad 0))]) hx hb dX7_areSo_1 rfl hl (by decide) rfl (fun ls hl => ?_)
  have LP_2 : ∀ (n_2 : Nat) (k : Nat) (τ : Sg), (k ≤ rn) → (FrF σ τ) → (∀ j, j < k → so1 p d g th rd j) → (rn - k) < n_2 → ∀ (H : Heap) (locs : List Loc) (ls : Array Slot), va_P D vwCl (wl ad 18 (en2 ad ca τ)) H → va_S (AA ad 18) sS.heap H locs → lv_has ls 2 [(0, .ref (ad 0)), (1, .int (nI k))] → Wwi2 pP l eE { frames := 3, cells := 0, slots := 0, locals := 70 } sS mM [.ref (ad 0)] below meth cC D ca ad (fun r σ' => r = bz (areSo p d g th rn rd) ∧ FrF σ σ') H locs (F0 mM 2 ls []) := by
    intro n_2
    induction n_2 with
    | zero =>
      intro k τ hk0 hFc hso hn_2
      exact absurd hn_2 (Nat.not_lt_zero _)
    | succ n_2 ih_2 =>
      intro k τ hk0 hFc hso hn_2 H locs ls hP hS hl
      have hTc := ThM_fr hT hFc.M
      have hRc := RotaM_fr hR hFc.M
      have hRdc := ReadsM_fr hRd hFc.M
      refine lv_iload_n hx hb dX7_areSo_2 rfl (lv_at hl 1 rfl) ?_
      refine lv_aload_n hx hb dX7_areSo_3 rfl (lv_at hl 0 rfl) ?_
      refine xk_get hx hb hts (inX7_areSo_X7) hown hK hP 0 (by omega) (ci := 7) e2_obj rfl 26 (by decide) (flX7_areSo_113 hts) rfl (.int (τ 0 26)) rfl dX7_areSo_4 ?_
      refine xn_eqi (y := nI rn) hRdc.1 ?_
      refine xn_ige (tgt := 43) hx hb dX7_areSo_7 (by decide) (by omega) (by omega) (fun c_7 => ?_) (fun c_7 => ?_)
      · refine lv_iconst (v := nI 1) hx hb dX7_areSo_43 (by decide) ?_
        exact xk_iret hx hb hr rfl X2_ok hK hX hP hS hlk dX7_areSo_44 (⟨(bz_t (fun j hj => hso j (by omega))).symm, hFc⟩)
      · obtain ⟨hr0, hr1, hr2, hr3, hr4, hr5⟩ := hRdc.2.2 k c_7
        have hRk := hRd.2.2 k c_7
        refine lv_aload_n hx hb dX7_areSo_10 rfl (lv_at hl 0 rfl) ?_
        refine lv_aload_n hx hb dX7_areSo_11 rfl (lv_at hl 0 rfl) ?_
        refine xk_get hx hb hts (inX7_areSo_X7) hown hK hP 0 (by omega) (ci := 7) e2_obj rfl 27 (by decide) (flX7_areSo_52 hts) rfl (.ref (ad 15)) rfl dX7_areSo_12 ?_
        refine lv_iload_n hx hb dX7_areSo_15 rfl (lv_at hl 1 rfl) ?_
        refine xk_iald hx hb hK hP 15 (by omega) (n := 8) (e2_row 8 (by decide) rfl) rfl k (by omega) (by decide) dX7_areSo_16 ?_
        refine xn_eqi (y := nI (rd k 0)) hr0 ?_
        refine lv_aload_n hx hb dX7_areSo_17 rfl (lv_at hl 0 rfl) ?_
        refine xk_get hx hb hts (inX7_areSo_X7) hown hK hP 0 (by omega) (ci := 7) e2_obj rfl 28 (by decide) (flX7_areSo_55 hts) rfl (.ref (ad 16)) rfl dX7_areSo_18 ?_
        refine lv_iload_n hx hb dX7_areSo_21 rfl (lv_at hl 1 rfl) ?_
        refine xk_iald hx hb hK hP 16 (by omega) (n := 8) (e2_row 8 (by decide) rfl) rfl k (by omega) (by decide) dX7_areSo_22 ?_
        refine xn_eqi (y := nI (rd k 1)) hr1 ?_
        refine xk_ci (va_runV (As := [.int (nI (rd k 0)), .int (nI (rd k 1))]) (rest := []) ⟨hx, hb, hml, hown, hts⟩ (k2_drawerBy l hI (x := rd k 0) (h := rd k 1) hTc hRc hp0 (by omega) (by omega)) (cwV 2 hts gX7_areSo_X7_drawerBy rfl rfl rfl (by decide +kernel) ⟨Nat.le_of_ble_eq_true rfl, Nat.le_of_ble_eq_true rfl⟩) (xk_preV X2_ok hK hX hP (xk_recv hK hP 0 (by omega) (ci := 7) e2_obj rfl)) rfl rfl hl.1 rfl (lv_room (Nat.le_of_ble_eq_true rfl)) dX7_areSo_23 ⟨Nat.le_of_ble_eq_true rfl, Nat.le_of_ble_eq_true rfl⟩) hS (fun r23 τ23 H locs hp hP hS => ?_)
        obtain ⟨rfl, hdn, hF23⟩ := hp
        have hFc := hFc.tr hF23
        have hTc := ThM_fr hT hFc.M
        have hRc := RotaM_fr hR hFc.M
        have hRdc := ReadsM_fr hRd hFc.M
        have hr2 := (hRdc.2.2 k c_7).2.2.1
        refine lv_aload_n hx hb dX7_areSo_26 rfl (lv_at hl 0 rfl) ?_
        refine xk_get hx hb hts (inX7_areSo_X7) hown hK hP 0 (by omega) (ci := 7) e2_obj rfl 29 (by decide) (flX7_areSo_58 hts) rfl (.ref (ad 17)) rfl dX7_areSo_27 ?_
        refine lv_iload_n hx hb dX7_areSo_30 rfl (lv_at hl 1 rfl) ?_
        refine xk_iald hx hb hK hP 17 (by omega) (n := 8) (e2_row 8 (by decide) rfl) rfl k (by omega) (by decide) dX7_areSo_31 ?_
        refine xn_eqi (y := dz (rd k 2)) hr2 ?_
        refine lv_icmp_eq (tgt := 37) hx hb dX7_areSo_32 (by decide) (fun c_32 => ?_) (fun c_32 => ?_)
        · refine lv_iinc (v := nI (k + 1)) (lv' := [(1, .int (nI (k + 1))), (0, .ref (ad 0))]) hx hb dX7_areSo_37 hl (k := 1) rfl (xn_inc _ 1) (by decide) rfl (fun ls hl => ?_)
          refine lv_goto (tgt := 2) hx hb dX7_areSo_40 (by decide) ?_
          exact ih_2 (k + 1) τ23 (by omega) hFc (fun j hj => by
            by_cases hjk : j = k
            · rw [hjk]; exact c_32
            · exact hso j (by omega)) (by omega) _ _ _ hP hS (lv_sub hl [1, 0] rfl)
        · refine lv_iconst (v := nI 0) hx hb dX7_areSo_35 (by decide) ?_
          exact xk_iret hx hb hr rfl X2_ok hK hX hP hS hlk dX7_areSo_36 (⟨(bz_f (fun z => c_32 (z k c_7))).symm, hFc⟩)
  exact LP_2 _ 0 σ (by omega) FrF.rf (fun j hj => absurd hj (Nat.not_lt_zero _)) (Nat.lt_succ_self _) _ _ _ hP hS (lv_sub hl [1, 0] rfl)
