theorem xn_decr (a : Nat) : nI a + Int32.ofInt (-1) = nI a - nI 1 := by
  rw [Int32.sub_eq_add_neg]
  rfl
theorem xn_m2 {p : Nat} (h : 0 < p) : nI p - nI 2 = nI (p - 1) - nI 1 := by
  obtain ⟨b, rfl⟩ : ∃ b, p = b + 1 := ⟨p - 1, by omega⟩
  cases b with
  | zero => decide
  | succ b => rw [pk_sub (by omega), pk_sub (by omega)]; congr 1
theorem next_of {p i a L : Nat} {d u : Nat → Nat} (hia : i < a) (ha : a < p) (h5 : d i < d a) (h6 : ∀ k, a < k → k < p → d k ≤ d i) (h7 : ∀ k, i + 1 ≤ k → k + 1 < p → d (k + 1) ≤ d k)
    (hu : ∀ k, k < p → u k = if i < k ∧ (k < L ∨ p + i - L < k) then sw d i a (p + i - k) else sw d i a k) (hL : p + i - L ≤ L) (hL1 : i + 1 ≤ L) (hL2 : 2 * L ≤ p + i + 1) (hP : Pm p d u) : NextOf p d u := by
  have hs : ∀ k, i < k → sw d i a k = if k = a then d i else d k := by
    intro k hk
    simp only [sw]
    by_cases h : k = a
    · rw [if_pos h, if_pos h]
    · rw [if_neg h, if_neg h, if_neg (by omega)]
  have hsn : ∀ k, i + 1 ≤ k → k + 1 < p → sw d i a (k + 1) ≤ sw d i a k := by
    intro k h1 h2
    rw [hs k (by omega), hs (k + 1) (by omega)]
    have h8 := h7 k h1 h2
    by_cases e1 : k + 1 = a
    · rw [if_pos e1, if_neg (by omega)]
      subst e1
      omega
    · rw [if_neg e1]
      by_cases e2 : k = a
      · rw [if_pos e2]
        exact h6 (k + 1) (by omega) (by omega)
      · rw [if_neg e2]
        exact h8
  have hm : ∀ k, i < k → k < p → u k = sw d i a (p + i - k) := by
    intro k h1 h2
    rw [hu k h2]
    by_cases e1 : k < L ∨ p + i - L < k
    · rw [if_pos ⟨h1, e1⟩]
    · rw [if_neg (fun q => e1 q.2)]
      congr 1
      omega
  refine ⟨i, a, hia, ha, fun k hk => ?_, ?_, h5, h6, h7, fun x y h1 h2 h3 => ?_, hP⟩
  · rw [hu k (by omega), if_neg (by omega)]
    simp only [sw]
    rw [if_neg (by omega), if_neg (by omega)]
  · rw [hu i (by omega), if_neg (by omega)]
    simp only [sw]
    rw [if_neg (by omega)]
    exact if_pos trivial
  · rw [hm x h1 (by omega), hm y (by omega) h3]
    have := noninc (d := sw d i a) (lo := i + 1) (p := p) hsn (y - x) (p + i - y) (by omega) (by omega)
    rw [show p + i - y + (y - x) = p + i - x by omega] at this
    exact this
theorem mir_step {p i L : Nat} {s u : Nat → Nat} (hu : ∀ k, k < p → u k = if i < k ∧ (k < L ∨ p + i - L < k) then s (p + i - k) else s k) (hL1 : i + 1 ≤ L) (hL3 : L < p + i - L) : ∀ k, k < p → sw u L (p + i - L) k = if i < k ∧ (k < L + 1 ∨ p + i - (L + 1) < k) then s (p + i - k) else s k := by
  intro k hk
  simp only [sw]
  by_cases e1 : k = p + i - L
  · rw [if_pos e1, hu L (by omega), if_neg (by omega), if_pos (by omega)]
    congr 1
    omega
  · rw [if_neg e1]
    by_cases e2 : k = L
    · rw [if_pos e2, hu (p + i - L) (by omega), if_neg (by omega), if_pos (by omega)]
      congr 1
      omega
    · rw [if_neg e2, hu k hk]
      by_cases e3 : i < k ∧ (k < L ∨ p + i - L < k)
      · rw [if_pos e3, if_pos (by omega)]
      · rw [if_neg e3, if_neg (by omega)]

set_option maxRecDepth 20000 in
theorem flX1_sort_15 {s : State} {av : Array Value} (hts : ∀ w ∈ wsX1_sort, w.before av s = true) : (Cond.fieldLink RX1 15 "WellBack$Rota" "places" "I").before av s = true := hts _ (by decide +kernel)
set_option maxRecDepth 20000 in
theorem inX1_sort_X1 : ∀ w ∈ u_ws RX1 TX1 2, w ∈ wsX1_sort := by decide +kernel
set_option maxHeartbeats 4000000 in
set_option maxRecDepth 100000 in
theorem k1_sort (l : Launch) {D : va_G} {ca : Nat → ClassId} {ad : Nat → Nat} (hI : Ij ad 34) {σ : Sg} {q p : Nat} {d : Nat → Nat} (hq1 : 22 ≤ q) (hq2 : q < 25) (hR : RotaAt σ q p d) (hp0 : 0 < p) : C1v l D ca ad yX1_sort wsX1_sort { frames := 3, cells := 0, slots := 0, locals := 66 } [.ref (ad q)] σ (fun σ' => (∀ i, i ≠ q + 3 → σ' i = σ i) ∧ ∃ t, RotaAt σ' q p t ∧ Pm p d t ∧ ∀ i j, i < j → j < p → t i ≤ t j) := by
  refine xk_entry cX1_sort 3 none (by decide) rfl (Nat.le_of_ble_eq_true rfl) ?_
  intro pP eE sS mM below meth cC hx hb hml hr hts hown hlk hP hK hX hS ls hl
  have hl : lv_has ls 3 [(0, .ref (ad q))] := hl
  have hp6 := hR.2.1
  refine lv_aload_n hx hb dX1_sort_0 rfl (lv_at hl 0 rfl) ?_
  refine xk_get hx hb hts (inX1_sort_X1) hown hK hP q (by omega) (ci := 1) (e1_rota (by omega) (by omega)) rfl 1 (by decide) (flX1_sort_15 hts) rfl (.int (σ q 1)) rfl dX1_sort_1 ?_
  refine xn_eqi (y := nI p) hR.1 ?_
  refine lv_iconst (v := nI 1) hx hb dX1_sort_4 (by decide) ?_
  refine xn_isub hx hb (by omega) dX1_sort_5 ?_
  refine lv_istore_n (lv' := [(1, .int (nI (p - 1))), (0, .ref (ad q))]) hx hb dX1_sort_6 rfl hl (by decide) rfl (fun ls hl => ?_)
  have LP_7 : ∀ (n_7 : Nat) (e : Nat) (τ : Sg) (t : Nat → Nat), (e < p) → (∀ i, i ≠ q + 3 → τ i = σ i) → (RotaAt τ q p t) → (Pm p d t) → (∀ i j, i < j → e < j → j < p → t i ≤ t j) → e < n_7 → ∀ (H : Heap) (locs : List Loc) (ls : Array Slot), va_P D vwCl (wl ad 34 (en1 ad ca τ)) H → va_S (AA ad 34) sS.heap H locs → lv_has ls 3 [(0, .ref (ad q)), (1, .int (nI e))] → Wwv1 pP l eE { frames := 3, cells := 0, slots := 0, locals := 66 } sS mM [.ref (ad q)] below meth cC D ca ad (fun σ' => (∀ i, i ≠ q + 3 → σ' i = σ i) ∧ ∃ t, RotaAt σ' q p t ∧ Pm p d t ∧ ∀ i j, i < j → j < p → t i ≤ t j) H locs (F0 mM 7 ls []) := by
    intro n_7
    induction n_7 with
    | zero =>
      intro e τ t hep hfr hRt hPt hinv hn_7
      exact absurd hn_7 (Nat.not_lt_zero _)
    | succ n_7 ih_7 =>
      intro e τ t hep hfr hRt hPt hinv hn_7 H locs ls hP hS hl
      refine lv_iload_n hx hb dX1_sort_7 rfl (lv_at hl 1 rfl) ?_
      refine xn_zle (tgt := 53) hx hb dX1_sort_8 (by decide) (by omega) (fun c_8 => ?_) (fun c_8 => ?_)
      · exact xk_vret hx hb hr X1_ok hK hX hP hS hlk dX1_sort_53 (⟨hfr, t, hRt, hPt, fun i j h1 h2 => hinv i j h1 (by omega) h2⟩)
      · refine lv_iconst (v := nI 0) hx hb dX1_sort_11 (by decide) ?_
        refine lv_istore_n (lv' := [(2, .int (nI 0)), (0, .ref (ad q)), (1, .int (nI e))]) hx hb dX1_sort_12 rfl hl (by decide) rfl (fun ls hl => ?_)
        have LP_13 : ∀ (n_13 : Nat) (k : Nat) (τ2 : Sg) (u : Nat → Nat), (k ≤ e) → (∀ i, i ≠ q + 3 → τ2 i = σ i) → (RotaAt τ2 q p u) → (Pm p d u) → (∀ i j, i < j → e < j → j < p → u i ≤ u j) → (∀ i, i < k → u i ≤ u k) → (e - k) < n_13 → ∀ (H : Heap) (locs : List Loc) (ls : Array Slot), va_P D vwCl (wl ad 34 (en1 ad ca τ2)) H → va_S (AA ad 34) sS.heap H locs → lv_has ls 3 [(0, .ref (ad q)), (1, .int (nI e)), (2, .int (nI k))] → Wwv1 pP l eE { frames := 3, cells := 0, slots := 0, locals := 66 } sS mM [.ref (ad q)] below meth cC D ca ad (fun σ' => (∀ i, i ≠ q + 3 → σ' i = σ i) ∧ ∃ t, RotaAt σ' q p t ∧ Pm p d t ∧ ∀ i j, i < j → j < p → t i ≤ t j) H locs (F0 mM 13 ls []) := by
          intro n_13
          induction n_13 with
          | zero =>
            intro k τ2 u hk hf2 hRu hPu hi2 hmax hn_13
            exact absurd hn_13 (Nat.not_lt_zero _)
          | succ n_13 ih_13 =>
            intro k τ2 u hk hf2 hRu hPu hi2 hmax hn_13 H locs ls hP hS hl
            refine lv_iload_n hx hb dX1_sort_13 rfl (lv_at hl 2 rfl) ?_
            refine lv_iload_n hx hb dX1_sort_14 rfl (lv_at hl 1 rfl) ?_
            refine xn_ige (tgt := 47) hx hb dX1_sort_15 (by decide) (by omega) (by omega) (fun c_15 => ?_) (fun c_15 => ?_)
            · refine lv_iinc (v := nI (e - 1)) (lv' := [(1, .int (nI (e - 1))), (0, .ref (ad q)), (2, .int (nI k))]) hx hb dX1_sort_47 hl (k := 1) rfl (xn_dec (by omega)) (by decide) rfl (fun ls hl => ?_)
              refine lv_goto (tgt := 7) hx hb dX1_sort_50 (by decide) ?_
              exact ih_7 (e - 1) τ2 u (by omega) hf2 hRu hPu (fun i j h1 h2 h3 => by
            by_cases hje : j = e
            · subst hje
              have : k = j := by omega
              subst this
              exact hmax i h1
            · exact hi2 i j h1 (by omega) h3) (by omega) _ _ _ hP hS (lv_sub hl [1, 0] rfl)
            · refine lv_aload_n hx hb dX1_sort_18 rfl (lv_at hl 0 rfl) ?_
              refine lv_iload_n hx hb dX1_sort_19 rfl (lv_at hl 2 rfl) ?_
              refine xk_fi (va_runV (As := [.int (nI k)]) (rest := []) ⟨hx, hb, hml, hown, hts⟩ (k1_drawerIn l hI (q := q) (d := u) (h := k) (by omega) (by omega) hRu (by omega) (by omega)) (cwV 1 hts gX1_sort_X1_drawerIn rfl rfl rfl (by decide +kernel) ⟨Nat.le_of_ble_eq_true rfl, Nat.le_of_ble_eq_true rfl⟩) (xk_preV X1_ok hK hX hP (xk_recv hK hP q (by omega) (ci := 1) (e1_rota (by omega) (by omega)) rfl)) rfl rfl hl.1 rfl (lv_room (Nat.le_of_ble_eq_true rfl)) dX1_sort_20 ⟨Nat.le_of_ble_eq_true rfl, Nat.le_of_ble_eq_true rfl⟩) hS (fun H locs hP hS => ?_)
              rw [Nat.mod_eq_of_lt (by omega : k < p)]
              have hd_20 := (hRu.2.2 k (by omega)).2
              refine lv_aload_n hx hb dX1_sort_23 rfl (lv_at hl 0 rfl) ?_
              refine lv_iload_n hx hb dX1_sort_24 rfl (lv_at hl 2 rfl) ?_
              refine lv_iconst (v := nI 1) hx hb dX1_sort_25 (by decide) ?_
              refine xn_iadd hx hb dX1_sort_26 ?_
              refine xk_fi (va_runV (As := [.int (nI (k + 1))]) (rest := [.int (nI (u k))]) ⟨hx, hb, hml, hown, hts⟩ (k1_drawerIn l hI (q := q) (d := u) (h := k + 1) (by omega) (by omega) hRu (by omega) (by omega)) (cwV 1 hts gX1_sort_X1_drawerIn rfl rfl rfl (by decide +kernel) ⟨Nat.le_of_ble_eq_true rfl, Nat.le_of_ble_eq_true rfl⟩) (xk_preV X1_ok hK hX hP (xk_recv hK hP q (by omega) (ci := 1) (e1_rota (by omega) (by omega)) rfl)) rfl rfl hl.1 rfl (lv_room (Nat.le_of_ble_eq_true rfl)) dX1_sort_27 ⟨Nat.le_of_ble_eq_true rfl, Nat.le_of_ble_eq_true rfl⟩) hS (fun H locs hP hS => ?_)
              rw [Nat.mod_eq_of_lt (by omega : k + 1 < p)]
              have hd_27 := (hRu.2.2 (k + 1) (by omega)).2
              refine xn_ile (tgt := 41) hx hb dX1_sort_30 (by decide) (by omega) (by omega) (fun c_30 => ?_) (fun c_30 => ?_)
              · refine lv_iinc (v := nI (k + 1)) (lv' := [(2, .int (nI (k + 1))), (0, .ref (ad q)), (1, .int (nI e))]) hx hb dX1_sort_41 hl (k := 2) rfl (xn_inc _ 1) (by decide) rfl (fun ls hl => ?_)
                refine lv_goto (tgt := 13) hx hb dX1_sort_44 (by decide) ?_
                exact ih_13 (k + 1) τ2 u (by omega) hf2 hRu hPu hi2 (fun i hi => by
              by_cases hik : i = k
              · rw [hik]; exact c_30
              · exact Nat.le_trans (hmax i (by omega)) c_30) (by omega) _ _ _ hP hS (lv_sub hl [1, 2, 0] rfl)
              · refine lv_aload_n hx hb dX1_sort_33 rfl (lv_at hl 0 rfl) ?_
                refine lv_iload_n hx hb dX1_sort_34 rfl (lv_at hl 2 rfl) ?_
                refine lv_iload_n hx hb dX1_sort_35 rfl (lv_at hl 2 rfl) ?_
                refine lv_iconst (v := nI 1) hx hb dX1_sort_36 (by decide) ?_
                refine xn_iadd hx hb dX1_sort_37 ?_
                refine xk_cv (va_runV (As := [.int (nI k), .int (nI (k + 1))]) (rest := []) ⟨hx, hb, hml, hown, hts⟩ (k1_swap l hI (q := q) (d := u) (a := k) (b := k + 1) (by omega) (by omega) hRu (by omega) (by omega)) (cwV 2 hts gX1_sort_X1_swap rfl rfl rfl (by decide +kernel) ⟨Nat.le_of_ble_eq_true rfl, Nat.le_of_ble_eq_true rfl⟩) (xk_preV X1_ok hK hX hP (xk_recv hK hP q (by omega) (ci := 1) (e1_rota (by omega) (by omega)) rfl)) rfl rfl hl.1 rfl (lv_room (Nat.le_of_ble_eq_true rfl)) dX1_sort_38 ⟨Nat.le_of_ble_eq_true rfl, Nat.le_of_ble_eq_true rfl⟩) hS (fun τ3 H locs hp hP hS => ?_)
                obtain ⟨hf3, hR3⟩ := hp
                refine lv_iinc (v := nI (k + 1)) (lv' := [(2, .int (nI (k + 1))), (0, .ref (ad q)), (1, .int (nI e))]) hx hb dX1_sort_41 hl (k := 2) rfl (xn_inc _ 1) (by decide) rfl (fun ls hl => ?_)
                refine lv_goto (tgt := 13) hx hb dX1_sort_44 (by decide) ?_
                exact ih_13 (k + 1) τ3 (sw u k (k + 1)) (by omega) (fun i hi => by rw [hf3 i hi]; exact hf2 i hi) hR3 (hPu.tr (Pm_sw (by omega) (by omega))) (fun i j h1 h2 h3 => by
              have g1 := hi2 i j h1 h2 h3
              have g2 := hi2 k j (by omega) h2 h3
              have g3 := hi2 (k + 1) j (by omega) h2 h3
              simp only [sw]
              repeat' split
              all_goals first | omega | (exfalso; omega)) (fun i hi => by
              have g := fun h => hmax i h
              simp only [sw]
              by_cases hik : i = k
              · subst hik
                simp only [if_true]
                split <;> omega
              · have g := hmax i (by omega)
                simp only [if_true]
                repeat' split
                all_goals omega) (by omega) _ _ _ hP hS (lv_sub hl [1, 2, 0] rfl)
        exact LP_13 _ 0 τ t (by omega) hfr hRt hPt hinv (fun i hi => absurd hi (Nat.not_lt_zero _)) (Nat.lt_succ_self _) _ _ _ hP hS (lv_sub hl [1, 2, 0] rfl)
  exact LP_7 _ (p - 1) σ d (by omega) (fun _ _ => rfl) hR Pm.rf (fun i j h1 h2 h3 => absurd h3 (by omega)) (Nat.lt_succ_self _) _ _ _ hP hS (lv_sub hl [1, 0] rfl)

set_option maxRecDepth 20000 in
theorem flX1_goToNextOrder_15 {s : State} {av : Array Value} (hts : ∀ w ∈ wsX1_goToNextOrder, w.before av s = true) : (Cond.fieldLink RX1 15 "WellBack$Rota" "places" "I").before av s = true := hts _ (by decide +kernel)
set_option maxRecDepth 20000 in
theorem inX1_goToNextOrder_X1 : ∀ w ∈ u_ws RX1 TX1 2, w ∈ wsX1_goToNextOrder := by decide +kernel
set_option maxHeartbeats 4000000 in
set_option maxRecDepth 100000 in
theorem k1_next (l : Launch) {D : va_G} {ca : Nat → ClassId} {ad : Nat → Nat} (hI : Ij ad 34) {σ : Sg} {q p : Nat} {d : Nat → Nat} (hq1 : 22 ≤ q) (hq2 : q < 25) (hR : RotaAt σ q p d) (hp0 : 0 < p) : C1i l D ca ad yX1_goToNextOrder wsX1_goToNextOrder { frames := 3, cells := 0, slots := 0, locals := 66 } [.ref (ad q)] σ (fun r σ' => (∀ i, i ≠ q + 3 → σ' i = σ i) ∧ ((r = nI 0 ∧ RotaAt σ' q p d ∧ ∀ k, k + 1 < p → d (k + 1) ≤ d k) ∨ (r = nI 1 ∧ ∃ u, RotaAt σ' q p u ∧ NextOf p d u))) := by
  refine xk_entry cX1_goToNextOrder 5 (some .boolean) (by decide) rfl (Nat.le_of_ble_eq_true rfl) ?_
  intro pP eE sS mM below meth cC hx hb hml hr hts hown hlk hP hK hX hS ls hl
  have hl : lv_has ls 5 [(0, .ref (ad q))] := hl
  have hp6 := hR.2.1
  refine lv_aload_n hx hb dX1_goToNextOrder_0 rfl (lv_at hl 0 rfl) ?_
  refine xk_get hx hb hts (inX1_goToNextOrder_X1) hown hK hP q (by omega) (ci := 1) (e1_rota (by omega) (by omega)) rfl 1 (by decide) (flX1_goToNextOrder_15 hts) rfl (.int (σ q 1)) rfl dX1_goToNextOrder_1 ?_
  refine xn_eqi (y := nI p) hR.1 ?_
  refine lv_iconst (v := nI 2) hx hb dX1_goToNextOrder_4 (by decide) ?_
  refine lv_isub hx hb dX1_goToNextOrder_5 ?_
  refine xn_eqi (y := nI (p - 1) - nI 1) (xn_m2 hp0) ?_
  refine lv_istore_n (lv' := [(1, .int (nI (p - 1) - nI 1)), (0, .ref (ad q))]) hx hb dX1_goToNextOrder_6 rfl hl (by decide) rfl (fun ls hl => ?_)
  have LP_7 : ∀ (n_7 : Nat) (ρ : Nat), (ρ + 1 ≤ p) → (∀ k, ρ ≤ k → k + 1 < p → d (k + 1) ≤ d k) → ρ < n_7 → ∀ (H : Heap) (locs : List Loc) (ls : Array Slot), va_P D vwCl (wl ad 34 (en1 ad ca σ)) H → va_S (AA ad 34) sS.heap H locs → lv_has ls 5 [(0, .ref (ad q)), (1, .int (nI ρ - nI 1))] → Wwi1 pP l eE { frames := 3, cells := 0, slots := 0, locals := 66 } sS mM [.ref (ad q)] below meth cC D ca ad (fun r σ' => (∀ i, i ≠ q + 3 → σ' i = σ i) ∧ ((r = nI 0 ∧ RotaAt σ' q p d ∧ ∀ k, k + 1 < p → d (k + 1) ≤ d k) ∨ (r = nI 1 ∧ ∃ u, RotaAt σ' q p u ∧ NextOf p d u))) H locs (F0 mM 7 ls []) := by
    intro n_7
    induction n_7 with
    | zero =>
      intro ρ hρ hni hn_7
      exact absurd hn_7 (Nat.not_lt_zero _)
    | succ n_7 ih_7 =>
      intro ρ hρ hni hn_7 H locs ls hP hS hl
      rcases Nat.eq_zero_or_pos ρ with h0 | h0
      · subst h0
        have hl : lv_has ls 5 [(0, .ref (ad q)), (1, .int (-1))] := hl
        refine lv_iload_n hx hb dX1_goToNextOrder_7 rfl (lv_at hl 1 rfl) ?_
        refine lv_if_lt (tgt := 35) hx hb dX1_goToNextOrder_8 (by decide) (fun c_8 => ?_) (fun c_8 => absurd c_8 (by decide))
        refine lv_iload_n hx hb dX1_goToNextOrder_35 rfl (lv_at hl 1 rfl) ?_
        refine lv_if_ge (tgt := 41) hx hb dX1_goToNextOrder_36 (by decide) (fun c_36 => absurd c_36 (by decide)) (fun c_36 => ?_)
        refine lv_iconst (v := nI 0) hx hb dX1_goToNextOrder_39 (by decide) ?_
        exact xk_iret hx hb hr rfl X1_ok hK hX hP hS hlk dX1_goToNextOrder_40 (⟨fun _ _ => rfl, Or.inl ⟨rfl, hR, fun k h => hni k (Nat.zero_le _) h⟩⟩)
      · obtain ⟨i, rfl⟩ : ∃ i, ρ = i + 1 := ⟨ρ - 1, by omega⟩
        rw [pk_sub (by omega), Nat.add_sub_cancel] at hl
        refine lv_iload_n hx hb dX1_goToNextOrder_7 rfl (lv_at hl 1 rfl) ?_
        refine xn_zlt (tgt := 35) hx hb dX1_goToNextOrder_8 (by decide) (by omega) (fun c_8 => absurd c_8 (by omega)) (fun c_8 => ?_)
        refine lv_aload_n hx hb dX1_goToNextOrder_11 rfl (lv_at hl 0 rfl) ?_
        refine lv_iload_n hx hb dX1_goToNextOrder_12 rfl (lv_at hl 1 rfl) ?_
        refine xk_fi (va_runV (As := [.int (nI i)]) (rest := []) ⟨hx, hb, hml, hown, hts⟩ (k1_drawerIn l hI (q := q) (d := d) (h := i) (by omega) (by omega) hR (by omega) (by omega)) (cwV 1 hts gX1_goToNextOrder_X1_drawerIn rfl rfl rfl (by decide +kernel) ⟨Nat.le_of_ble_eq_true rfl, Nat.le_of_ble_eq_true rfl⟩) (xk_preV X1_ok hK hX hP (xk_recv hK hP q (by omega) (ci := 1) (e1_rota (by omega) (by omega)) rfl)) rfl rfl hl.1 rfl (lv_room (Nat.le_of_ble_eq_true rfl)) dX1_goToNextOrder_13 ⟨Nat.le_of_ble_eq_true rfl, Nat.le_of_ble_eq_true rfl⟩) hS (fun H locs hP hS => ?_)
        rw [Nat.mod_eq_of_lt (by omega : i < p)]
        have hd_13 := (hR.2.2 i (by omega)).2
        refine lv_aload_n hx hb dX1_goToNextOrder_16 rfl (lv_at hl 0 rfl) ?_
        refine lv_iload_n hx hb dX1_goToNextOrder_17 rfl (lv_at hl 1 rfl) ?_
        refine lv_iconst (v := nI 1) hx hb dX1_goToNextOrder_18 (by decide) ?_
        refine xn_iadd hx hb dX1_goToNextOrder_19 ?_
        refine xk_fi (va_runV (As := [.int (nI (i + 1))]) (rest := [.int (nI (d i))]) ⟨hx, hb, hml, hown, hts⟩ (k1_drawerIn l hI (q := q) (d := d) (h := i + 1) (by omega) (by omega) hR (by omega) (by omega)) (cwV 1 hts gX1_goToNextOrder_X1_drawerIn rfl rfl rfl (by decide +kernel) ⟨Nat.le_of_ble_eq_true rfl, Nat.le_of_ble_eq_true rfl⟩) (xk_preV X1_ok hK hX hP (xk_recv hK hP q (by omega) (ci := 1) (e1_rota (by omega) (by omega)) rfl)) rfl rfl hl.1 rfl (lv_room (Nat.le_of_ble_eq_true rfl)) dX1_goToNextOrder_20 ⟨Nat.le_of_ble_eq_true rfl, Nat.le_of_ble_eq_true rfl⟩) hS (fun H locs hP hS => ?_)
        rw [Nat.mod_eq_of_lt (by omega : i + 1 < p)]
        have hd_20 := (hR.2.2 (i + 1) (by omega)).2
        refine xn_ige (tgt := 29) hx hb dX1_goToNextOrder_23 (by decide) (by omega) (by omega) (fun c_23 => ?_) (fun c_23 => ?_)
        · refine lv_iinc (v := nI i - nI 1) (lv' := [(1, .int (nI i - nI 1)), (0, .ref (ad q))]) hx hb dX1_goToNextOrder_29 hl (k := 1) rfl (xn_decr _) (by decide) rfl (fun ls hl => ?_)
          refine lv_goto (tgt := 7) hx hb dX1_goToNextOrder_32 (by decide) ?_
          exact ih_7 i (by omega) (fun k h1 h2 => by
            by_cases hki : k = i
            · rw [hki]; exact c_23
            · exact hni k (by omega) h2) (by omega) _ _ _ hP hS (lv_sub hl [1, 0] rfl)
        · refine lv_goto (tgt := 35) hx hb dX1_goToNextOrder_26 (by decide) ?_
          refine lv_iload_n hx hb dX1_goToNextOrder_35 rfl (lv_at hl 1 rfl) ?_
          refine xn_zge (tgt := 41) hx hb dX1_goToNextOrder_36 (by decide) (by omega) (fun c_36 => ?_) (fun c_36 => absurd c_36 (by omega))
          have CT_77 : ∀ (a : Nat), (i < a) → (a < p) → (d i < d a) → (∀ k, a < k → k < p → d k ≤ d i) → ∀ (H : Heap) (locs : List Loc) (ls : Array Slot), va_P D vwCl (wl ad 34 (en1 ad ca σ)) H → va_S (AA ad 34) sS.heap H locs → lv_has ls 5 [(0, .ref (ad q)), (1, .int (nI i)), (2, .int (nI a))] → Wwi1 pP l eE { frames := 3, cells := 0, slots := 0, locals := 66 } sS mM [.ref (ad q)] below meth cC D ca ad (fun r σ' => (∀ i, i ≠ q + 3 → σ' i = σ i) ∧ ((r = nI 0 ∧ RotaAt σ' q p d ∧ ∀ k, k + 1 < p → d (k + 1) ≤ d k) ∨ (r = nI 1 ∧ ∃ u, RotaAt σ' q p u ∧ NextOf p d u))) H locs (F0 mM 77 ls []) := by
            intro a hia ha h5 h6 H locs ls hP hS hl
            refine lv_aload_n hx hb dX1_goToNextOrder_77 rfl (lv_at hl 0 rfl) ?_
            refine lv_iload_n hx hb dX1_goToNextOrder_78 rfl (lv_at hl 1 rfl) ?_
            refine lv_iload_n hx hb dX1_goToNextOrder_79 rfl (lv_at hl 2 rfl) ?_
            have hPt : Pm p d d := Pm.rf
            refine xk_cv (va_runV (As := [.int (nI i), .int (nI a)]) (rest := []) ⟨hx, hb, hml, hown, hts⟩ (k1_swap l hI (q := q) (d := d) (a := i) (b := a) (by omega) (by omega) hR (by omega) (by omega)) (cwV 2 hts gX1_goToNextOrder_X1_swap rfl rfl rfl (by decide +kernel) ⟨Nat.le_of_ble_eq_true rfl, Nat.le_of_ble_eq_true rfl⟩) (xk_preV X1_ok hK hX hP (xk_recv hK hP q (by omega) (ci := 1) (e1_rota (by omega) (by omega)) rfl)) rfl rfl hl.1 rfl (lv_room (Nat.le_of_ble_eq_true rfl)) dX1_goToNextOrder_80 ⟨Nat.le_of_ble_eq_true rfl, Nat.le_of_ble_eq_true rfl⟩) hS (fun τ H locs hp hP hS => ?_)
            obtain ⟨hf_τ, hR_τ⟩ := hp
            have hP_τ := hPt.tr (Pm_sw (d := d) (a := i) (b := a) (p := p) (by omega) (by omega))
            refine lv_aload_n hx hb dX1_goToNextOrder_83 rfl (lv_at hl 0 rfl) ?_
            refine xk_get hx hb hts (inX1_goToNextOrder_X1) hown hK hP q (by omega) (ci := 1) (e1_rota (by omega) (by omega)) rfl 1 (by decide) (flX1_goToNextOrder_15 hts) rfl (.int (τ q 1)) rfl dX1_goToNextOrder_84 ?_
            refine xn_eqi (y := nI p) hR_τ.1 ?_
            refine lv_iconst (v := nI 1) hx hb dX1_goToNextOrder_87 (by decide) ?_
            refine xn_isub hx hb (by omega) dX1_goToNextOrder_88 ?_
            refine lv_istore_n (lv' := [(3, .int (nI (p - 1))), (0, .ref (ad q)), (1, .int (nI i)), (2, .int (nI a))]) hx hb dX1_goToNextOrder_89 rfl hl (by decide) rfl (fun ls hl => ?_)
            refine lv_iload_n hx hb dX1_goToNextOrder_90 rfl (lv_at hl 2 rfl) ?_
            refine lv_iconst (v := nI 1) hx hb dX1_goToNextOrder_91 (by decide) ?_
            refine xn_iadd hx hb dX1_goToNextOrder_92 ?_
            refine lv_istore (lv' := [(4, .int (nI (i + 1))), (3, .int (nI (p - 1))), (0, .ref (ad q)), (1, .int (nI i)), (2, .int (nI a))]) hx hb dX1_goToNextOrder_93 hl (by decide) rfl (fun ls hl => ?_)
            rw [show p - 1 = p + i - (i + 1) by omega] at hl
            have LP_95 : ∀ (n_95 : Nat) (L : Nat) (τ2 : Sg) (u : Nat → Nat), (i + 1 ≤ L) → (2 * L ≤ p + i + 1) → (∀ i, i ≠ q + 3 → τ2 i = σ i) → (RotaAt τ2 q p u) → (Pm p d u) → (∀ k, k < p → u k = if i < k ∧ (k < L ∨ p + i - L < k) then sw d i a (p + i - k) else sw d i a k) → (p - L) < n_95 → ∀ (H : Heap) (locs : List Loc) (ls : Array Slot), va_P D vwCl (wl ad 34 (en1 ad ca τ2)) H → va_S (AA ad 34) sS.heap H locs → lv_has ls 5 [(0, .ref (ad q)), (4, .int (nI L)), (3, .int (nI (p + i - L)))] → Wwi1 pP l eE { frames := 3, cells := 0, slots := 0, locals := 66 } sS mM [.ref (ad q)] below meth cC D ca ad (fun r σ' => (∀ i, i ≠ q + 3 → σ' i = σ i) ∧ ((r = nI 0 ∧ RotaAt σ' q p d ∧ ∀ k, k + 1 < p → d (k + 1) ≤ d k) ∨ (r = nI 1 ∧ ∃ u, RotaAt σ' q p u ∧ NextOf p d u))) H locs (F0 mM 95 ls []) := by
              intro n_95
              induction n_95 with
              | zero =>
                intro L τ2 u hL1 hL2 hf2 hRu hPu hu hn_95
                exact absurd hn_95 (Nat.not_lt_zero _)
              | succ n_95 ih_95 =>
                intro L τ2 u hL1 hL2 hf2 hRu hPu hu hn_95 H locs ls hP hS hl
                refine lv_iload hx hb dX1_goToNextOrder_95 (lv_at hl 1 rfl) ?_
                refine lv_iload_n hx hb dX1_goToNextOrder_97 rfl (lv_at hl 2 rfl) ?_
                refine xn_ige (tgt := 117) hx hb dX1_goToNextOrder_98 (by decide) (by omega) (by omega) (fun c_98 => ?_) (fun c_98 => ?_)
                · refine lv_iconst (v := nI 1) hx hb dX1_goToNextOrder_117 (by decide) ?_
                  exact xk_iret hx hb hr rfl X1_ok hK hX hP hS hlk dX1_goToNextOrder_118 (⟨hf2, Or.inr ⟨rfl, u, hRu, next_of hia ha h5 h6 hni hu (by omega) hL1 hL2 hPu⟩⟩)
                · refine lv_aload_n hx hb dX1_goToNextOrder_101 rfl (lv_at hl 0 rfl) ?_
                  refine lv_iload hx hb dX1_goToNextOrder_102 (lv_at hl 1 rfl) ?_
                  refine lv_iload_n hx hb dX1_goToNextOrder_104 rfl (lv_at hl 2 rfl) ?_
                  refine xk_cv (va_runV (As := [.int (nI L), .int (nI (p + i - L))]) (rest := []) ⟨hx, hb, hml, hown, hts⟩ (k1_swap l hI (q := q) (d := u) (a := L) (b := p + i - L) (by omega) (by omega) hRu (by omega) (by omega)) (cwV 2 hts gX1_goToNextOrder_X1_swap rfl rfl rfl (by decide +kernel) ⟨Nat.le_of_ble_eq_true rfl, Nat.le_of_ble_eq_true rfl⟩) (xk_preV X1_ok hK hX hP (xk_recv hK hP q (by omega) (ci := 1) (e1_rota (by omega) (by omega)) rfl)) rfl rfl hl.1 rfl (lv_room (Nat.le_of_ble_eq_true rfl)) dX1_goToNextOrder_105 ⟨Nat.le_of_ble_eq_true rfl, Nat.le_of_ble_eq_true rfl⟩) hS (fun τ3 H locs hp hP hS => ?_)
                  obtain ⟨hf3, hR3⟩ := hp
                  refine lv_iinc (v := nI ((p + i - L) - 1)) (lv' := [(3, .int (nI ((p + i - L) - 1))), (0, .ref (ad q)), (4, .int (nI L))]) hx hb dX1_goToNextOrder_108 hl (k := 2) rfl (xn_dec (by omega)) (by decide) rfl (fun ls hl => ?_)
                  refine lv_iinc (v := nI (L + 1)) (lv' := [(4, .int (nI (L + 1))), (3, .int (nI ((p + i - L) - 1))), (0, .ref (ad q))]) hx hb dX1_goToNextOrder_111 hl (k := 2) rfl (xn_inc _ 1) (by decide) rfl (fun ls hl => ?_)
                  refine lv_goto (tgt := 95) hx hb dX1_goToNextOrder_114 (by decide) ?_
                  exact ih_95 (L + 1) τ3 (sw u L (p + i - L)) (by omega) (by omega) (fun i hi => by rw [hf3 i hi]; exact hf2 i hi) hR3 (hPu.tr (Pm_sw (by omega) (by omega))) (mir_step hu hL1 (by omega)) (by omega) _ _ _ hP hS (lv_sub hl [2, 0, 1] rfl)
            exact LP_95 _ (i + 1) τ (sw d i a) (by omega) (by omega) hf_τ hR_τ hP_τ (fun k hk => (if_neg (by omega)).symm) (Nat.lt_succ_self _) _ _ _ hP hS (lv_sub hl [2, 0, 1] rfl)
          refine lv_aload_n hx hb dX1_goToNextOrder_41 rfl (lv_at hl 0 rfl) ?_
          refine xk_get hx hb hts (inX1_goToNextOrder_X1) hown hK hP q (by omega) (ci := 1) (e1_rota (by omega) (by omega)) rfl 1 (by decide) (flX1_goToNextOrder_15 hts) rfl (.int (σ q 1)) rfl dX1_goToNextOrder_42 ?_
          refine xn_eqi (y := nI p) hR.1 ?_
          refine lv_iconst (v := nI 1) hx hb dX1_goToNextOrder_45 (by decide) ?_
          refine xn_isub hx hb (by omega) dX1_goToNextOrder_46 ?_
          refine lv_istore_n (lv' := [(2, .int (nI (p - 1))), (0, .ref (ad q)), (1, .int (nI i))]) hx hb dX1_goToNextOrder_47 rfl hl (by decide) rfl (fun ls hl => ?_)
          have LP_48 : ∀ (n_48 : Nat) (a : Nat), (i + 1 ≤ a) → (a < p) → (∀ k, a < k → k < p → d k ≤ d i) → a < n_48 → ∀ (H : Heap) (locs : List Loc) (ls : Array Slot), va_P D vwCl (wl ad 34 (en1 ad ca σ)) H → va_S (AA ad 34) sS.heap H locs → lv_has ls 5 [(0, .ref (ad q)), (1, .int (nI i)), (2, .int (nI a))] → Wwi1 pP l eE { frames := 3, cells := 0, slots := 0, locals := 66 } sS mM [.ref (ad q)] below meth cC D ca ad (fun r σ' => (∀ i, i ≠ q + 3 → σ' i = σ i) ∧ ((r = nI 0 ∧ RotaAt σ' q p d ∧ ∀ k, k + 1 < p → d (k + 1) ≤ d k) ∨ (r = nI 1 ∧ ∃ u, RotaAt σ' q p u ∧ NextOf p d u))) H locs (F0 mM 48 ls []) := by
            intro n_48
            induction n_48 with
            | zero =>
              intro a ha1 ha2 ha3 hn_48
              exact absurd hn_48 (Nat.not_lt_zero _)
            | succ n_48 ih_48 =>
              intro a ha1 ha2 ha3 hn_48 H locs ls hP hS hl
              refine lv_iload_n hx hb dX1_goToNextOrder_48 rfl (lv_at hl 2 rfl) ?_
              refine lv_iload_n hx hb dX1_goToNextOrder_49 rfl (lv_at hl 1 rfl) ?_
              refine lv_iconst (v := nI 1) hx hb dX1_goToNextOrder_50 (by decide) ?_
              refine xn_iadd hx hb dX1_goToNextOrder_51 ?_
              refine xn_ile (tgt := 77) hx hb dX1_goToNextOrder_52 (by decide) (by omega) (by omega) (fun c_52 => ?_) (fun c_52 => ?_)
              · exact CT_77 a (by omega) (by omega) (by rw [show a = i + 1 by omega]; exact c_23) ha3 _ _ _ hP hS (lv_sub hl [0, 1, 2] rfl)
              · refine lv_aload_n hx hb dX1_goToNextOrder_55 rfl (lv_at hl 0 rfl) ?_
                refine lv_iload_n hx hb dX1_goToNextOrder_56 rfl (lv_at hl 2 rfl) ?_
                refine xk_fi (va_runV (As := [.int (nI a)]) (rest := []) ⟨hx, hb, hml, hown, hts⟩ (k1_drawerIn l hI (q := q) (d := d) (h := a) (by omega) (by omega) hR (by omega) (by omega)) (cwV 1 hts gX1_goToNextOrder_X1_drawerIn rfl rfl rfl (by decide +kernel) ⟨Nat.le_of_ble_eq_true rfl, Nat.le_of_ble_eq_true rfl⟩) (xk_preV X1_ok hK hX hP (xk_recv hK hP q (by omega) (ci := 1) (e1_rota (by omega) (by omega)) rfl)) rfl rfl hl.1 rfl (lv_room (Nat.le_of_ble_eq_true rfl)) dX1_goToNextOrder_57 ⟨Nat.le_of_ble_eq_true rfl, Nat.le_of_ble_eq_true rfl⟩) hS (fun H locs hP hS => ?_)
                rw [Nat.mod_eq_of_lt (by omega : a < p)]
                have hd_57 := (hR.2.2 a (by omega)).2
                refine lv_aload_n hx hb dX1_goToNextOrder_60 rfl (lv_at hl 0 rfl) ?_
                refine lv_iload_n hx hb dX1_goToNextOrder_61 rfl (lv_at hl 1 rfl) ?_
                refine xk_fi (va_runV (As := [.int (nI i)]) (rest := [.int (nI (d a))]) ⟨hx, hb, hml, hown, hts⟩ (k1_drawerIn l hI (q := q) (d := d) (h := i) (by omega) (by omega) hR (by omega) (by omega)) (cwV 1 hts gX1_goToNextOrder_X1_drawerIn rfl rfl rfl (by decide +kernel) ⟨Nat.le_of_ble_eq_true rfl, Nat.le_of_ble_eq_true rfl⟩) (xk_preV X1_ok hK hX hP (xk_recv hK hP q (by omega) (ci := 1) (e1_rota (by omega) (by omega)) rfl)) rfl rfl hl.1 rfl (lv_room (Nat.le_of_ble_eq_true rfl)) dX1_goToNextOrder_62 ⟨Nat.le_of_ble_eq_true rfl, Nat.le_of_ble_eq_true rfl⟩) hS (fun H locs hP hS => ?_)
                rw [Nat.mod_eq_of_lt (by omega : i < p)]
                have hd_62 := (hR.2.2 i (by omega)).2
                refine xn_ile (tgt := 71) hx hb dX1_goToNextOrder_65 (by decide) (by omega) (by omega) (fun c_65 => ?_) (fun c_65 => ?_)
                · refine lv_iinc (v := nI (a - 1)) (lv' := [(2, .int (nI (a - 1))), (0, .ref (ad q)), (1, .int (nI i))]) hx hb dX1_goToNextOrder_71 hl (k := 2) rfl (xn_dec (by omega)) (by decide) rfl (fun ls hl => ?_)
                  refine lv_goto (tgt := 48) hx hb dX1_goToNextOrder_74 (by decide) ?_
                  exact ih_48 (a - 1) (by omega) (by omega) (fun k h1 h2 => by
            by_cases hka : k = a
            · rw [hka]; exact c_65
            · exact ha3 k (by omega) h2) (by omega) _ _ _ hP hS (lv_sub hl [1, 2, 0] rfl)
                · refine lv_goto (tgt := 77) hx hb dX1_goToNextOrder_68 (by decide) ?_
                  exact CT_77 a (by omega) (by omega) c_65 ha3 _ _ _ hP hS (lv_sub hl [0, 1, 2] rfl)
          exact LP_48 _ (p - 1) (by omega) (by omega) (fun k h1 h2 => absurd h2 (by omega)) (Nat.lt_succ_self _) _ _ _ hP hS (lv_sub hl [1, 2, 0] rfl)
  exact LP_7 _ (p - 1) (by omega) (fun k h1 h2 => absurd h2 (by omega)) (Nat.lt_succ_self _) _ _ _ hP hS (lv_sub hl [1, 0] rfl)
