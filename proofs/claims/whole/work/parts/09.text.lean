/-! texts -/
abbrev cd (t : Nat → Int32) (n k : Nat) : Int32 := if k < n then t k else -1
abbrev dg (x : Int32) (m : Nat) : Prop := nI 48 ≤ x ∧ x ≤ nI (48 + m)
def dv (x : Int32) : Nat := x.toInt.toNat - 48
theorem dg_dv {x : Int32} {m : Nat} (h : dg x m) (hm : m ≤ 9 := by decide) : x = nI (48 + dv x) ∧ dv x ≤ m := by
  obtain ⟨w, h1, h2, rfl⟩ := xn_rng (a := 48) (b := 48 + m) (by omega) h
  have : dv (nI w) = w - 48 := by
    unfold dv
    rw [nI_toInt (by omega)]
    omega
  rw [this]
  exact ⟨by rw [show 48 + (w - 48) = w by omega], by omega⟩
def kd (x : Int32) : Nat := if x = nI 108 then 1 else if x = nI 114 then 2 else if x = nI 116 then 0 else 3
def kz (k : Nat) : Int32 := if k = 3 then -9 else nI k
theorem kd_le (x : Int32) : kd x ≤ 3 := by
  unfold kd
  split
  · omega
  · split
    · omega
    · split <;> omega
def pls (c : Nat → Int32) : Nat → Nat → Nat
  | 0, k => k
  | f + 1, k => if dg (c (2 + k)) 4 then pls c f (k + 1) else k
theorem pls_le (c : Nat → Int32) : ∀ f k, k ≤ pls c f k ∧ pls c f k ≤ k + f ∧ ∀ j, k ≤ j → j < pls c f k → dg (c (2 + j)) 4 := by
  intro f
  induction f with
  | zero => intro k; exact ⟨Nat.le_refl _, Nat.le_refl _, fun j h1 h2 => absurd h2 (by simp only [pls]; omega)⟩
  | succ f ih =>
    intro k
    obtain ⟨a, b, g⟩ := ih (k + 1)
    by_cases h : dg (c (2 + k)) 4
    · simp only [pls, if_pos h]
      refine ⟨by omega, by omega, fun j h1 h2 => ?_⟩
      by_cases hj : j = k
      · rw [hj]; exact h
      · exact g j (by omega) h2
    · simp only [pls, if_neg h]
      exact ⟨by omega, by omega, fun j h1 h2 => absurd h2 (by omega)⟩
abbrev gq (x : Int32) (k : Nat) : Prop := if k = 0 then x = nI 59 else if k = 1 then ¬ kd x = 3 else if k = 3 ∨ k = 4 then dg x 4 else dg x 9
def f6 (c : Nat → Int32) (s : Nat) : Nat → Nat → Nat
  | 0, k => k
  | f + 1, k => if gq (c (s + k)) k then f6 c s f (k + 1) else k
theorem f6_all (c : Nat → Int32) (s : Nat) : ∀ f k, k ≤ f6 c s f k ∧ f6 c s f k ≤ k + f ∧ ∀ j, k ≤ j → j < f6 c s f k → gq (c (s + j)) j := by
  intro f
  induction f with
  | zero => intro k; exact ⟨Nat.le_refl _, Nat.le_refl _, fun j h1 h2 => absurd h2 (by simp only [f6]; omega)⟩
  | succ f ih =>
    intro k
    obtain ⟨a, b, g⟩ := ih (k + 1)
    by_cases h : gq (c (s + k)) k
    · simp only [f6, if_pos h]
      refine ⟨by omega, by omega, fun j h1 h2 => ?_⟩
      by_cases hj : j = k
      · rw [hj]; exact h
      · exact g j (by omega) h2
    · simp only [f6, if_neg h]
      exact ⟨by omega, by omega, fun j h1 h2 => absurd h2 (by omega)⟩
/-- things told from s on, x of them read: a fault's place, or how many -/
def tf (c : Nat → Int32) (n : Nat) : Nat → Nat → Nat → Nat ⊕ Nat
  | 0, x, s => if s = n then .inr x else .inl s
  | f + 1, x, s => if x ≠ 0 ∧ s = n then .inr x else if f6 c s 6 0 = 6 then tf c n f (x + 1) (s + 6) else .inl (s + f6 c s 6 0)
theorem tf_ok (c : Nat → Int32) (n : Nat) : ∀ f x s m, tf c n f x s = .inr m → x ≤ m ∧ m ≤ x + f ∧ n + 6 * x = s + 6 * m ∧ (∀ y, x ≤ y → y < m → f6 c (s + 6 * (y - x)) 6 0 = 6) ∧ (x = 0 → 0 < f → 0 < m) := by
  intro f
  induction f with
  | zero =>
    intro x s m h
    simp only [tf] at h
    by_cases hs : s = n
    · rw [if_pos hs] at h
      cases h
      exact ⟨Nat.le_refl _, Nat.le_refl _, by omega, fun y h1 h2 => absurd h2 (by omega), fun _ h => absurd h (by omega)⟩
    · rw [if_neg hs] at h
      cases h
  | succ f ih =>
    intro x s m h
    simp only [tf] at h
    by_cases hs : x ≠ 0 ∧ s = n
    · rw [if_pos hs] at h
      cases h
      exact ⟨Nat.le_refl _, by omega, by omega, fun y h1 h2 => absurd h2 (by omega), fun h => absurd h hs.1⟩
    · rw [if_neg hs] at h
      by_cases h6 : f6 c s 6 0 = 6
      · rw [if_pos h6] at h
        obtain ⟨a1, a2, a3, a4, -⟩ := ih _ _ _ h
        refine ⟨by omega, by omega, by omega, fun y h1 h2 => ?_, fun _ _ => by omega⟩
        by_cases hy : y = x
        · subst hy
          rw [Nat.sub_self]
          exact h6
        · have := a4 y (by omega) h2
          rw [show s + 6 + 6 * (y - (x + 1)) = s + 6 * (y - x) by omega] at this
          exact this
      · rw [if_neg h6] at h
        cases h
def parse (c : Nat → Int32) (n : Nat) : Nat ⊕ Nat := if c 0 = nI 103 then (if dg (c 1) 9 then (if pls c 6 0 = 0 then .inl 2 else tf c n 5 0 (2 + pls c 6 0)) else .inl 1) else .inl 0
def pz : Nat ⊕ Nat → Int32
  | .inl f => nI f
  | .inr _ => -1
def TextAt (σ : Sg) (t : Nat → Int32) (n : Nat) : Prop := σ 28 1 = nI n ∧ n ≤ 60 ∧ ∀ k, k < n → σ 29 k = t k
theorem TextAt_fr {σ τ : Sg} {t : Nat → Int32} {n : Nat} (h : TextAt σ t n) (h1 : τ 28 = σ 28) (h2 : τ 29 = σ 29) : TextAt τ t n := by
  unfold TextAt
  rw [h1, h2]
  exact h

set_option maxRecDepth 20000 in
theorem flX3_take_9 {s : State} {av : Array Value} (hts : ∀ w ∈ wsX3_take, w.before av s = true) : (Cond.fieldLink RX3 9 "WellBack$Text" "codes" "[I").before av s = true := hts _ (by decide +kernel)
set_option maxRecDepth 20000 in
theorem flX3_take_15 {s : State} {av : Array Value} (hts : ∀ w ∈ wsX3_take, w.before av s = true) : (Cond.fieldLink RX3 15 "WellBack$Text" "length" "I").before av s = true := hts _ (by decide +kernel)
set_option maxRecDepth 20000 in
theorem inX3_take_X3 : ∀ w ∈ u_ws RX3 TX3 2, w ∈ wsX3_take := by decide +kernel
set_option maxHeartbeats 4000000 in
set_option maxRecDepth 100000 in
theorem k1_take (l : Launch) {D : va_G} {ca : Nat → ClassId} {ad : Nat → Nat} (hI : Ij ad 34) {σ : Sg} {k L n a b : Nat} {cc : Nat → Int32} (hk1 : 1 ≤ k) (hk2 : k < 5) (hZ : SheetAt σ k L n cc) (hL : L < 3) (hab : a + b ≤ n) : C1v l D ca ad yX3_take wsX3_take { frames := 2, cells := 0, slots := 0, locals := 42 } [.ref (ad 28), .ref (ad k), .int (nI a), .int (nI b)] σ (fun σ' => (∀ i, i ≠ 28 → i ≠ 29 → σ' i = σ i) ∧ TextAt σ' (fun j => cc (a + j)) b) := by
  refine xk_entry cX3_take 5 none (by decide) rfl (Nat.le_of_ble_eq_true rfl) ?_
  intro pP eE sS mM below meth cC hx hb hml hr hts hown hlk hP hK hX hS ls hl
  have hl : lv_has ls 5 [(0, .ref (ad 28)), (1, .ref (ad k)), (2, .int (nI a)), (3, .int (nI b))] := hl
  have hn60 := (hZ.2.2 hL).2.1
  refine lv_aload_n hx hb dX3_take_0 rfl (lv_at hl 0 rfl) ?_
  refine lv_iload_n hx hb dX3_take_1 rfl (lv_at hl 3 rfl) ?_
  refine xk_put hx hb hts (inX3_take_X3) tyX3 tyX3_ok nmX3 hown hK hI hP hS 28 (by omega) (ci := 3) e1_text rfl 1 (by decide) (flX3_take_15 hts) rfl rfl (by decide +kernel) (Nat.le_of_ble_eq_true rfl) e1_loc (by rw [e1_text]; simp [up]) dX3_take_2 (fun H locs hP hS => ?_)
  refine lv_iconst (v := nI 0) hx hb dX3_take_5 (by decide) ?_
  refine lv_istore (lv' := [(4, .int (nI 0)), (0, .ref (ad 28)), (1, .ref (ad k)), (2, .int (nI a)), (3, .int (nI b))]) hx hb dX3_take_6 hl (by decide) rfl (fun ls hl => ?_)
  have LP_8 : ∀ (n_8 : Nat) (j : Nat) (τ : Sg), (j ≤ b) → (∀ i, i ≠ 28 → i ≠ 29 → τ i = σ i) → (τ 28 1 = nI b) → (∀ i, i < j → τ 29 i = cc (a + i)) → (b - j) < n_8 → ∀ (H : Heap) (locs : List Loc) (ls : Array Slot), va_P D vwCl (wl ad 34 (en1 ad ca τ)) H → va_S (AA ad 34) sS.heap H locs → lv_has ls 5 [(0, .ref (ad 28)), (1, .ref (ad k)), (2, .int (nI a)), (3, .int (nI b)), (4, .int (nI j))] → Wwv1 pP l eE { frames := 2, cells := 0, slots := 0, locals := 42 } sS mM [.ref (ad 28), .ref (ad k), .int (nI a), .int (nI b)] below meth cC D ca ad (fun σ' => (∀ i, i ≠ 28 → i ≠ 29 → σ' i = σ i) ∧ TextAt σ' (fun j => cc (a + j)) b) H locs (F0 mM 8 ls []) := by
    intro n_8
    induction n_8 with
    | zero =>
      intro j τ hj hfr h1 h2 hn_8
      exact absurd hn_8 (Nat.not_lt_zero _)
    | succ n_8 ih_8 =>
      intro j τ hj hfr h1 h2 hn_8 H locs ls hP hS hl
      refine lv_iload hx hb dX3_take_8 (lv_at hl 4 rfl) ?_
      refine lv_iload_n hx hb dX3_take_10 rfl (lv_at hl 3 rfl) ?_
      refine xn_ige (tgt := 45) hx hb dX3_take_11 (by decide) (by omega) (by omega) (fun c_11 => ?_) (fun c_11 => ?_)
      · exact xk_vret hx hb hr X1_ok hK hX hP hS hlk dX3_take_45 (⟨hfr, h1, by omega, fun i hi => h2 i (by omega)⟩)
      · refine lv_iload hx hb dX3_take_14 (lv_at hl 4 rfl) ?_
        refine lv_aload_n hx hb dX3_take_16 rfl (lv_at hl 0 rfl) ?_
        refine xk_get hx hb hts (inX3_take_X3) hown hK hP 28 (by omega) (ci := 3) e1_text rfl 0 (by decide) (flX3_take_9 hts) rfl (.ref (ad 29)) rfl dX3_take_17 ?_
        refine xk_alen hx hb hK hP 29 (by omega) e1_codes 0 rfl 60 rfl dX3_take_20 ?_
        refine xn_ige (tgt := 45) hx hb dX3_take_21 (by decide) (by omega) (by omega) (fun c_21 => absurd c_21 (by omega)) (fun c_21 => ?_)
        refine lv_aload_n hx hb dX3_take_24 rfl (lv_at hl 0 rfl) ?_
        refine xk_get hx hb hts (inX3_take_X3) hown hK hP 28 (by omega) (ci := 3) e1_text rfl 0 (by decide) (flX3_take_9 hts) rfl (.ref (ad 29)) rfl dX3_take_25 ?_
        refine lv_iload hx hb dX3_take_28 (lv_at hl 4 rfl) ?_
        refine lv_aload_n hx hb dX3_take_30 rfl (lv_at hl 1 rfl) ?_
        refine lv_iload_n hx hb dX3_take_31 rfl (lv_at hl 2 rfl) ?_
        refine lv_iload hx hb dX3_take_32 (lv_at hl 4 rfl) ?_
        refine xn_iadd hx hb dX3_take_34 ?_
        have hZ2 := SheetAt_fr (τ := τ) hZ (hfr _ (by omega) (by omega)) (hfr _ (by omega) (by omega))
        refine xk_fi (va_runV (As := [.int (nI (a + j))]) (rest := [.int (nI j), .ref (ad 29)]) ⟨hx, hb, hml, hown, hts⟩ (k1_numberAt l hI (j := a + j) (by omega) (by omega) hZ2 hL (by omega)) (cwV 1 hts gX3_take_X2_numberAt rfl rfl rfl (by decide +kernel) ⟨Nat.le_of_ble_eq_true rfl, Nat.le_of_ble_eq_true rfl⟩) (xk_preV X1_ok hK hX hP (xk_recv hK hP k (by omega) (ci := 2) (e1_sheet (by omega) (by omega)) rfl)) rfl rfl hl.1 rfl (lv_room (Nat.le_of_ble_eq_true rfl)) dX3_take_35 ⟨Nat.le_of_ble_eq_true rfl, Nat.le_of_ble_eq_true rfl⟩) hS (fun H locs hP hS => ?_)
        refine xk_iast hx hb hK hI hP hS 29 (by omega) (n := 60) (fun τ => e1_codes) rfl j (by omega) (by decide) e1_loc dX3_take_38 (fun H locs hP hS => ?_)
        refine lv_iinc (v := nI (j + 1)) (lv' := [(4, .int (nI (j + 1))), (0, .ref (ad 28)), (1, .ref (ad k)), (2, .int (nI a)), (3, .int (nI b))]) hx hb dX3_take_39 hl (k := 4) rfl (xn_inc _ 1) (by decide) rfl (fun ls hl => ?_)
        refine lv_goto (tgt := 8) hx hb dX3_take_42 (by decide) ?_
        exact ih_8 (j + 1) (up τ 29 j (cc (a + j))) (by omega) (fun i h1 h2 => by rw [up_r h2]; exact hfr i h1 h2) (by rw [up_r (by omega)]; exact h1) (fun i hi => by
          by_cases hij : i = j
          · rw [hij, up_s]
          · rw [up_n (by omega)]; exact h2 i (by omega)) (by omega) _ _ _ hP hS (lv_sub hl [1, 2, 3, 4, 0] rfl)
  exact LP_8 _ 0 (up σ 28 1 (nI b)) (by omega) (fun i h1 _ => up_r h1) up_s (fun i hi => absurd hi (Nat.not_lt_zero _)) (Nat.lt_succ_self _) _ _ _ hP hS (lv_sub hl [1, 2, 3, 4, 0] rfl)

set_option maxRecDepth 20000 in
theorem flX3_codeAt_9 {s : State} {av : Array Value} (hts : ∀ w ∈ wsX3_codeAt, w.before av s = true) : (Cond.fieldLink RX3 9 "WellBack$Text" "codes" "[I").before av s = true := hts _ (by decide +kernel)
set_option maxRecDepth 20000 in
theorem flX3_codeAt_15 {s : State} {av : Array Value} (hts : ∀ w ∈ wsX3_codeAt, w.before av s = true) : (Cond.fieldLink RX3 15 "WellBack$Text" "length" "I").before av s = true := hts _ (by decide +kernel)
set_option maxRecDepth 20000 in
theorem inX3_codeAt_X3 : ∀ w ∈ u_ws RX3 TX3 2, w ∈ wsX3_codeAt := by decide +kernel
set_option maxHeartbeats 4000000 in
set_option maxRecDepth 100000 in
theorem k1_codeAt (l : Launch) {D : va_G} {ca : Nat → ClassId} {ad : Nat → Nat} (hI : Ij ad 34) {σ : Sg} {t : Nat → Int32} {n : Nat} {j : Nat} (hT : TextAt σ t n) (hj : j < 2 ^ 31) : C1i l D ca ad yX3_codeAt wsX3_codeAt { frames := 0, cells := 0, slots := 0, locals := 0 } [.ref (ad 28), .int (nI j)] σ (xFn (cd t n j) σ) := by
  refine xk_entry cX3_codeAt 2 (some .int) (by decide) rfl (Nat.le_of_ble_eq_true rfl) ?_
  intro pP eE sS mM below meth cC hx hb hml hr hts hown hlk hP hK hX hS ls hl
  have hl : lv_has ls 2 [(0, .ref (ad 28)), (1, .int (nI j))] := hl
  have hn60 := hT.2.1
  refine lv_iload_n hx hb dX3_codeAt_0 rfl (lv_at hl 1 rfl) ?_
  refine xn_zlt (tgt := 30) hx hb dX3_codeAt_1 (by decide) (by omega) (fun c_1 => absurd c_1 (by omega)) (fun c_1 => ?_)
  refine lv_iload_n hx hb dX3_codeAt_4 rfl (lv_at hl 1 rfl) ?_
  refine lv_aload_n hx hb dX3_codeAt_5 rfl (lv_at hl 0 rfl) ?_
  refine xk_get hx hb hts (inX3_codeAt_X3) hown hK hP 28 (by omega) (ci := 3) e1_text rfl 1 (by decide) (flX3_codeAt_15 hts) rfl (.int (σ 28 1)) rfl dX3_codeAt_6 ?_
  refine xn_eqi (y := nI n) hT.1 ?_
  refine xn_ige (tgt := 30) hx hb dX3_codeAt_9 (by decide) (by omega) (by omega) (fun c_9 => ?_) (fun c_9 => ?_)
  · refine lv_iconst (v := (-1)) hx hb dX3_codeAt_30 (by decide) ?_
    exact xk_iret hx hb hr (vp_nar_int _) X1_ok hK hX hP hS hlk dX3_codeAt_31 (⟨(if_neg (by omega)).symm, rfl⟩)
  · refine lv_iload_n hx hb dX3_codeAt_12 rfl (lv_at hl 1 rfl) ?_
    refine lv_aload_n hx hb dX3_codeAt_13 rfl (lv_at hl 0 rfl) ?_
    refine xk_get hx hb hts (inX3_codeAt_X3) hown hK hP 28 (by omega) (ci := 3) e1_text rfl 0 (by decide) (flX3_codeAt_9 hts) rfl (.ref (ad 29)) rfl dX3_codeAt_14 ?_
    refine xk_alen hx hb hK hP 29 (by omega) e1_codes 0 rfl 60 rfl dX3_codeAt_17 ?_
    refine xn_ige (tgt := 30) hx hb dX3_codeAt_18 (by decide) (by omega) (by omega) (fun c_18 => absurd c_18 (by omega)) (fun c_18 => ?_)
    refine lv_aload_n hx hb dX3_codeAt_21 rfl (lv_at hl 0 rfl) ?_
    refine xk_get hx hb hts (inX3_codeAt_X3) hown hK hP 28 (by omega) (ci := 3) e1_text rfl 0 (by decide) (flX3_codeAt_9 hts) rfl (.ref (ad 29)) rfl dX3_codeAt_22 ?_
    refine lv_iload_n hx hb dX3_codeAt_25 rfl (lv_at hl 1 rfl) ?_
    refine xk_iald hx hb hK hP 29 (by omega) (n := 60) e1_codes rfl j (by omega) (by decide) dX3_codeAt_26 ?_
    refine xn_eqi (y := t j) (hT.2.2 _ c_9) ?_
    refine lv_goto (tgt := 31) hx hb dX3_codeAt_27 (by decide) ?_
    exact xk_iret hx hb hr (vp_nar_int _) X1_ok hK hX hP hS hlk dX3_codeAt_31 (⟨(if_pos c_9).symm, rfl⟩)

set_option maxHeartbeats 4000000 in
set_option maxRecDepth 100000 in
theorem k1_hasDigit (l : Launch) {D : va_G} {ca : Nat → ClassId} {ad : Nat → Nat} (hI : Ij ad 34) {σ : Sg} {t : Nat → Int32} {n : Nat} {j m : Nat} (hT : TextAt σ t n) (hj : j < 2 ^ 31) (hm : m ≤ 9) : C1i l D ca ad yX3_hasDigit wsX3_hasDigit { frames := 1, cells := 0, slots := 0, locals := 22 } [.ref (ad 28), .int (nI j), .int (nI m)] σ (xFn (bz (dg (cd t n j) m)) σ) := by
  refine xk_entry cX3_hasDigit 3 (some .boolean) (by decide) rfl (Nat.le_of_ble_eq_true rfl) ?_
  intro pP eE sS mM below meth cC hx hb hml hr hts hown hlk hP hK hX hS ls hl
  have hl : lv_has ls 3 [(0, .ref (ad 28)), (1, .int (nI j)), (2, .int (nI m))] := hl
  have hn60 := hT.2.1
  refine lv_aload_n hx hb dX3_hasDigit_0 rfl (lv_at hl 0 rfl) ?_
  refine lv_iload_n hx hb dX3_hasDigit_1 rfl (lv_at hl 1 rfl) ?_
  refine xk_fi (va_runV (As := [.int (nI j)]) (rest := []) ⟨hx, hb, hml, hown, hts⟩ (k1_codeAt l hI (j := j) hT (by omega)) (cwV 1 hts gX3_hasDigit_X3_codeAt rfl rfl rfl (by decide +kernel) ⟨Nat.le_of_ble_eq_true rfl, Nat.le_of_ble_eq_true rfl⟩) (xk_preV X1_ok hK hX hP (xk_recv hK hP 28 (by omega) (ci := 3) e1_text rfl)) rfl rfl hl.1 rfl (lv_room (Nat.le_of_ble_eq_true rfl)) dX3_hasDigit_2 ⟨Nat.le_of_ble_eq_true rfl, Nat.le_of_ble_eq_true rfl⟩) hS (fun H locs hP hS => ?_)
  refine lv_bipush (v := nI 48) hx hb dX3_hasDigit_5 (by decide) ?_
  refine lv_bipush (v := nI 48) hx hb dX3_hasDigit_7 (by decide) ?_
  refine lv_iload_n hx hb dX3_hasDigit_9 rfl (lv_at hl 2 rfl) ?_
  refine xn_iadd hx hb dX3_hasDigit_10 ?_
  by_cases q_11 : nI 48 ≤ cd t n j ∧ cd t n j ≤ nI (48 + m)
  · refine xk_fi (va_runSN (As := [.int (cd t n j), .int (nI 48), .int (nI (48 + m))]) (rest := []) ⟨hx, hb, hml, hown, hts⟩ (k1_within_t l hI (cd t n j) (nI 48) (nI (48 + m)) q_11) ⟨va_cnB 3 hts gX3_hasDigit_X6_within_n28 rfl rfl rfl hX.2 (hts (.initialized RX6) (by decide +kernel)) (by decide +kernel) ⟨Nat.le_of_ble_eq_true rfl, Nat.le_of_ble_eq_true rfl⟩, hts (.static yX6_within) (by decide +kernel), trivial⟩ (xk_preS X1_ok hK hX hP) rfl rfl hl.1 rfl (lv_room (Nat.le_of_ble_eq_true rfl)) dX3_hasDigit_11 ⟨Nat.le_of_ble_eq_true rfl, Nat.le_of_ble_eq_true rfl⟩) hS (fun H locs hP hS => ?_)
    exact xk_iret hx hb hr rfl X1_ok hK hX hP hS hlk dX3_hasDigit_14 (⟨(bz_t q_11).symm, rfl⟩)
  · refine xk_fi (va_runSN (As := [.int (cd t n j), .int (nI 48), .int (nI (48 + m))]) (rest := []) ⟨hx, hb, hml, hown, hts⟩ (k1_within_f l hI (cd t n j) (nI 48) (nI (48 + m)) q_11) ⟨va_cnB 3 hts gX3_hasDigit_X6_within_n28 rfl rfl rfl hX.2 (hts (.initialized RX6) (by decide +kernel)) (by decide +kernel) ⟨Nat.le_of_ble_eq_true rfl, Nat.le_of_ble_eq_true rfl⟩, hts (.static yX6_within) (by decide +kernel), trivial⟩ (xk_preS X1_ok hK hX hP) rfl rfl hl.1 rfl (lv_room (Nat.le_of_ble_eq_true rfl)) dX3_hasDigit_11 ⟨Nat.le_of_ble_eq_true rfl, Nat.le_of_ble_eq_true rfl⟩) hS (fun H locs hP hS => ?_)
    exact xk_iret hx hb hr rfl X1_ok hK hX hP hS hlk dX3_hasDigit_14 (⟨(bz_f q_11).symm, rfl⟩)

theorem k1_hasDigit_t (l : Launch) {D : va_G} {ca : Nat → ClassId} {ad : Nat → Nat} (hI : Ij ad 34) {σ : Sg} {t : Nat → Int32} {n : Nat} {j m : Nat} (hT : TextAt σ t n) (hj : j < 2 ^ 31) (hm : m ≤ 9) (h : dg (cd t n j) m) : C1i l D ca ad yX3_hasDigit wsX3_hasDigit { frames := 1, cells := 0, slots := 0, locals := 22 } [.ref (ad 28), .int (nI j), .int (nI m)] σ (xFn (nI 1) σ) := by
  have k := k1_hasDigit l (D := D) (ca := ca) hI hT hj hm
  rwa [bz_t h] at k

theorem k1_hasDigit_f (l : Launch) {D : va_G} {ca : Nat → ClassId} {ad : Nat → Nat} (hI : Ij ad 34) {σ : Sg} {t : Nat → Int32} {n : Nat} {j m : Nat} (hT : TextAt σ t n) (hj : j < 2 ^ 31) (hm : m ≤ 9) (h : ¬ dg (cd t n j) m) : C1i l D ca ad yX3_hasDigit wsX3_hasDigit { frames := 1, cells := 0, slots := 0, locals := 22 } [.ref (ad 28), .int (nI j), .int (nI m)] σ (xFn (nI 0) σ) := by
  have k := k1_hasDigit l (D := D) (ca := ca) hI hT hj hm
  rwa [bz_f h] at k

set_option maxHeartbeats 4000000 in
set_option maxRecDepth 100000 in
theorem k1_digitAt (l : Launch) {D : va_G} {ca : Nat → ClassId} {ad : Nat → Nat} (hI : Ij ad 34) {σ : Sg} {t : Nat → Int32} {n : Nat} {j m : Nat} (hT : TextAt σ t n) (hj : j < 2 ^ 31) (hm : m ≤ 9) (hd : dg (cd t n j) m) : C1i l D ca ad yX3_digitAt wsX3_digitAt { frames := 1, cells := 0, slots := 0, locals := 21 } [.ref (ad 28), .int (nI j)] σ (xFn (nI (dv (cd t n j))) σ) := by
  refine xk_entry cX3_digitAt 2 (some .int) (by decide) rfl (Nat.le_of_ble_eq_true rfl) ?_
  intro pP eE sS mM below meth cC hx hb hml hr hts hown hlk hP hK hX hS ls hl
  have hl : lv_has ls 2 [(0, .ref (ad 28)), (1, .int (nI j))] := hl
  have hn60 := hT.2.1
  have hdv := dg_dv hd hm
  refine lv_aload_n hx hb dX3_digitAt_0 rfl (lv_at hl 0 rfl) ?_
  refine lv_iload_n hx hb dX3_digitAt_1 rfl (lv_at hl 1 rfl) ?_
  refine xk_fi (va_runV (As := [.int (nI j)]) (rest := []) ⟨hx, hb, hml, hown, hts⟩ (k1_codeAt l hI (j := j) hT (by omega)) (cwV 1 hts gX3_digitAt_X3_codeAt rfl rfl rfl (by decide +kernel) ⟨Nat.le_of_ble_eq_true rfl, Nat.le_of_ble_eq_true rfl⟩) (xk_preV X1_ok hK hX hP (xk_recv hK hP 28 (by omega) (ci := 3) e1_text rfl)) rfl rfl hl.1 rfl (lv_room (Nat.le_of_ble_eq_true rfl)) dX3_digitAt_2 ⟨Nat.le_of_ble_eq_true rfl, Nat.le_of_ble_eq_true rfl⟩) hS (fun H locs hP hS => ?_)
  refine xn_eqi (y := nI (48 + dv (cd t n j))) hdv.1 ?_
  refine lv_bipush (v := nI 48) hx hb dX3_digitAt_5 (by decide) ?_
  refine xn_isub hx hb (by omega) dX3_digitAt_7 ?_
  exact xk_iret hx hb hr (vp_nar_int _) X1_ok hK hX hP hS hlk dX3_digitAt_8 (⟨by congr 1; omega, rfl⟩)

set_option maxHeartbeats 4000000 in
set_option maxRecDepth 100000 in
theorem k1_places (l : Launch) {D : va_G} {ca : Nat → ClassId} {ad : Nat → Nat} (hI : Ij ad 34) {σ : Sg} {t : Nat → Int32} {n : Nat} (hT : TextAt σ t n) : C1i l D ca ad yX3_places wsX3_places { frames := 2, cells := 0, slots := 0, locals := 44 } [.ref (ad 28)] σ (xFn (nI (pls (cd t n) 6 0)) σ) := by
  refine xk_entry cX3_places 3 (some .int) (by decide) rfl (Nat.le_of_ble_eq_true rfl) ?_
  intro pP eE sS mM below meth cC hx hb hml hr hts hown hlk hP hK hX hS ls hl
  have hl : lv_has ls 3 [(0, .ref (ad 28))] := hl
  have hn60 := hT.2.1
  refine lv_iconst (v := nI 0) hx hb dX3_places_0 (by decide) ?_
  refine lv_istore_n (lv' := [(1, .int (nI 0)), (0, .ref (ad 28))]) hx hb dX3_places_1 rfl hl (by decide) rfl (fun ls hl => ?_)
  refine lv_iconst (v := nI 0) hx hb dX3_places_2 (by decide) ?_
  refine lv_istore_n (lv' := [(2, .int (nI 0)), (1, .int (nI 0)), (0, .ref (ad 28))]) hx hb dX3_places_3 rfl hl (by decide) rfl (fun ls hl => ?_)
  have LP_4 : ∀ (n_4 : Nat) (k : Nat), (k ≤ 6) → (pls (cd t n) (6 - k) k = pls (cd t n) 6 0) → (6 - k) < n_4 → ∀ (H : Heap) (locs : List Loc) (ls : Array Slot), va_P D vwCl (wl ad 34 (en1 ad ca σ)) H → va_S (AA ad 34) sS.heap H locs → lv_has ls 3 [(0, .ref (ad 28)), (1, .int (nI k)), (2, .int (nI k))] → Wwi1 pP l eE { frames := 2, cells := 0, slots := 0, locals := 44 } sS mM [.ref (ad 28)] below meth cC D ca ad (xFn (nI (pls (cd t n) 6 0)) σ) H locs (F0 mM 4 ls []) := by
    intro n_4
    induction n_4 with
    | zero =>
      intro k hk hv hn_4
      exact absurd hn_4 (Nat.not_lt_zero _)
    | succ n_4 ih_4 =>
      intro k hk hv hn_4 H locs ls hP hS hl
      refine lv_iload_n hx hb dX3_places_4 rfl (lv_at hl 2 rfl) ?_
      refine lv_bipush (v := nI 6) hx hb dX3_places_5 (by decide) ?_
      refine xn_ige (tgt := 30) hx hb dX3_places_7 (by decide) (by omega) (by omega) (fun c_7 => ?_) (fun c_7 => ?_)
      · refine lv_iload_n hx hb dX3_places_30 rfl (lv_at hl 1 rfl) ?_
        exact xk_iret hx hb hr (vp_nar_int _) X1_ok hK hX hP hS hlk dX3_places_31 (⟨by rw [← hv, show 6 - k = 0 by omega]; rfl, rfl⟩)
      · refine lv_aload_n hx hb dX3_places_10 rfl (lv_at hl 0 rfl) ?_
        refine lv_iconst (v := nI 2) hx hb dX3_places_11 (by decide) ?_
        refine lv_iload_n hx hb dX3_places_12 rfl (lv_at hl 2 rfl) ?_
        refine xn_iadd hx hb dX3_places_13 ?_
        refine lv_iconst (v := nI 4) hx hb dX3_places_14 (by decide) ?_
        by_cases q_15 : dg (cd t n (2 + k)) 4
        · refine xk_fi (va_runV (As := [.int (nI (2 + k)), .int (nI 4)]) (rest := []) ⟨hx, hb, hml, hown, hts⟩ (k1_hasDigit_t l hI (j := 2 + k) (m := 4) hT (by omega) (by omega) q_15) (cwV 2 hts gX3_places_X3_hasDigit rfl rfl rfl (by decide +kernel) ⟨Nat.le_of_ble_eq_true rfl, Nat.le_of_ble_eq_true rfl⟩) (xk_preV X1_ok hK hX hP (xk_recv hK hP 28 (by omega) (ci := 3) e1_text rfl)) rfl rfl hl.1 rfl (lv_room (Nat.le_of_ble_eq_true rfl)) dX3_places_15 ⟨Nat.le_of_ble_eq_true rfl, Nat.le_of_ble_eq_true rfl⟩) hS (fun H locs hP hS => ?_)
          refine xn_zeq (tgt := 30) hx hb dX3_places_18 (by decide) (by omega) (fun c_18 => absurd c_18 (by omega)) (fun c_18 => ?_)
          refine lv_iinc (v := nI (k + 1)) (lv' := [(1, .int (nI (k + 1))), (0, .ref (ad 28)), (2, .int (nI k))]) hx hb dX3_places_21 hl (k := 1) rfl (xn_inc _ 1) (by decide) rfl (fun ls hl => ?_)
          refine lv_iinc (v := nI (k + 1)) (lv' := [(2, .int (nI (k + 1))), (1, .int (nI (k + 1))), (0, .ref (ad 28))]) hx hb dX3_places_24 hl (k := 2) rfl (xn_inc _ 1) (by decide) rfl (fun ls hl => ?_)
          refine lv_goto (tgt := 4) hx hb dX3_places_27 (by decide) ?_
          exact ih_4 (k + 1) (by omega) (by rw [← hv, show 6 - k = (6 - (k + 1)) + 1 by omega, pls, if_pos q_15]) (by omega) _ _ _ hP hS (lv_sub hl [2, 1, 0] rfl)
        · refine xk_fi (va_runV (As := [.int (nI (2 + k)), .int (nI 4)]) (rest := []) ⟨hx, hb, hml, hown, hts⟩ (k1_hasDigit_f l hI (j := 2 + k) (m := 4) hT (by omega) (by omega) q_15) (cwV 2 hts gX3_places_X3_hasDigit rfl rfl rfl (by decide +kernel) ⟨Nat.le_of_ble_eq_true rfl, Nat.le_of_ble_eq_true rfl⟩) (xk_preV X1_ok hK hX hP (xk_recv hK hP 28 (by omega) (ci := 3) e1_text rfl)) rfl rfl hl.1 rfl (lv_room (Nat.le_of_ble_eq_true rfl)) dX3_places_15 ⟨Nat.le_of_ble_eq_true rfl, Nat.le_of_ble_eq_true rfl⟩) hS (fun H locs hP hS => ?_)
          refine xn_zeq (tgt := 30) hx hb dX3_places_18 (by decide) (by omega) (fun c_18 => ?_) (fun c_18 => absurd c_18 (by omega))
          refine lv_iload_n hx hb dX3_places_30 rfl (lv_at hl 1 rfl) ?_
          exact xk_iret hx hb hr (vp_nar_int _) X1_ok hK hX hP hS hlk dX3_places_31 (⟨by rw [← hv, show 6 - k = (5 - k) + 1 by omega, pls, if_neg q_15], rfl⟩)
  exact LP_4 _ 0 (by omega) rfl (Nat.lt_succ_self _) _ _ _ hP hS (lv_sub hl [2, 1, 0] rfl)

set_option maxRecDepth 20000 in
theorem flX3_thingsTold_15 {s : State} {av : Array Value} (hts : ∀ w ∈ wsX3_thingsTold, w.before av s = true) : (Cond.fieldLink RX3 15 "WellBack$Text" "length" "I").before av s = true := hts _ (by decide +kernel)
set_option maxRecDepth 20000 in
theorem inX3_thingsTold_X3 : ∀ w ∈ u_ws RX3 TX3 2, w ∈ wsX3_thingsTold := by decide +kernel
set_option maxHeartbeats 4000000 in
set_option maxRecDepth 100000 in
theorem k1_thingsTold (l : Launch) {D : va_G} {ca : Nat → ClassId} {ad : Nat → Nat} (hI : Ij ad 34) {σ : Sg} {t : Nat → Int32} {n : Nat} (hT : TextAt σ t n) (h2 : 2 + pls (cd t n) 6 0 ≤ n) : C1i l D ca ad yX3_thingsTold wsX3_thingsTold { frames := 3, cells := 0, slots := 0, locals := 66 } [.ref (ad 28)] σ (xFn (nI ((n - 2 - pls (cd t n) 6 0) / 6)) σ) := by
  refine xk_entry cX3_thingsTold 1 (some .int) (by decide) rfl (Nat.le_of_ble_eq_true rfl) ?_
  intro pP eE sS mM below meth cC hx hb hml hr hts hown hlk hP hK hX hS ls hl
  have hl : lv_has ls 1 [(0, .ref (ad 28))] := hl
  have hn60 := hT.2.1
  refine lv_aload_n hx hb dX3_thingsTold_0 rfl (lv_at hl 0 rfl) ?_
  refine xk_get hx hb hts (inX3_thingsTold_X3) hown hK hP 28 (by omega) (ci := 3) e1_text rfl 1 (by decide) (flX3_thingsTold_15 hts) rfl (.int (σ 28 1)) rfl dX3_thingsTold_1 ?_
  refine xn_eqi (y := nI n) hT.1 ?_
  refine lv_iconst (v := nI 2) hx hb dX3_thingsTold_4 (by decide) ?_
  refine xn_isub hx hb (by omega) dX3_thingsTold_5 ?_
  refine lv_aload_n hx hb dX3_thingsTold_6 rfl (lv_at hl 0 rfl) ?_
  refine xk_fi (va_runV (As := []) (rest := [.int (nI (n - 2))]) ⟨hx, hb, hml, hown, hts⟩ (k1_places l hI hT) (cwV 0 hts gX3_thingsTold_X3_places rfl rfl rfl (by decide +kernel) ⟨Nat.le_of_ble_eq_true rfl, Nat.le_of_ble_eq_true rfl⟩) (xk_preV X1_ok hK hX hP (xk_recv hK hP 28 (by omega) (ci := 3) e1_text rfl)) rfl rfl hl.1 rfl (lv_room (Nat.le_of_ble_eq_true rfl)) dX3_thingsTold_7 ⟨Nat.le_of_ble_eq_true rfl, Nat.le_of_ble_eq_true rfl⟩) hS (fun H locs hP hS => ?_)
  refine xn_isub hx hb (by omega) dX3_thingsTold_10 ?_
  refine lv_bipush (v := nI 6) hx hb dX3_thingsTold_11 (by decide) ?_
  refine xn_idiv hx hb (by omega) (by omega) (by omega) dX3_thingsTold_13 ?_
  exact xk_iret hx hb hr (vp_nar_int _) X1_ok hK hX hP hS hlk dX3_thingsTold_14 (⟨rfl, rfl⟩)

set_option maxHeartbeats 4000000 in
set_option maxRecDepth 100000 in
theorem k1_kindAt (l : Launch) {D : va_G} {ca : Nat → ClassId} {ad : Nat → Nat} (hI : Ij ad 34) {σ : Sg} {t : Nat → Int32} {n : Nat} {j : Nat} (hT : TextAt σ t n) (hj : j < 2 ^ 31) : C1i l D ca ad yX3_kindAt wsX3_kindAt { frames := 1, cells := 0, slots := 0, locals := 21 } [.ref (ad 28), .int (nI j)] σ (xFn (kz (kd (cd t n j))) σ) := by
  refine xk_entry cX3_kindAt 2 (some .int) (by decide) rfl (Nat.le_of_ble_eq_true rfl) ?_
  intro pP eE sS mM below meth cC hx hb hml hr hts hown hlk hP hK hX hS ls hl
  have hl : lv_has ls 2 [(0, .ref (ad 28)), (1, .int (nI j))] := hl
  have hn60 := hT.2.1
  refine lv_aload_n hx hb dX3_kindAt_0 rfl (lv_at hl 0 rfl) ?_
  refine lv_iload_n hx hb dX3_kindAt_1 rfl (lv_at hl 1 rfl) ?_
  refine xk_fi (va_runV (As := [.int (nI j)]) (rest := []) ⟨hx, hb, hml, hown, hts⟩ (k1_codeAt l hI (j := j) hT (by omega)) (cwV 1 hts gX3_kindAt_X3_codeAt rfl rfl rfl (by decide +kernel) ⟨Nat.le_of_ble_eq_true rfl, Nat.le_of_ble_eq_true rfl⟩) (xk_preV X1_ok hK hX hP (xk_recv hK hP 28 (by omega) (ci := 3) e1_text rfl)) rfl rfl hl.1 rfl (lv_room (Nat.le_of_ble_eq_true rfl)) dX3_kindAt_2 ⟨Nat.le_of_ble_eq_true rfl, Nat.le_of_ble_eq_true rfl⟩) hS (fun H locs hP hS => ?_)
  by_cases q5_108 : cd t n j = nI 108
  · refine xn_eqi (y := nI 108) q5_108 ?_
    refine lv_lookup (tgt := 42) hx hb dX3_kindAt_5 (by decide) (off := 37) (by decide) (by decide) ?_
    refine lv_iconst (v := nI 1) hx hb dX3_kindAt_42 (by decide) ?_
    exact xk_iret hx hb hr (vp_nar_int _) X1_ok hK hX hP hS hlk dX3_kindAt_43 (⟨by rw [kd, if_pos q5_108]; rfl, rfl⟩)
  · by_cases q5_114 : cd t n j = nI 114
    · refine xn_eqi (y := nI 114) q5_114 ?_
      refine lv_lookup (tgt := 44) hx hb dX3_kindAt_5 (by decide) (off := 39) (by decide) (by decide) ?_
      refine lv_iconst (v := nI 2) hx hb dX3_kindAt_44 (by decide) ?_
      exact xk_iret hx hb hr (vp_nar_int _) X1_ok hK hX hP hS hlk dX3_kindAt_45 (⟨by rw [kd, if_neg q5_108, if_pos q5_114]; rfl, rfl⟩)
    · by_cases q5_116 : cd t n j = nI 116
      · refine xn_eqi (y := nI 116) q5_116 ?_
        refine lv_lookup (tgt := 40) hx hb dX3_kindAt_5 (by decide) (off := 35) (by decide) (by decide) ?_
        refine lv_iconst (v := nI 0) hx hb dX3_kindAt_40 (by decide) ?_
        exact xk_iret hx hb hr (vp_nar_int _) X1_ok hK hX hP hS hlk dX3_kindAt_41 (⟨by rw [kd, if_neg q5_108, if_neg q5_114, if_pos q5_116]; rfl, rfl⟩)
      · refine lv_lookup (tgt := 46) hx hb dX3_kindAt_5 (by decide) (off := 41) ((lv_osw (k := nI 108) (a := 108) (o := 37) (d := 41) (r := [(114, 39), (116, 35)]) q5_108 rfl).trans ((lv_osw (k := nI 114) (a := 114) (o := 39) (r := [(116, 35)]) q5_114 rfl).trans (lv_osw (k := nI 116) (a := 116) (o := 35) (r := []) q5_116 rfl))) (by decide) ?_
        refine lv_bipush (v := (-9)) hx hb dX3_kindAt_46 (by decide) ?_
        exact xk_iret hx hb hr (vp_nar_int _) X1_ok hK hX hP hS hlk dX3_kindAt_48 (⟨by rw [kd, if_neg q5_108, if_neg q5_114, if_neg q5_116]; rfl, rfl⟩)

theorem kz_9 {x : Int32} : kz (kd x) = -9 ↔ kd x = 3 := by
  have h := kd_le x
  constructor
  · intro q
    rcases (show kd x = 0 ∨ kd x = 1 ∨ kd x = 2 ∨ kd x = 3 by omega) with e | e | e | e
    · rw [e] at q; exact absurd q (by decide)
    · rw [e] at q; exact absurd q (by decide)
    · rw [e] at q; exact absurd q (by decide)
    · exact e
  · intro q
    rw [q]
    rfl

set_option maxHeartbeats 4000000 in
set_option maxRecDepth 100000 in
theorem k1_goesOn (l : Launch) {D : va_G} {ca : Nat → ClassId} {ad : Nat → Nat} (hI : Ij ad 34) {σ : Sg} {t : Nat → Int32} {n : Nat} {j k : Nat} (hT : TextAt σ t n) (hj : j < 2 ^ 31) (hk : k < 6) : C1i l D ca ad yX3_goesOn wsX3_goesOn { frames := 2, cells := 0, slots := 0, locals := 44 } [.ref (ad 28), .int (nI j), .int (nI k)] σ (xFn (bz (gq (cd t n j) k)) σ) := by
  refine xk_entry cX3_goesOn 3 (some .boolean) (by decide) rfl (Nat.le_of_ble_eq_true rfl) ?_
  intro pP eE sS mM below meth cC hx hb hml hr hts hown hlk hP hK hX hS ls hl
  have hl : lv_has ls 3 [(0, .ref (ad 28)), (1, .int (nI j)), (2, .int (nI k))] := hl
  have hn60 := hT.2.1
  refine lv_iload_n hx hb dX3_goesOn_0 rfl (lv_at hl 2 rfl) ?_
  rcases (show k = 0 ∨ k = 1 ∨ k = 2 ∨ k = 3 ∨ k = 4 ∨ k = 5 by omega) with h | h | h | h | h | h
  · subst h
    refine lv_tableIn (tgt := 36) hx hb dX3_goesOn_1 (by decide) (by decide) (off := 35) (by decide) (by decide) ?_
    refine lv_aload_n hx hb dX3_goesOn_36 rfl (lv_at hl 0 rfl) ?_
    refine lv_iload_n hx hb dX3_goesOn_37 rfl (lv_at hl 1 rfl) ?_
    refine xk_fi (va_runV (As := [.int (nI j)]) (rest := []) ⟨hx, hb, hml, hown, hts⟩ (k1_codeAt l hI (j := j) hT (by omega)) (cwV 1 hts gX3_goesOn_X3_codeAt rfl rfl rfl (by decide +kernel) ⟨Nat.le_of_ble_eq_true rfl, Nat.le_of_ble_eq_true rfl⟩) (xk_preV X1_ok hK hX hP (xk_recv hK hP 28 (by omega) (ci := 3) e1_text rfl)) rfl rfl hl.1 rfl (lv_room (Nat.le_of_ble_eq_true rfl)) dX3_goesOn_38 ⟨Nat.le_of_ble_eq_true rfl, Nat.le_of_ble_eq_true rfl⟩) hS (fun H locs hP hS => ?_)
    refine lv_bipush (v := nI 59) hx hb dX3_goesOn_41 (by decide) ?_
    refine lv_icmp_ne (tgt := 50) hx hb dX3_goesOn_43 (by decide) (fun c_43 => ?_) (fun c_43 => ?_)
    · refine lv_iconst (v := nI 0) hx hb dX3_goesOn_50 (by decide) ?_
      exact xk_iret hx hb hr rfl X1_ok hK hX hP hS hlk dX3_goesOn_51 (⟨(bz_f (P := gq (cd t n j) 0) c_43).symm, rfl⟩)
    · refine lv_iconst (v := nI 1) hx hb dX3_goesOn_46 (by decide) ?_
      refine lv_goto (tgt := 51) hx hb dX3_goesOn_47 (by decide) ?_
      exact xk_iret hx hb hr rfl X1_ok hK hX hP hS hlk dX3_goesOn_51 (⟨(bz_t (P := gq (cd t n j) 0) c_43).symm, rfl⟩)
  · subst h
    refine lv_tableIn (tgt := 52) hx hb dX3_goesOn_1 (by decide) (by decide) (off := 51) (by decide) (by decide) ?_
    refine lv_aload_n hx hb dX3_goesOn_52 rfl (lv_at hl 0 rfl) ?_
    refine lv_iload_n hx hb dX3_goesOn_53 rfl (lv_at hl 1 rfl) ?_
    refine xk_fi (va_runV (As := [.int (nI j)]) (rest := []) ⟨hx, hb, hml, hown, hts⟩ (k1_kindAt l hI (j := j) hT (by omega)) (cwV 1 hts gX3_goesOn_X3_kindAt rfl rfl rfl (by decide +kernel) ⟨Nat.le_of_ble_eq_true rfl, Nat.le_of_ble_eq_true rfl⟩) (xk_preV X1_ok hK hX hP (xk_recv hK hP 28 (by omega) (ci := 3) e1_text rfl)) rfl rfl hl.1 rfl (lv_room (Nat.le_of_ble_eq_true rfl)) dX3_goesOn_54 ⟨Nat.le_of_ble_eq_true rfl, Nat.le_of_ble_eq_true rfl⟩) hS (fun H locs hP hS => ?_)
    refine lv_bipush (v := (-9)) hx hb dX3_goesOn_57 (by decide) ?_
    refine lv_icmp_eq (tgt := 66) hx hb dX3_goesOn_59 (by decide) (fun c_59 => ?_) (fun c_59 => ?_)
    · refine lv_iconst (v := nI 0) hx hb dX3_goesOn_66 (by decide) ?_
      exact xk_iret hx hb hr rfl X1_ok hK hX hP hS hlk dX3_goesOn_67 (⟨(bz_f (P := gq (cd t n j) 1) (fun z => z (kz_9.mp c_59))).symm, rfl⟩)
    · refine lv_iconst (v := nI 1) hx hb dX3_goesOn_62 (by decide) ?_
      refine lv_goto (tgt := 67) hx hb dX3_goesOn_63 (by decide) ?_
      exact xk_iret hx hb hr rfl X1_ok hK hX hP hS hlk dX3_goesOn_67 (⟨(bz_t (P := gq (cd t n j) 1) (fun z => c_59 (kz_9.mpr z))).symm, rfl⟩)
  · subst h
    refine lv_tableIn (tgt := 75) hx hb dX3_goesOn_1 (by decide) (by decide) (off := 74) (by decide) (by decide) ?_
    refine lv_aload_n hx hb dX3_goesOn_75 rfl (lv_at hl 0 rfl) ?_
    refine lv_iload_n hx hb dX3_goesOn_76 rfl (lv_at hl 1 rfl) ?_
    refine lv_bipush (v := nI 9) hx hb dX3_goesOn_77 (by decide) ?_
    by_cases q_79 : dg (cd t n j) 9
    · refine xk_fi (va_runV (As := [.int (nI j), .int (nI 9)]) (rest := []) ⟨hx, hb, hml, hown, hts⟩ (k1_hasDigit_t l hI (j := j) (m := 9) hT (by omega) (by omega) q_79) (cwV 2 hts gX3_goesOn_X3_hasDigit rfl rfl rfl (by decide +kernel) ⟨Nat.le_of_ble_eq_true rfl, Nat.le_of_ble_eq_true rfl⟩) (xk_preV X1_ok hK hX hP (xk_recv hK hP 28 (by omega) (ci := 3) e1_text rfl)) rfl rfl hl.1 rfl (lv_room (Nat.le_of_ble_eq_true rfl)) dX3_goesOn_79 ⟨Nat.le_of_ble_eq_true rfl, Nat.le_of_ble_eq_true rfl⟩) hS (fun H locs hP hS => ?_)
      exact xk_iret hx hb hr rfl X1_ok hK hX hP hS hlk dX3_goesOn_82 (⟨(bz_t (P := gq (cd t n j) 2) q_79).symm, rfl⟩)
    · refine xk_fi (va_runV (As := [.int (nI j), .int (nI 9)]) (rest := []) ⟨hx, hb, hml, hown, hts⟩ (k1_hasDigit_f l hI (j := j) (m := 9) hT (by omega) (by omega) q_79) (cwV 2 hts gX3_goesOn_X3_hasDigit rfl rfl rfl (by decide +kernel) ⟨Nat.le_of_ble_eq_true rfl, Nat.le_of_ble_eq_true rfl⟩) (xk_preV X1_ok hK hX hP (xk_recv hK hP 28 (by omega) (ci := 3) e1_text rfl)) rfl rfl hl.1 rfl (lv_room (Nat.le_of_ble_eq_true rfl)) dX3_goesOn_79 ⟨Nat.le_of_ble_eq_true rfl, Nat.le_of_ble_eq_true rfl⟩) hS (fun H locs hP hS => ?_)
      exact xk_iret hx hb hr rfl X1_ok hK hX hP hS hlk dX3_goesOn_82 (⟨(bz_f (P := gq (cd t n j) 2) q_79).symm, rfl⟩)
  · subst h
    refine lv_tableIn (tgt := 68) hx hb dX3_goesOn_1 (by decide) (by decide) (off := 67) (by decide) (by decide) ?_
    refine lv_aload_n hx hb dX3_goesOn_68 rfl (lv_at hl 0 rfl) ?_
    refine lv_iload_n hx hb dX3_goesOn_69 rfl (lv_at hl 1 rfl) ?_
    refine lv_iconst (v := nI 4) hx hb dX3_goesOn_70 (by decide) ?_
    by_cases q_71 : dg (cd t n j) 4
    · refine xk_fi (va_runV (As := [.int (nI j), .int (nI 4)]) (rest := []) ⟨hx, hb, hml, hown, hts⟩ (k1_hasDigit_t l hI (j := j) (m := 4) hT (by omega) (by omega) q_71) (cwV 2 hts gX3_goesOn_X3_hasDigit rfl rfl rfl (by decide +kernel) ⟨Nat.le_of_ble_eq_true rfl, Nat.le_of_ble_eq_true rfl⟩) (xk_preV X1_ok hK hX hP (xk_recv hK hP 28 (by omega) (ci := 3) e1_text rfl)) rfl rfl hl.1 rfl (lv_room (Nat.le_of_ble_eq_true rfl)) dX3_goesOn_71 ⟨Nat.le_of_ble_eq_true rfl, Nat.le_of_ble_eq_true rfl⟩) hS (fun H locs hP hS => ?_)
      exact xk_iret hx hb hr rfl X1_ok hK hX hP hS hlk dX3_goesOn_74 (⟨(bz_t (P := gq (cd t n j) 3) q_71).symm, rfl⟩)
    · refine xk_fi (va_runV (As := [.int (nI j), .int (nI 4)]) (rest := []) ⟨hx, hb, hml, hown, hts⟩ (k1_hasDigit_f l hI (j := j) (m := 4) hT (by omega) (by omega) q_71) (cwV 2 hts gX3_goesOn_X3_hasDigit rfl rfl rfl (by decide +kernel) ⟨Nat.le_of_ble_eq_true rfl, Nat.le_of_ble_eq_true rfl⟩) (xk_preV X1_ok hK hX hP (xk_recv hK hP 28 (by omega) (ci := 3) e1_text rfl)) rfl rfl hl.1 rfl (lv_room (Nat.le_of_ble_eq_true rfl)) dX3_goesOn_71 ⟨Nat.le_of_ble_eq_true rfl, Nat.le_of_ble_eq_true rfl⟩) hS (fun H locs hP hS => ?_)
      exact xk_iret hx hb hr rfl X1_ok hK hX hP hS hlk dX3_goesOn_74 (⟨(bz_f (P := gq (cd t n j) 3) q_71).symm, rfl⟩)
  · subst h
    refine lv_tableIn (tgt := 68) hx hb dX3_goesOn_1 (by decide) (by decide) (off := 67) (by decide) (by decide) ?_
    refine lv_aload_n hx hb dX3_goesOn_68 rfl (lv_at hl 0 rfl) ?_
    refine lv_iload_n hx hb dX3_goesOn_69 rfl (lv_at hl 1 rfl) ?_
    refine lv_iconst (v := nI 4) hx hb dX3_goesOn_70 (by decide) ?_
    by_cases q_71 : dg (cd t n j) 4
    · refine xk_fi (va_runV (As := [.int (nI j), .int (nI 4)]) (rest := []) ⟨hx, hb, hml, hown, hts⟩ (k1_hasDigit_t l hI (j := j) (m := 4) hT (by omega) (by omega) q_71) (cwV 2 hts gX3_goesOn_X3_hasDigit rfl rfl rfl (by decide +kernel) ⟨Nat.le_of_ble_eq_true rfl, Nat.le_of_ble_eq_true rfl⟩) (xk_preV X1_ok hK hX hP (xk_recv hK hP 28 (by omega) (ci := 3) e1_text rfl)) rfl rfl hl.1 rfl (lv_room (Nat.le_of_ble_eq_true rfl)) dX3_goesOn_71 ⟨Nat.le_of_ble_eq_true rfl, Nat.le_of_ble_eq_true rfl⟩) hS (fun H locs hP hS => ?_)
      exact xk_iret hx hb hr rfl X1_ok hK hX hP hS hlk dX3_goesOn_74 (⟨(bz_t (P := gq (cd t n j) 4) q_71).symm, rfl⟩)
    · refine xk_fi (va_runV (As := [.int (nI j), .int (nI 4)]) (rest := []) ⟨hx, hb, hml, hown, hts⟩ (k1_hasDigit_f l hI (j := j) (m := 4) hT (by omega) (by omega) q_71) (cwV 2 hts gX3_goesOn_X3_hasDigit rfl rfl rfl (by decide +kernel) ⟨Nat.le_of_ble_eq_true rfl, Nat.le_of_ble_eq_true rfl⟩) (xk_preV X1_ok hK hX hP (xk_recv hK hP 28 (by omega) (ci := 3) e1_text rfl)) rfl rfl hl.1 rfl (lv_room (Nat.le_of_ble_eq_true rfl)) dX3_goesOn_71 ⟨Nat.le_of_ble_eq_true rfl, Nat.le_of_ble_eq_true rfl⟩) hS (fun H locs hP hS => ?_)
      exact xk_iret hx hb hr rfl X1_ok hK hX hP hS hlk dX3_goesOn_74 (⟨(bz_f (P := gq (cd t n j) 4) q_71).symm, rfl⟩)
  · subst h
    refine lv_tableOut (tgt := 75) hx hb dX3_goesOn_1 (by decide) (by decide) ?_
    refine lv_aload_n hx hb dX3_goesOn_75 rfl (lv_at hl 0 rfl) ?_
    refine lv_iload_n hx hb dX3_goesOn_76 rfl (lv_at hl 1 rfl) ?_
    refine lv_bipush (v := nI 9) hx hb dX3_goesOn_77 (by decide) ?_
    by_cases q_79 : dg (cd t n j) 9
    · refine xk_fi (va_runV (As := [.int (nI j), .int (nI 9)]) (rest := []) ⟨hx, hb, hml, hown, hts⟩ (k1_hasDigit_t l hI (j := j) (m := 9) hT (by omega) (by omega) q_79) (cwV 2 hts gX3_goesOn_X3_hasDigit rfl rfl rfl (by decide +kernel) ⟨Nat.le_of_ble_eq_true rfl, Nat.le_of_ble_eq_true rfl⟩) (xk_preV X1_ok hK hX hP (xk_recv hK hP 28 (by omega) (ci := 3) e1_text rfl)) rfl rfl hl.1 rfl (lv_room (Nat.le_of_ble_eq_true rfl)) dX3_goesOn_79 ⟨Nat.le_of_ble_eq_true rfl, Nat.le_of_ble_eq_true rfl⟩) hS (fun H locs hP hS => ?_)
      exact xk_iret hx hb hr rfl X1_ok hK hX hP hS hlk dX3_goesOn_82 (⟨(bz_t (P := gq (cd t n j) 5) q_79).symm, rfl⟩)
    · refine xk_fi (va_runV (As := [.int (nI j), .int (nI 9)]) (rest := []) ⟨hx, hb, hml, hown, hts⟩ (k1_hasDigit_f l hI (j := j) (m := 9) hT (by omega) (by omega) q_79) (cwV 2 hts gX3_goesOn_X3_hasDigit rfl rfl rfl (by decide +kernel) ⟨Nat.le_of_ble_eq_true rfl, Nat.le_of_ble_eq_true rfl⟩) (xk_preV X1_ok hK hX hP (xk_recv hK hP 28 (by omega) (ci := 3) e1_text rfl)) rfl rfl hl.1 rfl (lv_room (Nat.le_of_ble_eq_true rfl)) dX3_goesOn_79 ⟨Nat.le_of_ble_eq_true rfl, Nat.le_of_ble_eq_true rfl⟩) hS (fun H locs hP hS => ?_)
      exact xk_iret hx hb hr rfl X1_ok hK hX hP hS hlk dX3_goesOn_82 (⟨(bz_f (P := gq (cd t n j) 5) q_79).symm, rfl⟩)

theorem k1_goesOn_t (l : Launch) {D : va_G} {ca : Nat → ClassId} {ad : Nat → Nat} (hI : Ij ad 34) {σ : Sg} {t : Nat → Int32} {n : Nat} {j k : Nat} (hT : TextAt σ t n) (hj : j < 2 ^ 31) (hk : k < 6) (h : gq (cd t n j) k) : C1i l D ca ad yX3_goesOn wsX3_goesOn { frames := 2, cells := 0, slots := 0, locals := 44 } [.ref (ad 28), .int (nI j), .int (nI k)] σ (xFn (nI 1) σ) := by
  have k := k1_goesOn l (D := D) (ca := ca) hI hT hj hk
  rwa [bz_t h] at k

theorem k1_goesOn_f (l : Launch) {D : va_G} {ca : Nat → ClassId} {ad : Nat → Nat} (hI : Ij ad 34) {σ : Sg} {t : Nat → Int32} {n : Nat} {j k : Nat} (hT : TextAt σ t n) (hj : j < 2 ^ 31) (hk : k < 6) (h : ¬ gq (cd t n j) k) : C1i l D ca ad yX3_goesOn wsX3_goesOn { frames := 2, cells := 0, slots := 0, locals := 44 } [.ref (ad 28), .int (nI j), .int (nI k)] σ (xFn (nI 0) σ) := by
  have k := k1_goesOn l (D := D) (ca := ca) hI hT hj hk
  rwa [bz_f h] at k

set_option maxRecDepth 20000 in
theorem flX3_firstFault_15 {s : State} {av : Array Value} (hts : ∀ w ∈ wsX3_firstFault, w.before av s = true) : (Cond.fieldLink RX3 15 "WellBack$Text" "length" "I").before av s = true := hts _ (by decide +kernel)
set_option maxRecDepth 20000 in
theorem inX3_firstFault_X3 : ∀ w ∈ u_ws RX3 TX3 2, w ∈ wsX3_firstFault := by decide +kernel
set_option maxHeartbeats 4000000 in
set_option maxRecDepth 100000 in
theorem k1_firstFault (l : Launch) {D : va_G} {ca : Nat → ClassId} {ad : Nat → Nat} (hI : Ij ad 34) {σ : Sg} {t : Nat → Int32} {n : Nat} (hT : TextAt σ t n) : C1i l D ca ad yX3_firstFault wsX3_firstFault { frames := 3, cells := 0, slots := 0, locals := 66 } [.ref (ad 28)] σ (xFn (pz (parse (cd t n) n)) σ) := by
  refine xk_entry cX3_firstFault 5 (some .int) (by decide) rfl (Nat.le_of_ble_eq_true rfl) ?_
  intro pP eE sS mM below meth cC hx hb hml hr hts hown hlk hP hK hX hS ls hl
  have hl : lv_has ls 5 [(0, .ref (ad 28))] := hl
  have hn60 := hT.2.1
  have hpl := pls_le (cd t n) 6 0
  refine lv_aload_n hx hb dX3_firstFault_0 rfl (lv_at hl 0 rfl) ?_
  refine lv_iconst (v := nI 0) hx hb dX3_firstFault_1 (by decide) ?_
  refine xk_fi (va_runV (As := [.int (nI 0)]) (rest := []) ⟨hx, hb, hml, hown, hts⟩ (k1_codeAt l hI (j := 0) hT (by omega)) (cwV 1 hts gX3_firstFault_X3_codeAt rfl rfl rfl (by decide +kernel) ⟨Nat.le_of_ble_eq_true rfl, Nat.le_of_ble_eq_true rfl⟩) (xk_preV X1_ok hK hX hP (xk_recv hK hP 28 (by omega) (ci := 3) e1_text rfl)) rfl rfl hl.1 rfl (lv_room (Nat.le_of_ble_eq_true rfl)) dX3_firstFault_2 ⟨Nat.le_of_ble_eq_true rfl, Nat.le_of_ble_eq_true rfl⟩) hS (fun H locs hP hS => ?_)
  refine lv_bipush (v := nI 103) hx hb dX3_firstFault_5 (by decide) ?_
  refine lv_icmp_eq (tgt := 12) hx hb dX3_firstFault_7 (by decide) (fun c_7 => ?_) (fun c_7 => ?_)
  · refine lv_aload_n hx hb dX3_firstFault_12 rfl (lv_at hl 0 rfl) ?_
    refine lv_iconst (v := nI 1) hx hb dX3_firstFault_13 (by decide) ?_
    refine lv_bipush (v := nI 9) hx hb dX3_firstFault_14 (by decide) ?_
    by_cases q_16 : dg (cd t n 1) 9
    · refine xk_fi (va_runV (As := [.int (nI 1), .int (nI 9)]) (rest := []) ⟨hx, hb, hml, hown, hts⟩ (k1_hasDigit_t l hI (j := 1) (m := 9) hT (by omega) (by omega) q_16) (cwV 2 hts gX3_firstFault_X3_hasDigit rfl rfl rfl (by decide +kernel) ⟨Nat.le_of_ble_eq_true rfl, Nat.le_of_ble_eq_true rfl⟩) (xk_preV X1_ok hK hX hP (xk_recv hK hP 28 (by omega) (ci := 3) e1_text rfl)) rfl rfl hl.1 rfl (lv_room (Nat.le_of_ble_eq_true rfl)) dX3_firstFault_16 ⟨Nat.le_of_ble_eq_true rfl, Nat.le_of_ble_eq_true rfl⟩) hS (fun H locs hP hS => ?_)
      refine xn_zne (tgt := 24) hx hb dX3_firstFault_19 (by decide) (by omega) (fun c_19 => ?_) (fun c_19 => absurd c_19 (by omega))
      refine lv_aload_n hx hb dX3_firstFault_24 rfl (lv_at hl 0 rfl) ?_
      refine xk_fi (va_runV (As := []) (rest := []) ⟨hx, hb, hml, hown, hts⟩ (k1_places l hI hT) (cwV 0 hts gX3_firstFault_X3_places rfl rfl rfl (by decide +kernel) ⟨Nat.le_of_ble_eq_true rfl, Nat.le_of_ble_eq_true rfl⟩) (xk_preV X1_ok hK hX hP (xk_recv hK hP 28 (by omega) (ci := 3) e1_text rfl)) rfl rfl hl.1 rfl (lv_room (Nat.le_of_ble_eq_true rfl)) dX3_firstFault_25 ⟨Nat.le_of_ble_eq_true rfl, Nat.le_of_ble_eq_true rfl⟩) hS (fun H locs hP hS => ?_)
      refine lv_istore_n (lv' := [(1, .int (nI (pls (cd t n) 6 0))), (0, .ref (ad 28))]) hx hb dX3_firstFault_28 rfl hl (by decide) rfl (fun ls hl => ?_)
      refine lv_iload_n hx hb dX3_firstFault_29 rfl (lv_at hl 0 rfl) ?_
      refine xn_zne (tgt := 35) hx hb dX3_firstFault_30 (by decide) (by omega) (fun c_30 => ?_) (fun c_30 => ?_)
      · refine lv_iconst (v := nI 2) hx hb dX3_firstFault_35 (by decide) ?_
        refine lv_iload_n hx hb dX3_firstFault_36 rfl (lv_at hl 0 rfl) ?_
        refine xn_iadd hx hb dX3_firstFault_37 ?_
        refine lv_istore_n (lv' := [(2, .int (nI (2 + (pls (cd t n) 6 0)))), (1, .int (nI (pls (cd t n) 6 0))), (0, .ref (ad 28))]) hx hb dX3_firstFault_38 rfl hl (by decide) rfl (fun ls hl => ?_)
        refine lv_iconst (v := nI 0) hx hb dX3_firstFault_39 (by decide) ?_
        refine lv_istore_n (lv' := [(3, .int (nI 0)), (2, .int (nI (2 + (pls (cd t n) 6 0)))), (1, .int (nI (pls (cd t n) 6 0))), (0, .ref (ad 28))]) hx hb dX3_firstFault_40 rfl hl (by decide) rfl (fun ls hl => ?_)
        have LP_41 : ∀ (n_41 : Nat) (x : Nat) (s : Nat), (x ≤ 5) → (s ≤ 8 + 6 * x) → (tf (cd t n) n (5 - x) x s = parse (cd t n) n) → (5 - x) < n_41 → ∀ (H : Heap) (locs : List Loc) (ls : Array Slot), va_P D vwCl (wl ad 34 (en1 ad ca σ)) H → va_S (AA ad 34) sS.heap H locs → lv_has ls 5 [(0, .ref (ad 28)), (1, .int (nI (pls (cd t n) 6 0))), (2, .int (nI s)), (3, .int (nI x))] → Wwi1 pP l eE { frames := 3, cells := 0, slots := 0, locals := 66 } sS mM [.ref (ad 28)] below meth cC D ca ad (xFn (pz (parse (cd t n) n)) σ) H locs (F0 mM 41 ls []) := by
          intro n_41
          induction n_41 with
          | zero =>
            intro x s hx5 hs hv hn_41
            exact absurd hn_41 (Nat.not_lt_zero _)
          | succ n_41 ih_41 =>
            intro x s hx5 hs hv hn_41 H locs ls hP hS hl
            refine lv_iload_n hx hb dX3_firstFault_41 rfl (lv_at hl 3 rfl) ?_
            refine lv_iconst (v := nI 5) hx hb dX3_firstFault_42 (by decide) ?_
            refine xn_ige (tgt := 103) hx hb dX3_firstFault_43 (by decide) (by omega) (by omega) (fun c_43 => ?_) (fun c_43 => ?_)
            · refine lv_iload_n hx hb dX3_firstFault_103 rfl (lv_at hl 2 rfl) ?_
              refine lv_aload_n hx hb dX3_firstFault_104 rfl (lv_at hl 0 rfl) ?_
              refine xk_get hx hb hts (inX3_firstFault_X3) hown hK hP 28 (by omega) (ci := 3) e1_text rfl 1 (by decide) (flX3_firstFault_15 hts) rfl (.int (σ 28 1)) rfl dX3_firstFault_105 ?_
              refine xn_eqi (y := nI n) hT.1 ?_
              refine xn_ine (tgt := 115) hx hb dX3_firstFault_108 (by decide) (by omega) (by omega) (fun c_108 => ?_) (fun c_108 => ?_)
              · refine lv_iload_n hx hb dX3_firstFault_115 rfl (lv_at hl 2 rfl) ?_
                exact xk_iret hx hb hr (vp_nar_int _) X1_ok hK hX hP hS hlk dX3_firstFault_116 (⟨by rw [← hv, show 5 - x = 0 by omega, tf, if_neg c_108]; rfl, rfl⟩)
              · refine lv_iconst (v := (-1)) hx hb dX3_firstFault_111 (by decide) ?_
                refine lv_goto (tgt := 116) hx hb dX3_firstFault_112 (by decide) ?_
                exact xk_iret hx hb hr (vp_nar_int _) X1_ok hK hX hP hS hlk dX3_firstFault_116 (⟨by rw [← hv, show 5 - x = 0 by omega, tf, if_pos c_108]; rfl, rfl⟩)
            · refine lv_iload_n hx hb dX3_firstFault_46 rfl (lv_at hl 3 rfl) ?_
              refine xn_zle (tgt := 60) hx hb dX3_firstFault_47 (by decide) (by omega) (fun c_47 => ?_) (fun c_47 => ?_)
              · have hxs : ¬ (x ≠ 0 ∧ s = n) := by omega
                refine lv_iconst (v := nI 0) hx hb dX3_firstFault_60 (by decide) ?_
                refine lv_istore (lv' := [(4, .int (nI 0)), (0, .ref (ad 28)), (1, .int (nI (pls (cd t n) 6 0))), (2, .int (nI s)), (3, .int (nI x))]) hx hb dX3_firstFault_61 hl (by decide) rfl (fun ls hl => ?_)
                have LP_63 : ∀ (n_63 : Nat) (k : Nat), (k ≤ 6) → (f6 (cd t n) s (6 - k) k = f6 (cd t n) s 6 0) → (6 - k) < n_63 → ∀ (H : Heap) (locs : List Loc) (ls : Array Slot), va_P D vwCl (wl ad 34 (en1 ad ca σ)) H → va_S (AA ad 34) sS.heap H locs → lv_has ls 5 [(0, .ref (ad 28)), (1, .int (nI (pls (cd t n) 6 0))), (2, .int (nI s)), (3, .int (nI x)), (4, .int (nI k))] → Wwi1 pP l eE { frames := 3, cells := 0, slots := 0, locals := 66 } sS mM [.ref (ad 28)] below meth cC D ca ad (xFn (pz (parse (cd t n) n)) σ) H locs (F0 mM 63 ls []) := by
                  intro n_63
                  induction n_63 with
                  | zero =>
                    intro k hk hf hn_63
                    exact absurd hn_63 (Nat.not_lt_zero _)
                  | succ n_63 ih_63 =>
                    intro k hk hf hn_63 H locs ls hP hS hl
                    refine lv_iload hx hb dX3_firstFault_63 (lv_at hl 4 rfl) ?_
                    refine lv_bipush (v := nI 6) hx hb dX3_firstFault_65 (by decide) ?_
                    refine xn_ige (tgt := 94) hx hb dX3_firstFault_67 (by decide) (by omega) (by omega) (fun c_67 => ?_) (fun c_67 => ?_)
                    · refine lv_iinc (v := nI (s + 6)) (lv' := [(2, .int (nI (s + 6))), (0, .ref (ad 28)), (1, .int (nI (pls (cd t n) 6 0))), (3, .int (nI x)), (4, .int (nI k))]) hx hb dX3_firstFault_94 hl (k := 2) rfl (xn_inc _ 6) (by decide) rfl (fun ls hl => ?_)
                      refine lv_iinc (v := nI (x + 1)) (lv' := [(3, .int (nI (x + 1))), (2, .int (nI (s + 6))), (0, .ref (ad 28)), (1, .int (nI (pls (cd t n) 6 0))), (4, .int (nI k))]) hx hb dX3_firstFault_97 hl (k := 3) rfl (xn_inc _ 1) (by decide) rfl (fun ls hl => ?_)
                      refine lv_goto (tgt := 41) hx hb dX3_firstFault_100 (by decide) ?_
                      exact ih_41 (x + 1) (s + 6) (by omega) (by omega) (by rw [← hv, show 5 - x = (5 - (x + 1)) + 1 by omega, tf, if_neg hxs, if_pos (by rw [← hf, show 6 - k = 0 by omega]; simp only [f6]; omega)]) (by omega) _ _ _ hP hS (lv_sub hl [2, 3, 1, 0] rfl)
                    · refine lv_aload_n hx hb dX3_firstFault_70 rfl (lv_at hl 0 rfl) ?_
                      refine lv_iload_n hx hb dX3_firstFault_71 rfl (lv_at hl 2 rfl) ?_
                      refine lv_iload hx hb dX3_firstFault_72 (lv_at hl 4 rfl) ?_
                      refine xn_iadd hx hb dX3_firstFault_74 ?_
                      refine lv_iload hx hb dX3_firstFault_75 (lv_at hl 4 rfl) ?_
                      by_cases q_77 : gq (cd t n (s + k)) k
                      · refine xk_fi (va_runV (As := [.int (nI (s + k)), .int (nI k)]) (rest := []) ⟨hx, hb, hml, hown, hts⟩ (k1_goesOn_t l hI (j := s + k) (k := k) hT (by omega) (by omega) q_77) (cwV 2 hts gX3_firstFault_X3_goesOn rfl rfl rfl (by decide +kernel) ⟨Nat.le_of_ble_eq_true rfl, Nat.le_of_ble_eq_true rfl⟩) (xk_preV X1_ok hK hX hP (xk_recv hK hP 28 (by omega) (ci := 3) e1_text rfl)) rfl rfl hl.1 rfl (lv_room (Nat.le_of_ble_eq_true rfl)) dX3_firstFault_77 ⟨Nat.le_of_ble_eq_true rfl, Nat.le_of_ble_eq_true rfl⟩) hS (fun H locs hP hS => ?_)
                        refine xn_zne (tgt := 88) hx hb dX3_firstFault_80 (by decide) (by omega) (fun c_80 => ?_) (fun c_80 => absurd c_80 (by omega))
                        refine lv_iinc (v := nI (k + 1)) (lv' := [(4, .int (nI (k + 1))), (0, .ref (ad 28)), (1, .int (nI (pls (cd t n) 6 0))), (2, .int (nI s)), (3, .int (nI x))]) hx hb dX3_firstFault_88 hl (k := 4) rfl (xn_inc _ 1) (by decide) rfl (fun ls hl => ?_)
                        refine lv_goto (tgt := 63) hx hb dX3_firstFault_91 (by decide) ?_
                        exact ih_63 (k + 1) (by omega) (by rw [← hf, show 6 - k = (6 - (k + 1)) + 1 by omega, f6, if_pos q_77]) (by omega) _ _ _ hP hS (lv_sub hl [1, 2, 3, 4, 0] rfl)
                      · refine xk_fi (va_runV (As := [.int (nI (s + k)), .int (nI k)]) (rest := []) ⟨hx, hb, hml, hown, hts⟩ (k1_goesOn_f l hI (j := s + k) (k := k) hT (by omega) (by omega) q_77) (cwV 2 hts gX3_firstFault_X3_goesOn rfl rfl rfl (by decide +kernel) ⟨Nat.le_of_ble_eq_true rfl, Nat.le_of_ble_eq_true rfl⟩) (xk_preV X1_ok hK hX hP (xk_recv hK hP 28 (by omega) (ci := 3) e1_text rfl)) rfl rfl hl.1 rfl (lv_room (Nat.le_of_ble_eq_true rfl)) dX3_firstFault_77 ⟨Nat.le_of_ble_eq_true rfl, Nat.le_of_ble_eq_true rfl⟩) hS (fun H locs hP hS => ?_)
                        refine xn_zne (tgt := 88) hx hb dX3_firstFault_80 (by decide) (by omega) (fun c_80 => absurd c_80 (by omega)) (fun c_80 => ?_)
                        refine lv_iload_n hx hb dX3_firstFault_83 rfl (lv_at hl 2 rfl) ?_
                        refine lv_iload hx hb dX3_firstFault_84 (lv_at hl 4 rfl) ?_
                        refine xn_iadd hx hb dX3_firstFault_86 ?_
                        exact xk_iret hx hb hr (vp_nar_int _) X1_ok hK hX hP hS hlk dX3_firstFault_87 (⟨by rw [← hv, show 5 - x = (4 - x) + 1 by omega, tf, if_neg hxs, if_neg (by rw [← hf, show 6 - k = (5 - k) + 1 by omega, f6, if_neg q_77]; omega), ← hf, show 6 - k = (5 - k) + 1 by omega, f6, if_neg q_77]; rfl, rfl⟩)
                exact LP_63 _ 0 (by omega) rfl (Nat.lt_succ_self _) _ _ _ hP hS (lv_sub hl [1, 2, 3, 4, 0] rfl)
              · refine lv_iload_n hx hb dX3_firstFault_50 rfl (lv_at hl 2 rfl) ?_
                refine lv_aload_n hx hb dX3_firstFault_51 rfl (lv_at hl 0 rfl) ?_
                refine xk_get hx hb hts (inX3_firstFault_X3) hown hK hP 28 (by omega) (ci := 3) e1_text rfl 1 (by decide) (flX3_firstFault_15 hts) rfl (.int (σ 28 1)) rfl dX3_firstFault_52 ?_
                refine xn_eqi (y := nI n) hT.1 ?_
                refine xn_ine (tgt := 60) hx hb dX3_firstFault_55 (by decide) (by omega) (by omega) (fun c_55 => ?_) (fun c_55 => ?_)
                · have hxs : ¬ (x ≠ 0 ∧ s = n) := by omega
                  refine lv_iconst (v := nI 0) hx hb dX3_firstFault_60 (by decide) ?_
                  refine lv_istore (lv' := [(4, .int (nI 0)), (0, .ref (ad 28)), (1, .int (nI (pls (cd t n) 6 0))), (2, .int (nI s)), (3, .int (nI x))]) hx hb dX3_firstFault_61 hl (by decide) rfl (fun ls hl => ?_)
                  have LP_63 : ∀ (n_63 : Nat) (k : Nat), (k ≤ 6) → (f6 (cd t n) s (6 - k) k = f6 (cd t n) s 6 0) → (6 - k) < n_63 → ∀ (H : Heap) (locs : List Loc) (ls : Array Slot), va_P D vwCl (wl ad 34 (en1 ad ca σ)) H → va_S (AA ad 34) sS.heap H locs → lv_has ls 5 [(0, .ref (ad 28)), (1, .int (nI (pls (cd t n) 6 0))), (2, .int (nI s)), (3, .int (nI x)), (4, .int (nI k))] → Wwi1 pP l eE { frames := 3, cells := 0, slots := 0, locals := 66 } sS mM [.ref (ad 28)] below meth cC D ca ad (xFn (pz (parse (cd t n) n)) σ) H locs (F0 mM 63 ls []) := by
                    intro n_63
                    induction n_63 with
                    | zero =>
                      intro k hk hf hn_63
                      exact absurd hn_63 (Nat.not_lt_zero _)
                    | succ n_63 ih_63 =>
                      intro k hk hf hn_63 H locs ls hP hS hl
                      refine lv_iload hx hb dX3_firstFault_63 (lv_at hl 4 rfl) ?_
                      refine lv_bipush (v := nI 6) hx hb dX3_firstFault_65 (by decide) ?_
                      refine xn_ige (tgt := 94) hx hb dX3_firstFault_67 (by decide) (by omega) (by omega) (fun c_67 => ?_) (fun c_67 => ?_)
                      · refine lv_iinc (v := nI (s + 6)) (lv' := [(2, .int (nI (s + 6))), (0, .ref (ad 28)), (1, .int (nI (pls (cd t n) 6 0))), (3, .int (nI x)), (4, .int (nI k))]) hx hb dX3_firstFault_94 hl (k := 2) rfl (xn_inc _ 6) (by decide) rfl (fun ls hl => ?_)
                        refine lv_iinc (v := nI (x + 1)) (lv' := [(3, .int (nI (x + 1))), (2, .int (nI (s + 6))), (0, .ref (ad 28)), (1, .int (nI (pls (cd t n) 6 0))), (4, .int (nI k))]) hx hb dX3_firstFault_97 hl (k := 3) rfl (xn_inc _ 1) (by decide) rfl (fun ls hl => ?_)
                        refine lv_goto (tgt := 41) hx hb dX3_firstFault_100 (by decide) ?_
                        exact ih_41 (x + 1) (s + 6) (by omega) (by omega) (by rw [← hv, show 5 - x = (5 - (x + 1)) + 1 by omega, tf, if_neg hxs, if_pos (by rw [← hf, show 6 - k = 0 by omega]; simp only [f6]; omega)]) (by omega) _ _ _ hP hS (lv_sub hl [2, 3, 1, 0] rfl)
                      · refine lv_aload_n hx hb dX3_firstFault_70 rfl (lv_at hl 0 rfl) ?_
                        refine lv_iload_n hx hb dX3_firstFault_71 rfl (lv_at hl 2 rfl) ?_
                        refine lv_iload hx hb dX3_firstFault_72 (lv_at hl 4 rfl) ?_
                        refine xn_iadd hx hb dX3_firstFault_74 ?_
                        refine lv_iload hx hb dX3_firstFault_75 (lv_at hl 4 rfl) ?_
                        by_cases q_77 : gq (cd t n (s + k)) k
                        · refine xk_fi (va_runV (As := [.int (nI (s + k)), .int (nI k)]) (rest := []) ⟨hx, hb, hml, hown, hts⟩ (k1_goesOn_t l hI (j := s + k) (k := k) hT (by omega) (by omega) q_77) (cwV 2 hts gX3_firstFault_X3_goesOn rfl rfl rfl (by decide +kernel) ⟨Nat.le_of_ble_eq_true rfl, Nat.le_of_ble_eq_true rfl⟩) (xk_preV X1_ok hK hX hP (xk_recv hK hP 28 (by omega) (ci := 3) e1_text rfl)) rfl rfl hl.1 rfl (lv_room (Nat.le_of_ble_eq_true rfl)) dX3_firstFault_77 ⟨Nat.le_of_ble_eq_true rfl, Nat.le_of_ble_eq_true rfl⟩) hS (fun H locs hP hS => ?_)
                          refine xn_zne (tgt := 88) hx hb dX3_firstFault_80 (by decide) (by omega) (fun c_80 => ?_) (fun c_80 => absurd c_80 (by omega))
                          refine lv_iinc (v := nI (k + 1)) (lv' := [(4, .int (nI (k + 1))), (0, .ref (ad 28)), (1, .int (nI (pls (cd t n) 6 0))), (2, .int (nI s)), (3, .int (nI x))]) hx hb dX3_firstFault_88 hl (k := 4) rfl (xn_inc _ 1) (by decide) rfl (fun ls hl => ?_)
                          refine lv_goto (tgt := 63) hx hb dX3_firstFault_91 (by decide) ?_
                          exact ih_63 (k + 1) (by omega) (by rw [← hf, show 6 - k = (6 - (k + 1)) + 1 by omega, f6, if_pos q_77]) (by omega) _ _ _ hP hS (lv_sub hl [1, 2, 3, 4, 0] rfl)
                        · refine xk_fi (va_runV (As := [.int (nI (s + k)), .int (nI k)]) (rest := []) ⟨hx, hb, hml, hown, hts⟩ (k1_goesOn_f l hI (j := s + k) (k := k) hT (by omega) (by omega) q_77) (cwV 2 hts gX3_firstFault_X3_goesOn rfl rfl rfl (by decide +kernel) ⟨Nat.le_of_ble_eq_true rfl, Nat.le_of_ble_eq_true rfl⟩) (xk_preV X1_ok hK hX hP (xk_recv hK hP 28 (by omega) (ci := 3) e1_text rfl)) rfl rfl hl.1 rfl (lv_room (Nat.le_of_ble_eq_true rfl)) dX3_firstFault_77 ⟨Nat.le_of_ble_eq_true rfl, Nat.le_of_ble_eq_true rfl⟩) hS (fun H locs hP hS => ?_)
                          refine xn_zne (tgt := 88) hx hb dX3_firstFault_80 (by decide) (by omega) (fun c_80 => absurd c_80 (by omega)) (fun c_80 => ?_)
                          refine lv_iload_n hx hb dX3_firstFault_83 rfl (lv_at hl 2 rfl) ?_
                          refine lv_iload hx hb dX3_firstFault_84 (lv_at hl 4 rfl) ?_
                          refine xn_iadd hx hb dX3_firstFault_86 ?_
                          exact xk_iret hx hb hr (vp_nar_int _) X1_ok hK hX hP hS hlk dX3_firstFault_87 (⟨by rw [← hv, show 5 - x = (4 - x) + 1 by omega, tf, if_neg hxs, if_neg (by rw [← hf, show 6 - k = (5 - k) + 1 by omega, f6, if_neg q_77]; omega), ← hf, show 6 - k = (5 - k) + 1 by omega, f6, if_neg q_77]; rfl, rfl⟩)
                  exact LP_63 _ 0 (by omega) rfl (Nat.lt_succ_self _) _ _ _ hP hS (lv_sub hl [1, 2, 3, 4, 0] rfl)
                · refine lv_iconst (v := (-1)) hx hb dX3_firstFault_58 (by decide) ?_
                  exact xk_iret hx hb hr (vp_nar_int _) X1_ok hK hX hP hS hlk dX3_firstFault_59 (⟨by rw [← hv, show 5 - x = (4 - x) + 1 by omega, tf, if_pos ⟨by omega, c_55⟩]; rfl, rfl⟩)
        exact LP_41 _ 0 (2 + pls (cd t n) 6 0) (by omega) (by omega) (by rw [parse, if_pos c_7, if_pos q_16, if_neg c_30]) (Nat.lt_succ_self _) _ _ _ hP hS (lv_sub hl [3, 2, 1, 0] rfl)
      · refine lv_iconst (v := nI 2) hx hb dX3_firstFault_33 (by decide) ?_
        exact xk_iret hx hb hr (vp_nar_int _) X1_ok hK hX hP hS hlk dX3_firstFault_34 (⟨by rw [parse, if_pos c_7, if_pos q_16, if_pos c_30]; rfl, rfl⟩)
    · refine xk_fi (va_runV (As := [.int (nI 1), .int (nI 9)]) (rest := []) ⟨hx, hb, hml, hown, hts⟩ (k1_hasDigit_f l hI (j := 1) (m := 9) hT (by omega) (by omega) q_16) (cwV 2 hts gX3_firstFault_X3_hasDigit rfl rfl rfl (by decide +kernel) ⟨Nat.le_of_ble_eq_true rfl, Nat.le_of_ble_eq_true rfl⟩) (xk_preV X1_ok hK hX hP (xk_recv hK hP 28 (by omega) (ci := 3) e1_text rfl)) rfl rfl hl.1 rfl (lv_room (Nat.le_of_ble_eq_true rfl)) dX3_firstFault_16 ⟨Nat.le_of_ble_eq_true rfl, Nat.le_of_ble_eq_true rfl⟩) hS (fun H locs hP hS => ?_)
      refine xn_zne (tgt := 24) hx hb dX3_firstFault_19 (by decide) (by omega) (fun c_19 => absurd c_19 (by omega)) (fun c_19 => ?_)
      refine lv_iconst (v := nI 1) hx hb dX3_firstFault_22 (by decide) ?_
      exact xk_iret hx hb hr (vp_nar_int _) X1_ok hK hX hP hS hlk dX3_firstFault_23 (⟨by rw [parse, if_pos c_7, if_neg q_16]; rfl, rfl⟩)
  · refine lv_iconst (v := nI 0) hx hb dX3_firstFault_10 (by decide) ?_
    exact xk_iret hx hb hr (vp_nar_int _) X1_ok hK hX hP hS hlk dX3_firstFault_11 (⟨by rw [parse, if_neg c_7]; rfl, rfl⟩)

set_option maxRecDepth 20000 in
theorem flX3_tellThingTo_46 {s : State} {av : Array Value} (hts : ∀ w ∈ wsX3_tellThingTo, w.before av s = true) : (Cond.fieldLink RX3 46 "WellBack$Thing" "kind" "I").before av s = true := hts _ (by decide +kernel)
set_option maxRecDepth 20000 in
theorem flX3_tellThingTo_54 {s : State} {av : Array Value} (hts : ∀ w ∈ wsX3_tellThingTo, w.before av s = true) : (Cond.fieldLink RX3 54 "WellBack$Thing" "weight" "I").before av s = true := hts _ (by decide +kernel)
set_option maxRecDepth 20000 in
theorem flX3_tellThingTo_57 {s : State} {av : Array Value} (hts : ∀ w ∈ wsX3_tellThingTo, w.before av s = true) : (Cond.fieldLink RX3 57 "WellBack$Thing" "owner" "I").before av s = true := hts _ (by decide +kernel)
set_option maxRecDepth 20000 in
theorem flX3_tellThingTo_60 {s : State} {av : Array Value} (hts : ∀ w ∈ wsX3_tellThingTo, w.before av s = true) : (Cond.fieldLink RX3 60 "WellBack$Thing" "goal" "I").before av s = true := hts _ (by decide +kernel)
set_option maxRecDepth 20000 in
theorem flX3_tellThingTo_63 {s : State} {av : Array Value} (hts : ∀ w ∈ wsX3_tellThingTo, w.before av s = true) : (Cond.fieldLink RX3 63 "WellBack$Thing" "hour" "I").before av s = true := hts _ (by decide +kernel)
set_option maxRecDepth 20000 in
theorem inX3_tellThingTo_X4 : ∀ w ∈ u_ws RX4 TX4 5, w ∈ wsX3_tellThingTo := by decide +kernel
set_option maxHeartbeats 4000000 in
set_option maxRecDepth 100000 in
theorem k1_tellThing (l : Launch) {D : va_G} {ca : Nat → ClassId} {ad : Nat → Nat} (hI : Ij ad 34) {σ : Sg} {t : Nat → Int32} {n : Nat} {w x : Nat} (hT : TextAt σ t n) (hw1 : 9 ≤ w) (hw2 : w < 14) (hx5 : x < 5) (hg : ∀ k, k < 6 → gq (cd t n (2 + pls (cd t n) 6 0 + 6 * x + k)) k) : C1v l D ca ad yX3_tellThingTo wsX3_tellThingTo { frames := 3, cells := 0, slots := 0, locals := 66 } [.ref (ad 28), .ref (ad w), .int (nI x)] σ (xFv (up (up (up (up (up σ w 0 (nI (kd (cd t n (2 + pls (cd t n) 6 0 + 6 * x + 1))))) w 1 (nI (dv (cd t n (2 + pls (cd t n) 6 0 + 6 * x + 2))))) w 2 (nI (dv (cd t n (2 + pls (cd t n) 6 0 + 6 * x + 3))))) w 3 (nI (dv (cd t n (2 + pls (cd t n) 6 0 + 6 * x + 4))))) w 4 (nI (dv (cd t n (2 + pls (cd t n) 6 0 + 6 * x + 5)))))) := by
  refine xk_entry cX3_tellThingTo 4 none (by decide) rfl (Nat.le_of_ble_eq_true rfl) ?_
  intro pP eE sS mM below meth cC hx hb hml hr hts hown hlk hP hK hX hS ls hl
  have hl : lv_has ls 4 [(0, .ref (ad 28)), (1, .ref (ad w)), (2, .int (nI x))] := hl
  have hn60 := hT.2.1
  have hT0 := hT
  have hpl := pls_le (cd t n) 6 0
  have g1 : ¬ kd (cd t n (2 + pls (cd t n) 6 0 + 6 * x + 1)) = 3 := hg 1 (by omega)
  have g2 : dg (cd t n (2 + pls (cd t n) 6 0 + 6 * x + 2)) 9 := hg 2 (by omega)
  have g3 : dg (cd t n (2 + pls (cd t n) 6 0 + 6 * x + 3)) 4 := hg 3 (by omega)
  have g4 : dg (cd t n (2 + pls (cd t n) 6 0 + 6 * x + 4)) 4 := hg 4 (by omega)
  have g5 : dg (cd t n (2 + pls (cd t n) 6 0 + 6 * x + 5)) 9 := hg 5 (by omega)
  refine lv_iconst (v := nI 2) hx hb dX3_tellThingTo_0 (by decide) ?_
  refine lv_aload_n hx hb dX3_tellThingTo_1 rfl (lv_at hl 0 rfl) ?_
  refine xk_fi (va_runV (As := []) (rest := [.int (nI 2)]) ⟨hx, hb, hml, hown, hts⟩ (k1_places l hI hT) (cwV 0 hts gX3_tellThingTo_X3_places rfl rfl rfl (by decide +kernel) ⟨Nat.le_of_ble_eq_true rfl, Nat.le_of_ble_eq_true rfl⟩) (xk_preV X1_ok hK hX hP (xk_recv hK hP 28 (by omega) (ci := 3) e1_text rfl)) rfl rfl hl.1 rfl (lv_room (Nat.le_of_ble_eq_true rfl)) dX3_tellThingTo_2 ⟨Nat.le_of_ble_eq_true rfl, Nat.le_of_ble_eq_true rfl⟩) hS (fun H locs hP hS => ?_)
  refine xn_iadd hx hb dX3_tellThingTo_5 ?_
  refine lv_bipush (v := nI 6) hx hb dX3_tellThingTo_6 (by decide) ?_
  refine lv_iload_n hx hb dX3_tellThingTo_8 rfl (lv_at hl 2 rfl) ?_
  refine xn_imul hx hb dX3_tellThingTo_9 ?_
  refine xn_iadd hx hb dX3_tellThingTo_10 ?_
  refine lv_istore_n (lv' := [(3, .int (nI ((2 + (pls (cd t n) 6 0)) + (6 * x)))), (0, .ref (ad 28)), (1, .ref (ad w)), (2, .int (nI x))]) hx hb dX3_tellThingTo_11 rfl hl (by decide) rfl (fun ls hl => ?_)
  refine lv_aload_n hx hb dX3_tellThingTo_12 rfl (lv_at hl 2 rfl) ?_
  refine lv_aload_n hx hb dX3_tellThingTo_13 rfl (lv_at hl 1 rfl) ?_
  refine lv_iload_n hx hb dX3_tellThingTo_14 rfl (lv_at hl 0 rfl) ?_
  refine lv_iconst (v := nI 1) hx hb dX3_tellThingTo_15 (by decide) ?_
  refine xn_iadd hx hb dX3_tellThingTo_16 ?_
  refine xk_fi (va_runV (As := [.int (nI (((2 + (pls (cd t n) 6 0)) + (6 * x)) + 1))]) (rest := [.ref (ad w)]) ⟨hx, hb, hml, hown, hts⟩ (k1_kindAt l hI (j := ((2 + (pls (cd t n) 6 0)) + (6 * x)) + 1) hT (by omega)) (cwV 1 hts gX3_tellThingTo_X3_kindAt rfl rfl rfl (by decide +kernel) ⟨Nat.le_of_ble_eq_true rfl, Nat.le_of_ble_eq_true rfl⟩) (xk_preV X1_ok hK hX hP (xk_recv hK hP 28 (by omega) (ci := 3) e1_text rfl)) rfl rfl hl.1 rfl (lv_room (Nat.le_of_ble_eq_true rfl)) dX3_tellThingTo_17 ⟨Nat.le_of_ble_eq_true rfl, Nat.le_of_ble_eq_true rfl⟩) hS (fun H locs hP hS => ?_)
  refine xn_eqi (y := nI (kd (cd t n (2 + pls (cd t n) 6 0 + 6 * x + 1)))) (if_neg g1) ?_
  refine xk_put hx hb hts (inX3_tellThingTo_X4) tyX4 tyX4_ok nmX4 hown hK hI hP hS w (by omega) (ci := 4) (e1_thing (by omega) (by omega)) rfl 0 (by decide) (flX3_tellThingTo_46 hts) rfl rfl (by decide +kernel) (Nat.le_of_ble_eq_true rfl) e1_loc (by rw [e1_thing (by omega) (by omega)]; simp [up]) dX3_tellThingTo_20 (fun H locs hP hS => ?_)
  refine lv_aload_n hx hb dX3_tellThingTo_23 rfl (lv_at hl 2 rfl) ?_
  refine lv_aload_n hx hb dX3_tellThingTo_24 rfl (lv_at hl 1 rfl) ?_
  refine lv_iload_n hx hb dX3_tellThingTo_25 rfl (lv_at hl 0 rfl) ?_
  refine lv_iconst (v := nI 2) hx hb dX3_tellThingTo_26 (by decide) ?_
  refine xn_iadd hx hb dX3_tellThingTo_27 ?_
  have hT := TextAt_fr (τ := (up σ w 0 (nI (kd (cd t n (2 + pls (cd t n) 6 0 + 6 * x + 1)))))) hT0 (by simp only [up_r (by omega : 28 ≠ w)]) (by simp only [up_r (by omega : 29 ≠ w)])
  refine xk_fi (va_runV (As := [.int (nI (((2 + (pls (cd t n) 6 0)) + (6 * x)) + 2))]) (rest := [.ref (ad w)]) ⟨hx, hb, hml, hown, hts⟩ (k1_digitAt l hI (j := ((2 + (pls (cd t n) 6 0)) + (6 * x)) + 2) hT (by omega) (by omega) g2) (cwV 1 hts gX3_tellThingTo_X3_digitAt rfl rfl rfl (by decide +kernel) ⟨Nat.le_of_ble_eq_true rfl, Nat.le_of_ble_eq_true rfl⟩) (xk_preV X1_ok hK hX hP (xk_recv hK hP 28 (by omega) (ci := 3) e1_text rfl)) rfl rfl hl.1 rfl (lv_room (Nat.le_of_ble_eq_true rfl)) dX3_tellThingTo_28 ⟨Nat.le_of_ble_eq_true rfl, Nat.le_of_ble_eq_true rfl⟩) hS (fun H locs hP hS => ?_)
  refine xk_put hx hb hts (inX3_tellThingTo_X4) tyX4 tyX4_ok nmX4 hown hK hI hP hS w (by omega) (ci := 4) (e1_thing (by omega) (by omega)) rfl 1 (by decide) (flX3_tellThingTo_54 hts) rfl rfl (by decide +kernel) (Nat.le_of_ble_eq_true rfl) e1_loc (by rw [e1_thing (by omega) (by omega)]; simp [up]) dX3_tellThingTo_31 (fun H locs hP hS => ?_)
  refine lv_aload_n hx hb dX3_tellThingTo_34 rfl (lv_at hl 2 rfl) ?_
  refine lv_aload_n hx hb dX3_tellThingTo_35 rfl (lv_at hl 1 rfl) ?_
  refine lv_iload_n hx hb dX3_tellThingTo_36 rfl (lv_at hl 0 rfl) ?_
  refine lv_iconst (v := nI 3) hx hb dX3_tellThingTo_37 (by decide) ?_
  refine xn_iadd hx hb dX3_tellThingTo_38 ?_
  have hT := TextAt_fr (τ := (up (up σ w 0 (nI (kd (cd t n (2 + pls (cd t n) 6 0 + 6 * x + 1))))) w 1 (nI (dv (cd t n (((2 + (pls (cd t n) 6 0)) + (6 * x)) + 2)))))) hT0 (by simp only [up_r (by omega : 28 ≠ w)]) (by simp only [up_r (by omega : 29 ≠ w)])
  refine xk_fi (va_runV (As := [.int (nI (((2 + (pls (cd t n) 6 0)) + (6 * x)) + 3))]) (rest := [.ref (ad w)]) ⟨hx, hb, hml, hown, hts⟩ (k1_digitAt l hI (j := ((2 + (pls (cd t n) 6 0)) + (6 * x)) + 3) hT (by omega) (by omega) g3) (cwV 1 hts gX3_tellThingTo_X3_digitAt rfl rfl rfl (by decide +kernel) ⟨Nat.le_of_ble_eq_true rfl, Nat.le_of_ble_eq_true rfl⟩) (xk_preV X1_ok hK hX hP (xk_recv hK hP 28 (by omega) (ci := 3) e1_text rfl)) rfl rfl hl.1 rfl (lv_room (Nat.le_of_ble_eq_true rfl)) dX3_tellThingTo_39 ⟨Nat.le_of_ble_eq_true rfl, Nat.le_of_ble_eq_true rfl⟩) hS (fun H locs hP hS => ?_)
  refine xk_put hx hb hts (inX3_tellThingTo_X4) tyX4 tyX4_ok nmX4 hown hK hI hP hS w (by omega) (ci := 4) (e1_thing (by omega) (by omega)) rfl 2 (by decide) (flX3_tellThingTo_57 hts) rfl rfl (by decide +kernel) (Nat.le_of_ble_eq_true rfl) e1_loc (by rw [e1_thing (by omega) (by omega)]; simp [up]) dX3_tellThingTo_42 (fun H locs hP hS => ?_)
  refine lv_aload_n hx hb dX3_tellThingTo_45 rfl (lv_at hl 2 rfl) ?_
  refine lv_aload_n hx hb dX3_tellThingTo_46 rfl (lv_at hl 1 rfl) ?_
  refine lv_iload_n hx hb dX3_tellThingTo_47 rfl (lv_at hl 0 rfl) ?_
  refine lv_iconst (v := nI 4) hx hb dX3_tellThingTo_48 (by decide) ?_
  refine xn_iadd hx hb dX3_tellThingTo_49 ?_
  have hT := TextAt_fr (τ := (up (up (up σ w 0 (nI (kd (cd t n (2 + pls (cd t n) 6 0 + 6 * x + 1))))) w 1 (nI (dv (cd t n (((2 + (pls (cd t n) 6 0)) + (6 * x)) + 2))))) w 2 (nI (dv (cd t n (((2 + (pls (cd t n) 6 0)) + (6 * x)) + 3)))))) hT0 (by simp only [up_r (by omega : 28 ≠ w)]) (by simp only [up_r (by omega : 29 ≠ w)])
  refine xk_fi (va_runV (As := [.int (nI (((2 + (pls (cd t n) 6 0)) + (6 * x)) + 4))]) (rest := [.ref (ad w)]) ⟨hx, hb, hml, hown, hts⟩ (k1_digitAt l hI (j := ((2 + (pls (cd t n) 6 0)) + (6 * x)) + 4) hT (by omega) (by omega) g4) (cwV 1 hts gX3_tellThingTo_X3_digitAt rfl rfl rfl (by decide +kernel) ⟨Nat.le_of_ble_eq_true rfl, Nat.le_of_ble_eq_true rfl⟩) (xk_preV X1_ok hK hX hP (xk_recv hK hP 28 (by omega) (ci := 3) e1_text rfl)) rfl rfl hl.1 rfl (lv_room (Nat.le_of_ble_eq_true rfl)) dX3_tellThingTo_50 ⟨Nat.le_of_ble_eq_true rfl, Nat.le_of_ble_eq_true rfl⟩) hS (fun H locs hP hS => ?_)
  refine xk_put hx hb hts (inX3_tellThingTo_X4) tyX4 tyX4_ok nmX4 hown hK hI hP hS w (by omega) (ci := 4) (e1_thing (by omega) (by omega)) rfl 3 (by decide) (flX3_tellThingTo_60 hts) rfl rfl (by decide +kernel) (Nat.le_of_ble_eq_true rfl) e1_loc (by rw [e1_thing (by omega) (by omega)]; simp [up]) dX3_tellThingTo_53 (fun H locs hP hS => ?_)
  refine lv_aload_n hx hb dX3_tellThingTo_56 rfl (lv_at hl 2 rfl) ?_
  refine lv_aload_n hx hb dX3_tellThingTo_57 rfl (lv_at hl 1 rfl) ?_
  refine lv_iload_n hx hb dX3_tellThingTo_58 rfl (lv_at hl 0 rfl) ?_
  refine lv_iconst (v := nI 5) hx hb dX3_tellThingTo_59 (by decide) ?_
  refine xn_iadd hx hb dX3_tellThingTo_60 ?_
  have hT := TextAt_fr (τ := (up (up (up (up σ w 0 (nI (kd (cd t n (2 + pls (cd t n) 6 0 + 6 * x + 1))))) w 1 (nI (dv (cd t n (((2 + (pls (cd t n) 6 0)) + (6 * x)) + 2))))) w 2 (nI (dv (cd t n (((2 + (pls (cd t n) 6 0)) + (6 * x)) + 3))))) w 3 (nI (dv (cd t n (((2 + (pls (cd t n) 6 0)) + (6 * x)) + 4)))))) hT0 (by simp only [up_r (by omega : 28 ≠ w)]) (by simp only [up_r (by omega : 29 ≠ w)])
  refine xk_fi (va_runV (As := [.int (nI (((2 + (pls (cd t n) 6 0)) + (6 * x)) + 5))]) (rest := [.ref (ad w)]) ⟨hx, hb, hml, hown, hts⟩ (k1_digitAt l hI (j := ((2 + (pls (cd t n) 6 0)) + (6 * x)) + 5) hT (by omega) (by omega) g5) (cwV 1 hts gX3_tellThingTo_X3_digitAt rfl rfl rfl (by decide +kernel) ⟨Nat.le_of_ble_eq_true rfl, Nat.le_of_ble_eq_true rfl⟩) (xk_preV X1_ok hK hX hP (xk_recv hK hP 28 (by omega) (ci := 3) e1_text rfl)) rfl rfl hl.1 rfl (lv_room (Nat.le_of_ble_eq_true rfl)) dX3_tellThingTo_61 ⟨Nat.le_of_ble_eq_true rfl, Nat.le_of_ble_eq_true rfl⟩) hS (fun H locs hP hS => ?_)
  refine xk_put hx hb hts (inX3_tellThingTo_X4) tyX4 tyX4_ok nmX4 hown hK hI hP hS w (by omega) (ci := 4) (e1_thing (by omega) (by omega)) rfl 4 (by decide) (flX3_tellThingTo_63 hts) rfl rfl (by decide +kernel) (Nat.le_of_ble_eq_true rfl) e1_loc (by rw [e1_thing (by omega) (by omega)]; simp [up]) dX3_tellThingTo_64 (fun H locs hP hS => ?_)
  exact xk_vret hx hb hr X1_ok hK hX hP hS hlk dX3_tellThingTo_67 rfl
