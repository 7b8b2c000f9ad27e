/-! the reference: the best rota, by all numbers -/
theorem cnt_le (d : Nat → Nat) (v : Nat) : ∀ n a, cnt d v n a ≤ n := by
  intro n
  induction n with
  | zero => intro a; exact Nat.le_refl _
  | succ n ih =>
    intro a
    have := ih (a + 1)
    simp only [cnt]
    split <;> omega
theorem cnt_snoc (d : Nat → Nat) (v k : Nat) : cnt d v (k + 1) 0 = cnt d v k 0 + (if d k = v then 1 else 0) := by
  rw [cnt_split d v k 1 0]
  simp [cnt]
theorem more_step : ∀ A, A ≤ 6 → ∀ B, B ≤ 6 → ∀ a, a ≤ 1 → ∀ b, b ≤ 1 → (nI A - nI B) + (nI a - nI b) = nI (A + a) - nI (B + b) := by decide +kernel
theorem more_0 : ∀ A, A ≤ 6 → ∀ B, B ≤ 6 → (nI A - nI B = 0 ↔ A = B) := by decide +kernel
theorem cnt_zero {d : Nat → Nat} {v : Nat} (hv : 5 ≤ v) : ∀ n a, (∀ k, a ≤ k → k < a + n → d k < 5) → cnt d v n a = 0 := by
  intro n
  induction n with
  | zero => intro a _; rfl
  | succ n ih =>
    intro a h
    have h0 := h a (by omega) (by omega)
    simp only [cnt]
    rw [if_neg (by omega), ih (a + 1) (fun k h1 h2 => h k (by omega) (by omega))]
theorem Pm_5 {p : Nat} {d t : Nat → Nat} (hd : ∀ k, k < p → d k < 5) (ht : ∀ k, k < p → t k < 5) (h : ∀ v, v < 5 → cnt t v p 0 = cnt d v p 0) : Pm p d t := by
  intro v
  by_cases hv : v < 5
  · exact (h v hv).symm
  · rw [cnt_zero (by omega) p 0 (fun k _ hk => hd k (by omega)), cnt_zero (by omega) p 0 (fun k _ hk => ht k (by omega))]
theorem Pm_lt {p : Nat} {d s : Nat → Nat} (hd : ∀ k, k < p → d k < 5) (h : Pm p d s) : ∀ k, k < p → s k < 5 := by
  intro k hk
  have h1 : 0 < cnt s (s k) p 0 := by
    have h2 := cnt_split s (s k) k (p - k) 0
    rw [show k + (p - k) = p by omega, Nat.zero_add] at h2
    have h3 := cnt_has (d := s) (p - k) k (by omega)
    omega
  rw [← h (s k)] at h1
  obtain ⟨j, _, h5, h6⟩ := cnt_pos p 0 h1
  rw [← h6]
  exact hd j (by omega)
/-- the number of a row of digits -/
def toN (s : Nat → Nat) : Nat → Nat
  | 0 => 0
  | k + 1 => toN s k * 5 + s k
def dg5 (p N j : Nat) : Nat := N / 5 ^ (p - 1 - j) % 5
theorem toN_congr {s t : Nat → Nat} : ∀ p, (∀ k, k < p → s k = t k) → toN s p = toN t p := by
  intro p
  induction p with
  | zero => intro _; rfl
  | succ p ih => intro h; simp only [toN, ih (fun k hk => h k (by omega)), h p (by omega)]
theorem toN_lx {s t : Nat → Nat} : ∀ p, (∀ k, k < p → s k < 5) → lx p s t → toN s p < toN t p := by
  intro p
  induction p with
  | zero => intro _ h; obtain ⟨q, h1, -⟩ := h; omega
  | succ p ih =>
    intro hs h
    obtain ⟨q, h1, h2, h3⟩ := h
    simp only [toN]
    by_cases hq : q = p
    · subst hq
      rw [toN_congr q h2]
      omega
    · have h4 := ih (fun k hk => hs k (by omega)) ⟨q, by omega, h2, h3⟩
      have h5 := hs p (by omega)
      omega
theorem toN_lt {s : Nat → Nat} : ∀ p, (∀ k, k < p → s k < 5) → toN s p < 5 ^ p := by
  intro p
  induction p with
  | zero => intro _; exact Nat.zero_lt_one
  | succ p ih =>
    intro hs
    have h1 := ih (fun k hk => hs k (by omega))
    have h2 := hs p (by omega)
    simp only [toN, Nat.pow_succ]
    omega
theorem toN_inj {p : Nat} {s t : Nat → Nat} (hs : ∀ k, k < p → s k < 5) (ht : ∀ k, k < p → t k < 5) (h : toN s p = toN t p) : ∀ k, k < p → s k = t k := by
  rcases lx_tri s t p with q | q | q
  · exact q
  · have := toN_lx p hs q; omega
  · have := toN_lx p ht q; omega
theorem toN_dg5 : ∀ p N, N < 5 ^ p → toN (dg5 p N) p = N := by
  intro p
  induction p with
  | zero => intro N h; simp only [Nat.pow_zero] at h; simp only [toN]; omega
  | succ p ih =>
    intro N h
    simp only [toN]
    have h1 : toN (dg5 (p + 1) N) p = toN (dg5 p (N / 5)) p := by
      refine toN_congr p (fun k hk => ?_)
      simp only [dg5]
      rw [show p + 1 - 1 - k = (p - 1 - k) + 1 by omega, Nat.pow_succ, Nat.mul_comm, Nat.div_div_eq_div_mul]
    have h2 : dg5 (p + 1) N p = N % 5 := by simp [dg5]
    rw [h1, h2, ih (N / 5) (by rw [Nat.pow_succ] at h; omega)]
    omega
theorem dg5_lt {p N : Nat} : ∀ k, k < p → dg5 p N k < 5 := fun _ _ => Nat.mod_lt _ (by decide)
def mz (M : Nat) : Int32 := if M = 0 then -9 else nI (M - 1)
theorem mz_le {a b : Nat} (ha : a < 2 ^ 31) (hb : b < 2 ^ 31) : mz a ≤ mz b ↔ a ≤ b := by
  have h9 : (-9 : Int32).toInt = -9 := by decide
  unfold mz
  rw [Int32.le_iff_toInt_le]
  split <;> split
  · omega
  · rw [h9, nI_toInt (by omega)]; omega
  · rw [h9, nI_toInt (by omega)]; omega
  · rw [nI_toInt (by omega), nI_toInt (by omega)]; omega
/-- the best of the rows of numbers below N -/
def BefN (p g : Nat) (th : Nat → Nat → Nat) (n : Nat) (d b : Nat → Nat) (M N : Nat) : Prop := (M = 0 → ∀ s, Pm p d s → ¬ toN s p < N) ∧ ∀ m, M = m + 1 → Pm p d b ∧ Rn p g th n b = m ∧ toN b p < N ∧ ∀ s, Pm p d s → toN s p < N → Rn p g th n s ≤ m ∧ (Rn p g th n s = m → ¬ lx p s b)
section BN
variable {p g n M N : Nat} {th : Nat → Nat → Nat} {d b t : Nat → Nat}
theorem bn_new (hp : 0 < p) (hd : ∀ k, k < p → d k < 5) (ht : Pm p d t) (hN : toN t p = N) (h : BefN p g th n d b M N) (hM : M ≤ Rn p g th n t) : BefN p g th n d t (Rn p g th n t + 1) (N + 1) := by
  refine ⟨fun q => by omega, fun m hm => ?_⟩
  have hm2 : m = Rn p g th n t := by omega
  subst hm2
  refine ⟨ht, rfl, by omega, fun s hs hl => ?_⟩
  by_cases hsN : toN s p = N
  · have e := toN_inj (Pm_lt hd hs) (Pm_lt hd ht) (by omega)
    exact ⟨Nat.le_of_eq (Rn_congr hp e), fun _ z => lx_irr (lx_congr e (fun _ _ => rfl) z)⟩
  · rcases Nat.eq_zero_or_pos M with z | z
    · exact absurd (by omega) (h.1 z s hs)
    · have := ((h.2 (M - 1) (by omega)).2.2.2 s hs (by omega)).1
      exact ⟨by omega, fun e => by omega⟩
theorem bn_keep (hp : 0 < p) (hd : ∀ k, k < p → d k < 5) (ht : Pm p d t) (hN : toN t p = N) (h : BefN p g th n d b M N) (hM : Rn p g th n t + 1 ≤ M) : BefN p g th n d b M (N + 1) := by
  refine ⟨fun q => by omega, fun m hm => ?_⟩
  obtain ⟨h1, h2, h3, h4⟩ := h.2 m hm
  refine ⟨h1, h2, by omega, fun s hs hl => ?_⟩
  by_cases hsN : toN s p = N
  · have e := toN_inj (Pm_lt hd hs) (Pm_lt hd ht) (by omega)
    exact ⟨by rw [Rn_congr hp e]; omega, fun _ z => by have := toN_lx p (Pm_lt hd hs) z; omega⟩
  · exact h4 s hs (by omega)
theorem bn_skip (hd : ∀ k, k < p → d k < 5) (ht5 : ∀ k, k < p → t k < 5) (ht : ¬ Pm p d t) (hN : toN t p = N) (h : BefN p g th n d b M N) : BefN p g th n d b M (N + 1) := by
  have key : ∀ s, Pm p d s → toN s p < N + 1 → toN s p < N := by
    intro s hs hl
    by_cases hsN : toN s p = N
    · have e := toN_inj (Pm_lt hd hs) ht5 (by omega)
      exact absurd (hs.tr (Pm.of e)) ht
    · omega
  refine ⟨fun q s hs hl => h.1 q s hs (key s hs hl), fun m hm => ?_⟩
  obtain ⟨h1, h2, h3, h4⟩ := h.2 m hm
  exact ⟨h1, h2, by omega, fun s hs hl => h4 s hs (key s hs hl)⟩
theorem bn_end (hd : ∀ k, k < p → d k < 5) (h : BefN p g th n d b M (5 ^ p)) : M ≠ 0 ∧ IsBest p g th n d b (M - 1) := by
  have h0 : M ≠ 0 := fun q => h.1 q d Pm.rf (toN_lt p hd)
  obtain ⟨h1, h2, h3, h4⟩ := h.2 (M - 1) (by omega)
  exact ⟨h0, h1, h2, fun s hs => h4 s hs (toN_lt p (Pm_lt hd hs))⟩
end BN

set_option maxRecDepth 20000 in
theorem flX7_isOrder_19 {s : State} {av : Array Value} (hts : ∀ w ∈ wsX7_isOrder, w.before av s = true) : (Cond.fieldLink RX7 19 "WellBackModel" "rota" "[I").before av s = true := hts _ (by decide +kernel)
set_option maxRecDepth 20000 in
theorem flX7_isOrder_46 {s : State} {av : Array Value} (hts : ∀ w ∈ wsX7_isOrder, w.before av s = true) : (Cond.fieldLink RX7 46 "WellBackModel" "kept" "[I").before av s = true := hts _ (by decide +kernel)
set_option maxRecDepth 20000 in
theorem flX7_isOrder_107 {s : State} {av : Array Value} (hts : ∀ w ∈ wsX7_isOrder, w.before av s = true) : (Cond.fieldLink RX7 107 "WellBackModel" "places" "I").before av s = true := hts _ (by decide +kernel)
set_option maxRecDepth 20000 in
theorem inX7_isOrder_X7 : ∀ w ∈ u_ws RX7 TX7 30, w ∈ wsX7_isOrder := by decide +kernel
set_option maxHeartbeats 4000000 in
set_option maxRecDepth 100000 in
theorem k2_isOrder_t (l : Launch) {D : va_G} {ca : Nat → ClassId} {ad : Nat → Nat} (hI : Ij ad 18) {σ : Sg} {p : Nat} {t e : Nat → Nat} (hR : RotaM σ p t) (he : ∀ k, k < p → σ 13 k = nI (e k) ∧ e k < 5) (hz : ∀ v, v < 5 → cnt t v p 0 = cnt e v p 0) : C2i l D ca ad yX7_isOrder wsX7_isOrder { frames := 0, cells := 0, slots := 0, locals := 0 } [.ref (ad 0)] σ (xFn (nI 1) σ) := by
  refine xk_entry cX7_isOrder 4 (some .boolean) (by decide) rfl (Nat.le_of_ble_eq_true rfl) ?_
  intro pP eE sS mM below meth cC hx hb hml hr hts hown hlk hP hK hX hS ls hl
  have hl : lv_has ls 4 [(0, .ref (ad 0))] := hl
  have hp6 := hR.2.1
  refine lv_iconst (v := nI 0) hx hb dX7_isOrder_0 (by decide) ?_
  refine lv_istore_n (lv' := [(1, .int (nI 0)), (0, .ref (ad 0))]) hx hb dX7_isOrder_1 rfl hl (by decide) rfl (fun ls hl => ?_)
  have LP_2 : ∀ (n_2 : Nat) (v : Nat), (v ≤ 5) → (∀ u, u < v → cnt t u p 0 = cnt e u p 0) → (5 - v) < n_2 → ∀ (H : Heap) (locs : List Loc) (ls : Array Slot), va_P D vwCl (wl ad 18 (en2 ad ca σ)) H → va_S (AA ad 18) sS.heap H locs → lv_has ls 4 [(0, .ref (ad 0)), (1, .int (nI v))] → Wwi2 pP l eE { frames := 0, cells := 0, slots := 0, locals := 0 } sS mM [.ref (ad 0)] below meth cC D ca ad (xFn (nI 1) σ) H locs (F0 mM 2 ls []) := by
    intro n_2
    induction n_2 with
    | zero =>
      intro v hv5 hal hn_2
      exact absurd hn_2 (Nat.not_lt_zero _)
    | succ n_2 ih_2 =>
      intro v hv5 hal hn_2 H locs ls hP hS hl
      refine lv_iload_n hx hb dX7_isOrder_2 rfl (lv_at hl 1 rfl) ?_
      refine lv_iconst (v := nI 5) hx hb dX7_isOrder_3 (by decide) ?_
      refine xn_ige (tgt := 71) hx hb dX7_isOrder_4 (by decide) (by omega) (by omega) (fun c_4 => ?_) (fun c_4 => ?_)
      · refine lv_iconst (v := nI 1) hx hb dX7_isOrder_71 (by decide) ?_
        exact xk_iret hx hb hr rfl X2_ok hK hX hP hS hlk dX7_isOrder_72 (⟨rfl, rfl⟩)
      · refine lv_iconst (v := nI 0) hx hb dX7_isOrder_7 (by decide) ?_
        refine xn_eqi (y := nI (cnt t v 0 0) - nI (cnt e v 0 0)) (by show nI 0 = nI 0 - nI 0; decide) ?_
        refine lv_istore_n (lv' := [(2, .int (nI (cnt t v 0 0) - nI (cnt e v 0 0))), (0, .ref (ad 0)), (1, .int (nI v))]) hx hb dX7_isOrder_8 rfl hl (by decide) rfl (fun ls hl => ?_)
        refine lv_iconst (v := nI 0) hx hb dX7_isOrder_9 (by decide) ?_
        refine lv_istore_n (lv' := [(3, .int (nI 0)), (2, .int (nI (cnt t v 0 0) - nI (cnt e v 0 0))), (0, .ref (ad 0)), (1, .int (nI v))]) hx hb dX7_isOrder_10 rfl hl (by decide) rfl (fun ls hl => ?_)
        have LP_11 : ∀ (n_11 : Nat) (k : Nat), (k ≤ p) → (p - k) < n_11 → ∀ (H : Heap) (locs : List Loc) (ls : Array Slot), va_P D vwCl (wl ad 18 (en2 ad ca σ)) H → va_S (AA ad 18) sS.heap H locs → lv_has ls 4 [(0, .ref (ad 0)), (1, .int (nI v)), (2, .int (nI (cnt t v k 0) - nI (cnt e v k 0))), (3, .int (nI k))] → Wwi2 pP l eE { frames := 0, cells := 0, slots := 0, locals := 0 } sS mM [.ref (ad 0)] below meth cC D ca ad (xFn (nI 1) σ) H locs (F0 mM 11 ls []) := by
          intro n_11
          induction n_11 with
          | zero =>
            intro k hk hn_11
            exact absurd hn_11 (Nat.not_lt_zero _)
          | succ n_11 ih_11 =>
            intro k hk hn_11 H locs ls hP hS hl
            refine lv_iload_n hx hb dX7_isOrder_11 rfl (lv_at hl 3 rfl) ?_
            refine lv_aload_n hx hb dX7_isOrder_12 rfl (lv_at hl 0 rfl) ?_
            refine xk_get hx hb hts (inX7_isOrder_X7) hown hK hP 0 (by omega) (ci := 7) e2_obj rfl 6 (by decide) (flX7_isOrder_107 hts) rfl (.int (σ 0 6)) rfl dX7_isOrder_13 ?_
            refine xn_eqi (y := nI p) hR.1 ?_
            refine xn_ige (tgt := 59) hx hb dX7_isOrder_16 (by decide) (by omega) (by omega) (fun c_16 => ?_) (fun c_16 => ?_)
            · have hkp : k = p := by omega
              have hm0 := more_0 (cnt t v k 0) (Nat.le_trans (cnt_le _ _ _ _) (by omega)) (cnt e v k 0) (Nat.le_trans (cnt_le _ _ _ _) (by omega))
              rw [hkp] at hm0
              rw [hkp] at hl
              refine lv_iload_n hx hb dX7_isOrder_59 rfl (lv_at hl 2 rfl) ?_
              refine lv_if_eq (tgt := 65) hx hb dX7_isOrder_60 (by decide) (fun c_60 => ?_) (fun c_60 => absurd (hm0.mpr (hz v c_4)) c_60)
              have hmv := hz v c_4
              refine lv_iinc (v := nI (v + 1)) (lv' := [(1, .int (nI (v + 1))), (0, .ref (ad 0)), (2, .int (nI (cnt t v p 0) - nI (cnt e v p 0))), (3, .int (nI p))]) hx hb dX7_isOrder_65 hl (k := 1) rfl (xn_inc _ 1) (by decide) rfl (fun ls hl => ?_)
              refine lv_goto (tgt := 2) hx hb dX7_isOrder_68 (by decide) ?_
              exact ih_2 (v + 1) (by omega) (fun u hu => by
            by_cases huv : u = v
            · rw [huv]; exact hmv
            · exact hal u (by omega)) (by omega) _ _ _ hP hS (lv_sub hl [1, 0] rfl)
            · have htk := (hR.2.2 k c_16).2
              have hek := (he k c_16).2
              refine lv_iload_n hx hb dX7_isOrder_19 rfl (lv_at hl 2 rfl) ?_
              refine lv_aload_n hx hb dX7_isOrder_20 rfl (lv_at hl 0 rfl) ?_
              refine xk_get hx hb hts (inX7_isOrder_X7) hown hK hP 0 (by omega) (ci := 7) e2_obj rfl 8 (by decide) (flX7_isOrder_19 hts) rfl (.ref (ad 4)) rfl dX7_isOrder_21 ?_
              refine lv_iload_n hx hb dX7_isOrder_24 rfl (lv_at hl 3 rfl) ?_
              refine xk_iald hx hb hK hP 4 (by omega) (n := 6) (e2_row 6 (by decide) rfl) rfl k (by omega) (by decide) dX7_isOrder_25 ?_
              refine xn_eqi (y := nI (t k)) ((hR.2.2 _ (by omega)).1) ?_
              refine lv_iload_n hx hb dX7_isOrder_26 rfl (lv_at hl 1 rfl) ?_
              refine xn_ine (tgt := 34) hx hb dX7_isOrder_27 (by decide) (by omega) (by omega) (fun c_27 => ?_) (fun c_27 => ?_)
              · refine lv_iconst (v := nI 0) hx hb dX7_isOrder_34 (by decide) ?_
                refine lv_aload_n hx hb dX7_isOrder_35 rfl (lv_at hl 0 rfl) ?_
                refine xk_get hx hb hts (inX7_isOrder_X7) hown hK hP 0 (by omega) (ci := 7) e2_obj rfl 24 (by decide) (flX7_isOrder_46 hts) rfl (.ref (ad 13)) rfl dX7_isOrder_36 ?_
                refine lv_iload_n hx hb dX7_isOrder_39 rfl (lv_at hl 3 rfl) ?_
                refine xk_iald hx hb hK hP 13 (by omega) (n := 6) (e2_row 6 (by decide) rfl) rfl k (by omega) (by decide) dX7_isOrder_40 ?_
                refine xn_eqi (y := nI (e k)) ((he _ (by omega)).1) ?_
                refine lv_iload_n hx hb dX7_isOrder_41 rfl (lv_at hl 1 rfl) ?_
                refine xn_ine (tgt := 49) hx hb dX7_isOrder_42 (by decide) (by omega) (by omega) (fun c_42 => ?_) (fun c_42 => ?_)
                · refine lv_iconst (v := nI 0) hx hb dX7_isOrder_49 (by decide) ?_
                  refine lv_isub hx hb dX7_isOrder_50 ?_
                  refine lv_iadd hx hb dX7_isOrder_51 ?_
                  refine xn_eqi (y := nI (cnt t v (k + 1) 0) - nI (cnt e v (k + 1) 0)) (by rw [more_step _ (Nat.le_trans (cnt_le _ _ _ _) (by omega)) _ (Nat.le_trans (cnt_le _ _ _ _) (by omega)) _ (by decide) _ (by decide), cnt_snoc, cnt_snoc, if_neg c_27, if_neg c_42]) ?_
                  refine lv_istore_n (lv' := [(2, .int (nI (cnt t v (k + 1) 0) - nI (cnt e v (k + 1) 0))), (0, .ref (ad 0)), (1, .int (nI v)), (3, .int (nI k))]) hx hb dX7_isOrder_52 rfl hl (by decide) rfl (fun ls hl => ?_)
                  refine lv_iinc (v := nI (k + 1)) (lv' := [(3, .int (nI (k + 1))), (2, .int (nI (cnt t v (k + 1) 0) - nI (cnt e v (k + 1) 0))), (0, .ref (ad 0)), (1, .int (nI v))]) hx hb dX7_isOrder_53 hl (k := 3) rfl (xn_inc _ 1) (by decide) rfl (fun ls hl => ?_)
                  refine lv_goto (tgt := 11) hx hb dX7_isOrder_56 (by decide) ?_
                  exact ih_11 (k + 1) (by omega) (by omega) _ _ _ hP hS (lv_sub hl [2, 3, 1, 0] rfl)
                · refine lv_iconst (v := nI 1) hx hb dX7_isOrder_45 (by decide) ?_
                  refine lv_goto (tgt := 50) hx hb dX7_isOrder_46 (by decide) ?_
                  refine lv_isub hx hb dX7_isOrder_50 ?_
                  refine lv_iadd hx hb dX7_isOrder_51 ?_
                  refine xn_eqi (y := nI (cnt t v (k + 1) 0) - nI (cnt e v (k + 1) 0)) (by rw [more_step _ (Nat.le_trans (cnt_le _ _ _ _) (by omega)) _ (Nat.le_trans (cnt_le _ _ _ _) (by omega)) _ (by decide) _ (by decide), cnt_snoc, cnt_snoc, if_neg c_27, if_pos c_42]) ?_
                  refine lv_istore_n (lv' := [(2, .int (nI (cnt t v (k + 1) 0) - nI (cnt e v (k + 1) 0))), (0, .ref (ad 0)), (1, .int (nI v)), (3, .int (nI k))]) hx hb dX7_isOrder_52 rfl hl (by decide) rfl (fun ls hl => ?_)
                  refine lv_iinc (v := nI (k + 1)) (lv' := [(3, .int (nI (k + 1))), (2, .int (nI (cnt t v (k + 1) 0) - nI (cnt e v (k + 1) 0))), (0, .ref (ad 0)), (1, .int (nI v))]) hx hb dX7_isOrder_53 hl (k := 3) rfl (xn_inc _ 1) (by decide) rfl (fun ls hl => ?_)
                  refine lv_goto (tgt := 11) hx hb dX7_isOrder_56 (by decide) ?_
                  exact ih_11 (k + 1) (by omega) (by omega) _ _ _ hP hS (lv_sub hl [2, 3, 1, 0] rfl)
              · refine lv_iconst (v := nI 1) hx hb dX7_isOrder_30 (by decide) ?_
                refine lv_goto (tgt := 35) hx hb dX7_isOrder_31 (by decide) ?_
                refine lv_aload_n hx hb dX7_isOrder_35 rfl (lv_at hl 0 rfl) ?_
                refine xk_get hx hb hts (inX7_isOrder_X7) hown hK hP 0 (by omega) (ci := 7) e2_obj rfl 24 (by decide) (flX7_isOrder_46 hts) rfl (.ref (ad 13)) rfl dX7_isOrder_36 ?_
                refine lv_iload_n hx hb dX7_isOrder_39 rfl (lv_at hl 3 rfl) ?_
                refine xk_iald hx hb hK hP 13 (by omega) (n := 6) (e2_row 6 (by decide) rfl) rfl k (by omega) (by decide) dX7_isOrder_40 ?_
                refine xn_eqi (y := nI (e k)) ((he _ (by omega)).1) ?_
                refine lv_iload_n hx hb dX7_isOrder_41 rfl (lv_at hl 1 rfl) ?_
                refine xn_ine (tgt := 49) hx hb dX7_isOrder_42 (by decide) (by omega) (by omega) (fun c_42 => ?_) (fun c_42 => ?_)
                · refine lv_iconst (v := nI 0) hx hb dX7_isOrder_49 (by decide) ?_
                  refine lv_isub hx hb dX7_isOrder_50 ?_
                  refine lv_iadd hx hb dX7_isOrder_51 ?_
                  refine xn_eqi (y := nI (cnt t v (k + 1) 0) - nI (cnt e v (k + 1) 0)) (by rw [more_step _ (Nat.le_trans (cnt_le _ _ _ _) (by omega)) _ (Nat.le_trans (cnt_le _ _ _ _) (by omega)) _ (by decide) _ (by decide), cnt_snoc, cnt_snoc, if_pos c_27, if_neg c_42]) ?_
                  refine lv_istore_n (lv' := [(2, .int (nI (cnt t v (k + 1) 0) - nI (cnt e v (k + 1) 0))), (0, .ref (ad 0)), (1, .int (nI v)), (3, .int (nI k))]) hx hb dX7_isOrder_52 rfl hl (by decide) rfl (fun ls hl => ?_)
                  refine lv_iinc (v := nI (k + 1)) (lv' := [(3, .int (nI (k + 1))), (2, .int (nI (cnt t v (k + 1) 0) - nI (cnt e v (k + 1) 0))), (0, .ref (ad 0)), (1, .int (nI v))]) hx hb dX7_isOrder_53 hl (k := 3) rfl (xn_inc _ 1) (by decide) rfl (fun ls hl => ?_)
                  refine lv_goto (tgt := 11) hx hb dX7_isOrder_56 (by decide) ?_
                  exact ih_11 (k + 1) (by omega) (by omega) _ _ _ hP hS (lv_sub hl [2, 3, 1, 0] rfl)
                · refine lv_iconst (v := nI 1) hx hb dX7_isOrder_45 (by decide) ?_
                  refine lv_goto (tgt := 50) hx hb dX7_isOrder_46 (by decide) ?_
                  refine lv_isub hx hb dX7_isOrder_50 ?_
                  refine lv_iadd hx hb dX7_isOrder_51 ?_
                  refine xn_eqi (y := nI (cnt t v (k + 1) 0) - nI (cnt e v (k + 1) 0)) (by rw [more_step _ (Nat.le_trans (cnt_le _ _ _ _) (by omega)) _ (Nat.le_trans (cnt_le _ _ _ _) (by omega)) _ (by decide) _ (by decide), cnt_snoc, cnt_snoc, if_pos c_27, if_pos c_42]) ?_
                  refine lv_istore_n (lv' := [(2, .int (nI (cnt t v (k + 1) 0) - nI (cnt e v (k + 1) 0))), (0, .ref (ad 0)), (1, .int (nI v)), (3, .int (nI k))]) hx hb dX7_isOrder_52 rfl hl (by decide) rfl (fun ls hl => ?_)
                  refine lv_iinc (v := nI (k + 1)) (lv' := [(3, .int (nI (k + 1))), (2, .int (nI (cnt t v (k + 1) 0) - nI (cnt e v (k + 1) 0))), (0, .ref (ad 0)), (1, .int (nI v))]) hx hb dX7_isOrder_53 hl (k := 3) rfl (xn_inc _ 1) (by decide) rfl (fun ls hl => ?_)
                  refine lv_goto (tgt := 11) hx hb dX7_isOrder_56 (by decide) ?_
                  exact ih_11 (k + 1) (by omega) (by omega) _ _ _ hP hS (lv_sub hl [2, 3, 1, 0] rfl)
        exact LP_11 _ 0 (by omega) (Nat.lt_succ_self _) _ _ _ hP hS (lv_sub hl [2, 3, 1, 0] rfl)
  exact LP_2 _ 0 (by omega) (fun u hu => absurd hu (Nat.not_lt_zero _)) (Nat.lt_succ_self _) _ _ _ hP hS (lv_sub hl [1, 0] rfl)

set_option maxHeartbeats 4000000 in
set_option maxRecDepth 100000 in
theorem k2_isOrder_f (l : Launch) {D : va_G} {ca : Nat → ClassId} {ad : Nat → Nat} (hI : Ij ad 18) {σ : Sg} {p : Nat} {t e : Nat → Nat} (hR : RotaM σ p t) (he : ∀ k, k < p → σ 13 k = nI (e k) ∧ e k < 5) (hz : ¬ (∀ v, v < 5 → cnt t v p 0 = cnt e v p 0)) : C2i l D ca ad yX7_isOrder wsX7_isOrder { frames := 0, cells := 0, slots := 0, locals := 0 } [.ref (ad 0)] σ (xFn (nI 0) σ) := by
  refine xk_entry cX7_isOrder 4 (some .boolean) (by decide) rfl (Nat.le_of_ble_eq_true rfl) ?_
  intro pP eE sS mM below meth cC hx hb hml hr hts hown hlk hP hK hX hS ls hl
  have hl : lv_has ls 4 [(0, .ref (ad 0))] := hl
  have hp6 := hR.2.1
  refine lv_iconst (v := nI 0) hx hb dX7_isOrder_0 (by decide) ?_
  refine lv_istore_n (lv' := [(1, .int (nI 0)), (0, .ref (ad 0))]) hx hb dX7_isOrder_1 rfl hl (by decide) rfl (fun ls hl => ?_)
  have LP_2 : ∀ (n_2 : Nat) (v : Nat), (v ≤ 5) → (∀ u, u < v → cnt t u p 0 = cnt e u p 0) → (5 - v) < n_2 → ∀ (H : Heap) (locs : List Loc) (ls : Array Slot), va_P D vwCl (wl ad 18 (en2 ad ca σ)) H → va_S (AA ad 18) sS.heap H locs → lv_has ls 4 [(0, .ref (ad 0)), (1, .int (nI v))] → Wwi2 pP l eE { frames := 0, cells := 0, slots := 0, locals := 0 } sS mM [.ref (ad 0)] below meth cC D ca ad (xFn (nI 0) σ) H locs (F0 mM 2 ls []) := by
    intro n_2
    induction n_2 with
    | zero =>
      intro v hv5 hal hn_2
      exact absurd hn_2 (Nat.not_lt_zero _)
    | succ n_2 ih_2 =>
      intro v hv5 hal hn_2 H locs ls hP hS hl
      refine lv_iload_n hx hb dX7_isOrder_2 rfl (lv_at hl 1 rfl) ?_
      refine lv_iconst (v := nI 5) hx hb dX7_isOrder_3 (by decide) ?_
      refine xn_ige (tgt := 71) hx hb dX7_isOrder_4 (by decide) (by omega) (by omega) (fun c_4 => ?_) (fun c_4 => ?_)
      · exact absurd (fun v hv => hal v (by omega)) hz
      · refine lv_iconst (v := nI 0) hx hb dX7_isOrder_7 (by decide) ?_
        refine xn_eqi (y := nI (cnt t v 0 0) - nI (cnt e v 0 0)) (by show nI 0 = nI 0 - nI 0; decide) ?_
        refine lv_istore_n (lv' := [(2, .int (nI (cnt t v 0 0) - nI (cnt e v 0 0))), (0, .ref (ad 0)), (1, .int (nI v))]) hx hb dX7_isOrder_8 rfl hl (by decide) rfl (fun ls hl => ?_)
        refine lv_iconst (v := nI 0) hx hb dX7_isOrder_9 (by decide) ?_
        refine lv_istore_n (lv' := [(3, .int (nI 0)), (2, .int (nI (cnt t v 0 0) - nI (cnt e v 0 0))), (0, .ref (ad 0)), (1, .int (nI v))]) hx hb dX7_isOrder_10 rfl hl (by decide) rfl (fun ls hl => ?_)
        have LP_11 : ∀ (n_11 : Nat) (k : Nat), (k ≤ p) → (p - k) < n_11 → ∀ (H : Heap) (locs : List Loc) (ls : Array Slot), va_P D vwCl (wl ad 18 (en2 ad ca σ)) H → va_S (AA ad 18) sS.heap H locs → lv_has ls 4 [(0, .ref (ad 0)), (1, .int (nI v)), (2, .int (nI (cnt t v k 0) - nI (cnt e v k 0))), (3, .int (nI k))] → Wwi2 pP l eE { frames := 0, cells := 0, slots := 0, locals := 0 } sS mM [.ref (ad 0)] below meth cC D ca ad (xFn (nI 0) σ) H locs (F0 mM 11 ls []) := by
          intro n_11
          induction n_11 with
          | zero =>
            intro k hk hn_11
            exact absurd hn_11 (Nat.not_lt_zero _)
          | succ n_11 ih_11 =>
            intro k hk hn_11 H locs ls hP hS hl
            refine lv_iload_n hx hb dX7_isOrder_11 rfl (lv_at hl 3 rfl) ?_
            refine lv_aload_n hx hb dX7_isOrder_12 rfl (lv_at hl 0 rfl) ?_
            refine xk_get hx hb hts (inX7_isOrder_X7) hown hK hP 0 (by omega) (ci := 7) e2_obj rfl 6 (by decide) (flX7_isOrder_107 hts) rfl (.int (σ 0 6)) rfl dX7_isOrder_13 ?_
            refine xn_eqi (y := nI p) hR.1 ?_
            refine xn_ige (tgt := 59) hx hb dX7_isOrder_16 (by decide) (by omega) (by omega) (fun c_16 => ?_) (fun c_16 => ?_)
            · have hkp : k = p := by omega
              have hm0 := more_0 (cnt t v k 0) (Nat.le_trans (cnt_le _ _ _ _) (by omega)) (cnt e v k 0) (Nat.le_trans (cnt_le _ _ _ _) (by omega))
              rw [hkp] at hm0
              rw [hkp] at hl
              refine lv_iload_n hx hb dX7_isOrder_59 rfl (lv_at hl 2 rfl) ?_
              refine lv_if_eq (tgt := 65) hx hb dX7_isOrder_60 (by decide) (fun c_60 => ?_) (fun c_60 => ?_)
              · have hmv := hm0.mp c_60
                refine lv_iinc (v := nI (v + 1)) (lv' := [(1, .int (nI (v + 1))), (0, .ref (ad 0)), (2, .int (nI (cnt t v p 0) - nI (cnt e v p 0))), (3, .int (nI p))]) hx hb dX7_isOrder_65 hl (k := 1) rfl (xn_inc _ 1) (by decide) rfl (fun ls hl => ?_)
                refine lv_goto (tgt := 2) hx hb dX7_isOrder_68 (by decide) ?_
                exact ih_2 (v + 1) (by omega) (fun u hu => by
            by_cases huv : u = v
            · rw [huv]; exact hmv
            · exact hal u (by omega)) (by omega) _ _ _ hP hS (lv_sub hl [1, 0] rfl)
              · refine lv_iconst (v := nI 0) hx hb dX7_isOrder_63 (by decide) ?_
                exact xk_iret hx hb hr rfl X2_ok hK hX hP hS hlk dX7_isOrder_64 (⟨rfl, rfl⟩)
            · have htk := (hR.2.2 k c_16).2
              have hek := (he k c_16).2
              refine lv_iload_n hx hb dX7_isOrder_19 rfl (lv_at hl 2 rfl) ?_
              refine lv_aload_n hx hb dX7_isOrder_20 rfl (lv_at hl 0 rfl) ?_
              refine xk_get hx hb hts (inX7_isOrder_X7) hown hK hP 0 (by omega) (ci := 7) e2_obj rfl 8 (by decide) (flX7_isOrder_19 hts) rfl (.ref (ad 4)) rfl dX7_isOrder_21 ?_
              refine lv_iload_n hx hb dX7_isOrder_24 rfl (lv_at hl 3 rfl) ?_
              refine xk_iald hx hb hK hP 4 (by omega) (n := 6) (e2_row 6 (by decide) rfl) rfl k (by omega) (by decide) dX7_isOrder_25 ?_
              refine xn_eqi (y := nI (t k)) ((hR.2.2 _ (by omega)).1) ?_
              refine lv_iload_n hx hb dX7_isOrder_26 rfl (lv_at hl 1 rfl) ?_
              refine xn_ine (tgt := 34) hx hb dX7_isOrder_27 (by decide) (by omega) (by omega) (fun c_27 => ?_) (fun c_27 => ?_)
              · refine lv_iconst (v := nI 0) hx hb dX7_isOrder_34 (by decide) ?_
                refine lv_aload_n hx hb dX7_isOrder_35 rfl (lv_at hl 0 rfl) ?_
                refine xk_get hx hb hts (inX7_isOrder_X7) hown hK hP 0 (by omega) (ci := 7) e2_obj rfl 24 (by decide) (flX7_isOrder_46 hts) rfl (.ref (ad 13)) rfl dX7_isOrder_36 ?_
                refine lv_iload_n hx hb dX7_isOrder_39 rfl (lv_at hl 3 rfl) ?_
                refine xk_iald hx hb hK hP 13 (by omega) (n := 6) (e2_row 6 (by decide) rfl) rfl k (by omega) (by decide) dX7_isOrder_40 ?_
                refine xn_eqi (y := nI (e k)) ((he _ (by omega)).1) ?_
                refine lv_iload_n hx hb dX7_isOrder_41 rfl (lv_at hl 1 rfl) ?_
                refine xn_ine (tgt := 49) hx hb dX7_isOrder_42 (by decide) (by omega) (by omega) (fun c_42 => ?_) (fun c_42 => ?_)
                · refine lv_iconst (v := nI 0) hx hb dX7_isOrder_49 (by decide) ?_
                  refine lv_isub hx hb dX7_isOrder_50 ?_
                  refine lv_iadd hx hb dX7_isOrder_51 ?_
                  refine xn_eqi (y := nI (cnt t v (k + 1) 0) - nI (cnt e v (k + 1) 0)) (by rw [more_step _ (Nat.le_trans (cnt_le _ _ _ _) (by omega)) _ (Nat.le_trans (cnt_le _ _ _ _) (by omega)) _ (by decide) _ (by decide), cnt_snoc, cnt_snoc, if_neg c_27, if_neg c_42]) ?_
                  refine lv_istore_n (lv' := [(2, .int (nI (cnt t v (k + 1) 0) - nI (cnt e v (k + 1) 0))), (0, .ref (ad 0)), (1, .int (nI v)), (3, .int (nI k))]) hx hb dX7_isOrder_52 rfl hl (by decide) rfl (fun ls hl => ?_)
                  refine lv_iinc (v := nI (k + 1)) (lv' := [(3, .int (nI (k + 1))), (2, .int (nI (cnt t v (k + 1) 0) - nI (cnt e v (k + 1) 0))), (0, .ref (ad 0)), (1, .int (nI v))]) hx hb dX7_isOrder_53 hl (k := 3) rfl (xn_inc _ 1) (by decide) rfl (fun ls hl => ?_)
                  refine lv_goto (tgt := 11) hx hb dX7_isOrder_56 (by decide) ?_
                  exact ih_11 (k + 1) (by omega) (by omega) _ _ _ hP hS (lv_sub hl [2, 3, 1, 0] rfl)
                · refine lv_iconst (v := nI 1) hx hb dX7_isOrder_45 (by decide) ?_
                  refine lv_goto (tgt := 50) hx hb dX7_isOrder_46 (by decide) ?_
                  refine lv_isub hx hb dX7_isOrder_50 ?_
                  refine lv_iadd hx hb dX7_isOrder_51 ?_
                  refine xn_eqi (y := nI (cnt t v (k + 1) 0) - nI (cnt e v (k + 1) 0)) (by rw [more_step _ (Nat.le_trans (cnt_le _ _ _ _) (by omega)) _ (Nat.le_trans (cnt_le _ _ _ _) (by omega)) _ (by decide) _ (by decide), cnt_snoc, cnt_snoc, if_neg c_27, if_pos c_42]) ?_
                  refine lv_istore_n (lv' := [(2, .int (nI (cnt t v (k + 1) 0) - nI (cnt e v (k + 1) 0))), (0, .ref (ad 0)), (1, .int (nI v)), (3, .int (nI k))]) hx hb dX7_isOrder_52 rfl hl (by decide) rfl (fun ls hl => ?_)
                  refine lv_iinc (v := nI (k + 1)) (lv' := [(3, .int (nI (k + 1))), (2, .int (nI (cnt t v (k + 1) 0) - nI (cnt e v (k + 1) 0))), (0, .ref (ad 0)), (1, .int (nI v))]) hx hb dX7_isOrder_53 hl (k := 3) rfl (xn_inc _ 1) (by decide) rfl (fun ls hl => ?_)
                  refine lv_goto (tgt := 11) hx hb dX7_isOrder_56 (by decide) ?_
                  exact ih_11 (k + 1) (by omega) (by omega) _ _ _ hP hS (lv_sub hl [2, 3, 1, 0] rfl)
              · refine lv_iconst (v := nI 1) hx hb dX7_isOrder_30 (by decide) ?_
                refine lv_goto (tgt := 35) hx hb dX7_isOrder_31 (by decide) ?_
                refine lv_aload_n hx hb dX7_isOrder_35 rfl (lv_at hl 0 rfl) ?_
                refine xk_get hx hb hts (inX7_isOrder_X7) hown hK hP 0 (by omega) (ci := 7) e2_obj rfl 24 (by decide) (flX7_isOrder_46 hts) rfl (.ref (ad 13)) rfl dX7_isOrder_36 ?_
                refine lv_iload_n hx hb dX7_isOrder_39 rfl (lv_at hl 3 rfl) ?_
                refine xk_iald hx hb hK hP 13 (by omega) (n := 6) (e2_row 6 (by decide) rfl) rfl k (by omega) (by decide) dX7_isOrder_40 ?_
                refine xn_eqi (y := nI (e k)) ((he _ (by omega)).1) ?_
                refine lv_iload_n hx hb dX7_isOrder_41 rfl (lv_at hl 1 rfl) ?_
                refine xn_ine (tgt := 49) hx hb dX7_isOrder_42 (by decide) (by omega) (by omega) (fun c_42 => ?_) (fun c_42 => ?_)
                · refine lv_iconst (v := nI 0) hx hb dX7_isOrder_49 (by decide) ?_
                  refine lv_isub hx hb dX7_isOrder_50 ?_
                  refine lv_iadd hx hb dX7_isOrder_51 ?_
                  refine xn_eqi (y := nI (cnt t v (k + 1) 0) - nI (cnt e v (k + 1) 0)) (by rw [more_step _ (Nat.le_trans (cnt_le _ _ _ _) (by omega)) _ (Nat.le_trans (cnt_le _ _ _ _) (by omega)) _ (by decide) _ (by decide), cnt_snoc, cnt_snoc, if_pos c_27, if_neg c_42]) ?_
                  refine lv_istore_n (lv' := [(2, .int (nI (cnt t v (k + 1) 0) - nI (cnt e v (k + 1) 0))), (0, .ref (ad 0)), (1, .int (nI v)), (3, .int (nI k))]) hx hb dX7_isOrder_52 rfl hl (by decide) rfl (fun ls hl => ?_)
                  refine lv_iinc (v := nI (k + 1)) (lv' := [(3, .int (nI (k + 1))), (2, .int (nI (cnt t v (k + 1) 0) - nI (cnt e v (k + 1) 0))), (0, .ref (ad 0)), (1, .int (nI v))]) hx hb dX7_isOrder_53 hl (k := 3) rfl (xn_inc _ 1) (by decide) rfl (fun ls hl => ?_)
                  refine lv_goto (tgt := 11) hx hb dX7_isOrder_56 (by decide) ?_
                  exact ih_11 (k + 1) (by omega) (by omega) _ _ _ hP hS (lv_sub hl [2, 3, 1, 0] rfl)
                · refine lv_iconst (v := nI 1) hx hb dX7_isOrder_45 (by decide) ?_
                  refine lv_goto (tgt := 50) hx hb dX7_isOrder_46 (by decide) ?_
                  refine lv_isub hx hb dX7_isOrder_50 ?_
                  refine lv_iadd hx hb dX7_isOrder_51 ?_
                  refine xn_eqi (y := nI (cnt t v (k + 1) 0) - nI (cnt e v (k + 1) 0)) (by rw [more_step _ (Nat.le_trans (cnt_le _ _ _ _) (by omega)) _ (Nat.le_trans (cnt_le _ _ _ _) (by omega)) _ (by decide) _ (by decide), cnt_snoc, cnt_snoc, if_pos c_27, if_pos c_42]) ?_
                  refine lv_istore_n (lv' := [(2, .int (nI (cnt t v (k + 1) 0) - nI (cnt e v (k + 1) 0))), (0, .ref (ad 0)), (1, .int (nI v)), (3, .int (nI k))]) hx hb dX7_isOrder_52 rfl hl (by decide) rfl (fun ls hl => ?_)
                  refine lv_iinc (v := nI (k + 1)) (lv' := [(3, .int (nI (k + 1))), (2, .int (nI (cnt t v (k + 1) 0) - nI (cnt e v (k + 1) 0))), (0, .ref (ad 0)), (1, .int (nI v))]) hx hb dX7_isOrder_53 hl (k := 3) rfl (xn_inc _ 1) (by decide) rfl (fun ls hl => ?_)
                  refine lv_goto (tgt := 11) hx hb dX7_isOrder_56 (by decide) ?_
                  exact ih_11 (k + 1) (by omega) (by omega) _ _ _ hP hS (lv_sub hl [2, 3, 1, 0] rfl)
        exact LP_11 _ 0 (by omega) (Nat.lt_succ_self _) _ _ _ hP hS (lv_sub hl [2, 3, 1, 0] rfl)
  exact LP_2 _ 0 (by omega) (fun u hu => absurd hu (Nat.not_lt_zero _)) (Nat.lt_succ_self _) _ _ _ hP hS (lv_sub hl [1, 0] rfl)
