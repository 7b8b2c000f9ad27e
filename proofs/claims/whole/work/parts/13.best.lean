/-! the best rota -/
theorem cta_congr {p : Nat} {d t : Nat → Nat} {e h y : Nat} (hp : 0 < p) (hd : ∀ k, k < p → d k = t k) : ∀ f c, cta p d e h y f c = cta p t e h y f c := by
  intro f
  induction f with
  | zero => intro c; rfl
  | succ f ih =>
    intro c
    simp only [cta]
    rw [hd _ (Nat.mod_lt _ hp), ih]
theorem oth_congr {p : Nat} {d t : Nat → Nat} {e h y : Nat} (hp : 0 < p) (hd : ∀ k, k < p → d k = t k) : oth p d e h y = oth p t e h y := by
  unfold oth
  rw [cta_congr hp hd, hd _ (Nat.mod_lt _ hp)]
/-- how many are right by a rota -/
def Rn (p g : Nat) (th : Nat → Nat → Nat) (n : Nat) (t : Nat → Nat) : Nat := cb (fun x => decide (rt p t g th x (th x 4))) n
theorem Rn_le {p g n : Nat} {th : Nat → Nat → Nat} {t : Nat → Nat} : Rn p g th n t ≤ n := cb_le _ n
theorem Rn_congr {p g n : Nat} {th : Nat → Nat → Nat} {t u : Nat → Nat} (hp : 0 < p) (h : ∀ k, k < p → t k = u k) : Rn p g th n t = Rn p g th n u := by
  refine cb_congr n (fun x _ => ?_)
  simp only [rt, oth_congr hp h]
def IsBest (p g : Nat) (th : Nat → Nat → Nat) (n : Nat) (d b : Nat → Nat) (m : Nat) : Prop := Pm p d b ∧ Rn p g th n b = m ∧ ∀ s, Pm p d s → Rn p g th n s ≤ m ∧ (Rn p g th n s = m → ¬ lx p s b)
theorem IsBest_one {p g n m m' : Nat} {th : Nat → Nat → Nat} {d b b' : Nat → Nat} (h : IsBest p g th n d b m) (h' : IsBest p g th n d b' m') : m = m' ∧ ∀ k, k < p → b k = b' k := by
  obtain ⟨a1, a2, a3⟩ := h
  obtain ⟨c1, c2, c3⟩ := h'
  have e1 := (a3 b' c1).1
  have e2 := (c3 b a1).1
  have e : m = m' := by omega
  refine ⟨e, ?_⟩
  rcases lx_tri b b' p with q | q | q
  · exact q
  · exact absurd q ((c3 b a1).2 (by omega))
  · exact absurd q ((a3 b' c1).2 (by omega))
/-- the best of the rows up to t -/
def MidB (p g : Nat) (th : Nat → Nat → Nat) (n : Nat) (d b : Nat → Nat) (m : Nat) (t : Nat → Nat) : Prop := Pm p d b ∧ Rn p g th n b = m ∧ ¬ lx p t b ∧ ∀ s, Pm p d s → ¬ lx p t s → Rn p g th n s ≤ m ∧ (Rn p g th n s = m → ¬ lx p s b)
/-- the best of the rows ahead of t: M is one more than it has right, 0 where there is none -/
def BefB (p g : Nat) (th : Nat → Nat → Nat) (n : Nat) (d b : Nat → Nat) (M : Nat) (t : Nat → Nat) : Prop := (M = 0 → ∀ s, Pm p d s → ¬ lx p s t) ∧ ∀ m, M = m + 1 → Pm p d b ∧ Rn p g th n b = m ∧ ¬ lx p t b ∧ ∀ s, Pm p d s → lx p s t → Rn p g th n s ≤ m ∧ (Rn p g th n s = m → ¬ lx p s b)
theorem mid_new {p g n M : Nat} {th : Nat → Nat → Nat} {d b t : Nat → Nat} (hp : 0 < p) (hPt : Pm p d t) (h : BefB p g th n d b M t) (hM : M ≤ Rn p g th n t) : MidB p g th n d t (Rn p g th n t) t := by
  refine ⟨hPt, rfl, lx_irr, fun s hs hl => ?_⟩
  rcases lx_tri s t p with q | q | q
  · exact ⟨Nat.le_of_eq (Rn_congr hp q), fun _ z => lx_irr (lx_congr q (fun _ _ => rfl) z)⟩
  · rcases Nat.eq_zero_or_pos M with z | z
    · exact absurd q (h.1 z s hs)
    · have := ((h.2 (M - 1) (by omega)).2.2.2 s hs q).1
      exact ⟨by omega, fun e => by omega⟩
  · exact absurd q hl
theorem mid_keep {p g n m : Nat} {th : Nat → Nat → Nat} {d b t : Nat → Nat} (hp : 0 < p) (h : BefB p g th n d b (m + 1) t) (hM : Rn p g th n t ≤ m) : MidB p g th n d b m t := by
  obtain ⟨h1, h2, h3, h4⟩ := h.2 m rfl
  refine ⟨h1, h2, h3, fun s hs hl => ?_⟩
  rcases lx_tri s t p with q | q | q
  · exact ⟨by rw [Rn_congr hp q]; exact hM, fun _ z => h3 (lx_congr q (fun _ _ => rfl) z)⟩
  · exact h4 s hs q
  · exact absurd q hl
theorem best_all {p g n : Nat} {th : Nat → Nat → Nat} {d b t : Nat → Nat} (h : MidB p g th n d b n t) : IsBest p g th n d b n := by
  obtain ⟨h1, h2, h3, h4⟩ := h
  refine ⟨h1, h2, fun s hs => ⟨Rn_le, fun e z => ?_⟩⟩
  have hl : ¬ lx p t s := fun q => h3 (lx_trans q z)
  exact (h4 s hs hl).2 e z
theorem best_last {p g n m : Nat} {th : Nat → Nat → Nat} {d b t : Nat → Nat} (hPt : Pm p d t) (h : MidB p g th n d b m t) (ht : ∀ k, k + 1 < p → t (k + 1) ≤ t k) : IsBest p g th n d b m := by
  obtain ⟨h1, h2, h3, h4⟩ := h
  exact ⟨h1, h2, fun s hs => h4 s hs (none_max ht (hPt.sy.tr hs))⟩
theorem bef_next {p g n m : Nat} {th : Nat → Nat → Nat} {d b t u : Nat → Nat} (hPt : Pm p d t) (h : MidB p g th n d b m t) (hu : NextOf p t u) : BefB p g th n d b (m + 1) u := by
  obtain ⟨h1, h2, h3, h4⟩ := h
  refine ⟨fun q => absurd q (Nat.succ_ne_zero _), fun m' hm => ?_⟩
  have : m' = m := by omega
  subst this
  refine ⟨h1, h2, fun q => h3 (lx_trans (next_gt hu) q), fun s hs hl => h4 s hs (fun q => next_min hu (hPt.sy.tr hs) q hl)⟩
theorem nI_m1 {a : Nat} (ha : a < 2 ^ 31) : ¬ nI a ≤ -1 := by
  intro h
  rw [Int32.le_iff_toInt_le, nI_toInt ha] at h
  have : (-1 : Int32).toInt = -1 := by decide
  omega

theorem ThingsAt_fr {σ τ : Sg} {n g : Nat} {th : Nat → Nat → Nat} (h : ThingsAt σ n g th) (hf : ∀ i, i < 23 ∨ i = 25 → τ i = σ i) : ThingsAt τ n g th := by
  obtain ⟨h1, h2, h3, h4, h5⟩ := h
  refine ⟨by rw [hf 0 (by omega)]; exact h1, by rw [hf 0 (by omega)]; exact h2, h3, h4, fun x hx => ⟨fun f hx2 => by rw [hf (9 + x) (by omega)]; exact (h5 x hx).1 f hx2, (h5 x hx).2⟩⟩

set_option maxRecDepth 20000 in
theorem flX6_findBestRota_32 {s : State} {av : Array Value} (hts : ∀ w ∈ wsX6_findBestRota, w.before av s = true) : (Cond.fieldLink RX6 32 "WellBack" "rota" "LWellBack$Rota;").before av s = true := hts _ (by decide +kernel)
set_option maxRecDepth 20000 in
theorem flX6_findBestRota_36 {s : State} {av : Array Value} (hts : ∀ w ∈ wsX6_findBestRota, w.before av s = true) : (Cond.fieldLink RX6 36 "WellBack" "triedRota" "LWellBack$Rota;").before av s = true := hts _ (by decide +kernel)
set_option maxRecDepth 20000 in
theorem flX6_findBestRota_39 {s : State} {av : Array Value} (hts : ∀ w ∈ wsX6_findBestRota, w.before av s = true) : (Cond.fieldLink RX6 39 "WellBack" "bestRota" "LWellBack$Rota;").before av s = true := hts _ (by decide +kernel)
set_option maxRecDepth 20000 in
theorem flX6_findBestRota_90 {s : State} {av : Array Value} (hts : ∀ w ∈ wsX6_findBestRota, w.before av s = true) : (Cond.fieldLink RX6 90 "WellBack" "thingCount" "I").before av s = true := hts _ (by decide +kernel)
set_option maxRecDepth 20000 in
theorem inX6_findBestRota_X6 : ∀ w ∈ u_ws RX6 TX6 13, w ∈ wsX6_findBestRota := by decide +kernel
set_option maxHeartbeats 4000000 in
set_option maxRecDepth 100000 in
theorem k1_findBest (l : Launch) {D : va_G} {ca : Nat → ClassId} {ad : Nat → Nat} (hI : Ij ad 34) {σ : Sg} {n g : Nat} {th : Nat → Nat → Nat} {p : Nat} {d : Nat → Nat} (hT : ThingsAt σ n g th) (hR : RotaAt σ 22 p d) (hp0 : 0 < p) : C1i l D ca ad yX6_findBestRota wsX6_findBestRota { frames := 5, cells := 0, slots := 0, locals := 131 } [.ref (ad 0)] σ (fun r σ' => ∃ b m, r = nI m ∧ RotaAt σ' 24 p b ∧ IsBest p g th n d b m ∧ ∀ i, i < 23 ∨ i = 25 → σ' i = σ i) := by
  refine xk_entry cX6_findBestRota 4 (some .int) (by decide) rfl (Nat.le_of_ble_eq_true rfl) ?_
  intro pP eE sS mM below meth cC hx hb hml hr hts hown hlk hP hK hX hS ls hl
  have hl : lv_has ls 4 [(0, .ref (ad 0))] := hl
  have hn5 := hT.2.2.1
  have hg9 := hT.2.2.2.1
  have hT0 := hT
  have hp6 := hR.2.1
  refine lv_aload_n hx hb dX6_findBestRota_0 rfl (lv_at hl 0 rfl) ?_
  refine xk_get hx hb hts (inX6_findBestRota_X6) hown hK hP 0 (by omega) (ci := 6) e1_well rfl 4 (by decide) (flX6_findBestRota_36 hts) rfl (.ref (ad 23)) rfl dX6_findBestRota_1 ?_
  refine lv_aload_n hx hb dX6_findBestRota_4 rfl (lv_at hl 0 rfl) ?_
  refine xk_get hx hb hts (inX6_findBestRota_X6) hown hK hP 0 (by omega) (ci := 6) e1_well rfl 3 (by decide) (flX6_findBestRota_32 hts) rfl (.ref (ad 22)) rfl dX6_findBestRota_5 ?_
  refine xk_cv (va_runV (As := [.ref (ad 22)]) (rest := []) ⟨hx, hb, hml, hown, hts⟩ (k1_takeFrom l hI (q := 23) (o := 22) (d := d) (by omega) (by omega) (by omega) (by omega) (by omega) hR hp0) (cwV 1 hts gX6_findBestRota_X1_takeFrom rfl rfl rfl (by decide +kernel) ⟨Nat.le_of_ble_eq_true rfl, Nat.le_of_ble_eq_true rfl⟩) (xk_preV X1_ok hK hX hP (xk_recv hK hP 23 (by omega) (ci := 1) (e1_rota (by omega) (by omega)) rfl)) rfl rfl hl.1 rfl (lv_room (Nat.le_of_ble_eq_true rfl)) dX6_findBestRota_8 ⟨Nat.le_of_ble_eq_true rfl, Nat.le_of_ble_eq_true rfl⟩) hS (fun τ1 H locs hp hP hS => ?_)
  obtain ⟨hf1, hR1⟩ := hp
  refine lv_aload_n hx hb dX6_findBestRota_11 rfl (lv_at hl 0 rfl) ?_
  refine xk_get hx hb hts (inX6_findBestRota_X6) hown hK hP 0 (by omega) (ci := 6) e1_well rfl 4 (by decide) (flX6_findBestRota_36 hts) rfl (.ref (ad 23)) rfl dX6_findBestRota_12 ?_
  refine xk_cv (va_runV (As := []) (rest := []) ⟨hx, hb, hml, hown, hts⟩ (k1_sort l hI (q := 23) (d := d) (by omega) (by omega) hR1 hp0) (cwV 0 hts gX6_findBestRota_X1_sort rfl rfl rfl (by decide +kernel) ⟨Nat.le_of_ble_eq_true rfl, Nat.le_of_ble_eq_true rfl⟩) (xk_preV X1_ok hK hX hP (xk_recv hK hP 23 (by omega) (ci := 1) (e1_rota (by omega) (by omega)) rfl)) rfl rfl hl.1 rfl (lv_room (Nat.le_of_ble_eq_true rfl)) dX6_findBestRota_15 ⟨Nat.le_of_ble_eq_true rfl, Nat.le_of_ble_eq_true rfl⟩) hS (fun τ2 H locs hp hP hS => ?_)
  obtain ⟨hf2, t0, hR2, hP2, hs2⟩ := hp
  refine lv_iconst (v := (-1)) hx hb dX6_findBestRota_18 (by decide) ?_
  refine lv_istore_n (lv' := [(1, .int (-1)), (0, .ref (ad 0))]) hx hb dX6_findBestRota_19 rfl hl (by decide) rfl (fun ls hl => ?_)
  refine lv_iconst (v := nI 0) hx hb dX6_findBestRota_20 (by decide) ?_
  refine lv_istore_n (lv' := [(2, .int (nI 0)), (1, .int (-1)), (0, .ref (ad 0))]) hx hb dX6_findBestRota_21 rfl hl (by decide) rfl (fun ls hl => ?_)
  have LP_22 : ∀ (n_22 : Nat) (c : Nat) (M : Nat) (t : Nat → Nat) (b : Nat → Nat) (τ : Sg), (c ≤ 720) → (∀ i, i < 23 ∨ i = 25 → τ i = σ i) → (RotaAt τ 23 p t) → (Pm p d t) → (BefB p g th n d b M t) → (c ≤ rk t p 0) → (M ≠ 0 → RotaAt τ 24 p b) → (720 - c) < n_22 → ∀ (H : Heap) (locs : List Loc) (ls : Array Slot), va_P D vwCl (wl ad 34 (en1 ad ca τ)) H → va_S (AA ad 34) sS.heap H locs → lv_has ls 4 [(0, .ref (ad 0)), (1, .int (nI M - nI 1)), (2, .int (nI c))] → Wwi1 pP l eE { frames := 5, cells := 0, slots := 0, locals := 131 } sS mM [.ref (ad 0)] below meth cC D ca ad (fun r σ' => ∃ b m, r = nI m ∧ RotaAt σ' 24 p b ∧ IsBest p g th n d b m ∧ ∀ i, i < 23 ∨ i = 25 → σ' i = σ i) H locs (F0 mM 22 ls []) := by
    intro n_22
    induction n_22 with
    | zero =>
      intro c M t b τ hc hfr hRt hPt hB hrk hRb hn_22
      exact absurd hn_22 (Nat.not_lt_zero _)
    | succ n_22 ih_22 =>
      intro c M t b τ hc hfr hRt hPt hB hrk hRb hn_22 H locs ls hP hS hl
      have hT : ThingsAt τ n g th := ThingsAt_fr hT0 hfr
      have h720 := rank_720 hp6 t
      rcases Nat.eq_zero_or_pos M with h0 | h0
      · subst h0
        have hl : lv_has ls 4 [(0, .ref (ad 0)), (1, .int (-1)), (2, .int (nI c))] := hl
        refine lv_iload_n hx hb dX6_findBestRota_22 rfl (lv_at hl 2 rfl) ?_
        refine lv_sipush (v := nI 720) hx hb dX6_findBestRota_23 (by decide) ?_
        refine xn_ige (tgt := 83) hx hb dX6_findBestRota_26 (by decide) (by omega) (by omega) (fun c_26 => absurd c_26 (by omega)) (fun c_26 => ?_)
        refine lv_aload_n hx hb dX6_findBestRota_29 rfl (lv_at hl 0 rfl) ?_
        refine lv_aload_n hx hb dX6_findBestRota_30 rfl (lv_at hl 0 rfl) ?_
        refine xk_get hx hb hts (inX6_findBestRota_X6) hown hK hP 0 (by omega) (ci := 6) e1_well rfl 4 (by decide) (flX6_findBestRota_36 hts) rfl (.ref (ad 23)) rfl dX6_findBestRota_31 ?_
        have hRle : Rn p g th n t ≤ n := Rn_le
        refine xk_fi (va_runV (As := [.ref (ad 23)]) (rest := []) ⟨hx, hb, hml, hown, hts⟩ (k1_rightBy l hI (q := 23) (d := t) hT (by omega) (by omega) hRt hp0) (cwV 1 hts gX6_findBestRota_X6_rightOnesBy rfl rfl rfl (by decide +kernel) ⟨Nat.le_of_ble_eq_true rfl, Nat.le_of_ble_eq_true rfl⟩) (xk_preV X1_ok hK hX hP (xk_recv hK hP 0 (by omega) (ci := 6) e1_well rfl)) rfl rfl hl.1 rfl (lv_room (Nat.le_of_ble_eq_true rfl)) dX6_findBestRota_34 ⟨Nat.le_of_ble_eq_true rfl, Nat.le_of_ble_eq_true rfl⟩) hS (fun H locs hP hS => ?_)
        refine lv_istore_n (lv' := [(3, .int (nI (Rn p g th n t))), (0, .ref (ad 0)), (1, .int (-1)), (2, .int (nI c))]) hx hb dX6_findBestRota_37 rfl hl (by decide) rfl (fun ls hl => ?_)
        refine lv_iload_n hx hb dX6_findBestRota_38 rfl (lv_at hl 0 rfl) ?_
        refine lv_iload_n hx hb dX6_findBestRota_39 rfl (lv_at hl 2 rfl) ?_
        refine lv_icmp_le (tgt := 56) hx hb dX6_findBestRota_40 (by decide) (fun c_40 => absurd c_40 (nI_m1 (by omega))) (fun c_40 => ?_)
        refine lv_iload_n hx hb dX6_findBestRota_43 rfl (lv_at hl 0 rfl) ?_
        refine lv_istore_n (lv' := [(1, .int (nI (Rn p g th n t))), (3, .int (nI (Rn p g th n t))), (0, .ref (ad 0)), (2, .int (nI c))]) hx hb dX6_findBestRota_44 rfl hl (by decide) rfl (fun ls hl => ?_)
        refine lv_aload_n hx hb dX6_findBestRota_45 rfl (lv_at hl 2 rfl) ?_
        refine xk_get hx hb hts (inX6_findBestRota_X6) hown hK hP 0 (by omega) (ci := 6) e1_well rfl 5 (by decide) (flX6_findBestRota_39 hts) rfl (.ref (ad 24)) rfl dX6_findBestRota_46 ?_
        refine lv_aload_n hx hb dX6_findBestRota_49 rfl (lv_at hl 2 rfl) ?_
        refine xk_get hx hb hts (inX6_findBestRota_X6) hown hK hP 0 (by omega) (ci := 6) e1_well rfl 4 (by decide) (flX6_findBestRota_36 hts) rfl (.ref (ad 23)) rfl dX6_findBestRota_50 ?_
        refine xk_cv (va_runV (As := [.ref (ad 23)]) (rest := []) ⟨hx, hb, hml, hown, hts⟩ (k1_takeFrom l hI (q := 24) (o := 23) (d := t) (by omega) (by omega) (by omega) (by omega) (by omega) hRt hp0) (cwV 1 hts gX6_findBestRota_X1_takeFrom rfl rfl rfl (by decide +kernel) ⟨Nat.le_of_ble_eq_true rfl, Nat.le_of_ble_eq_true rfl⟩) (xk_preV X1_ok hK hX hP (xk_recv hK hP 24 (by omega) (ci := 1) (e1_rota (by omega) (by omega)) rfl)) rfl rfl hl.1 rfl (lv_room (Nat.le_of_ble_eq_true rfl)) dX6_findBestRota_53 ⟨Nat.le_of_ble_eq_true rfl, Nat.le_of_ble_eq_true rfl⟩) hS (fun τ3 H locs hp hP hS => ?_)
        obtain ⟨hf3, hR3⟩ := hp
        have hmid := mid_new hp0 hPt hB (by omega)
        have hfr3 : ∀ i, i < 23 ∨ i = 25 → τ3 i = σ i := fun i hi => by rw [hf3 i (by omega) (by omega)]; exact hfr i hi
        have hRt3 : RotaAt τ3 23 p t := RotaAt_fr hRt (hf3 _ (by omega) (by omega)) (hf3 _ (by omega) (by omega))
        have hRb3 := hR3
        have hT3 : ThingsAt τ3 n g th := ThingsAt_fr hT0 hfr3
        refine lv_iload_n hx hb dX6_findBestRota_56 rfl (lv_at hl 0 rfl) ?_
        refine lv_aload_n hx hb dX6_findBestRota_57 rfl (lv_at hl 2 rfl) ?_
        refine xk_get hx hb hts (inX6_findBestRota_X6) hown hK hP 0 (by omega) (ci := 6) e1_well rfl 9 (by decide) (flX6_findBestRota_90 hts) rfl (.int (τ3 0 9)) rfl dX6_findBestRota_58 ?_
        refine xn_eqi (y := nI n) hT3.2.1 ?_
        refine xn_ieq (tgt := 83) hx hb dX6_findBestRota_61 (by decide) (by omega) (by omega) (fun c_61 => ?_) (fun c_61 => ?_)
        · refine lv_iload_n hx hb dX6_findBestRota_83 rfl (lv_at hl 0 rfl) ?_
          exact xk_iret hx hb hr (vp_nar_int _) X1_ok hK hX hP hS hlk dX6_findBestRota_84 (⟨_, _, rfl, hRb3, by have h := hmid; rw [c_61] at h; rw [c_61]; exact best_all h, hfr3⟩)
        · refine lv_aload_n hx hb dX6_findBestRota_64 rfl (lv_at hl 2 rfl) ?_
          refine xk_get hx hb hts (inX6_findBestRota_X6) hown hK hP 0 (by omega) (ci := 6) e1_well rfl 4 (by decide) (flX6_findBestRota_36 hts) rfl (.ref (ad 23)) rfl dX6_findBestRota_65 ?_
          refine xk_ci (va_runV (As := []) (rest := []) ⟨hx, hb, hml, hown, hts⟩ (k1_next l hI (q := 23) (d := t) (by omega) (by omega) hRt3 hp0) (cwV 0 hts gX6_findBestRota_X1_goToNextOrder rfl rfl rfl (by decide +kernel) ⟨Nat.le_of_ble_eq_true rfl, Nat.le_of_ble_eq_true rfl⟩) (xk_preV X1_ok hK hX hP (xk_recv hK hP 23 (by omega) (ci := 1) (e1_rota (by omega) (by omega)) rfl)) rfl rfl hl.1 rfl (lv_room (Nat.le_of_ble_eq_true rfl)) dX6_findBestRota_68 ⟨Nat.le_of_ble_eq_true rfl, Nat.le_of_ble_eq_true rfl⟩) hS (fun r4 τ4 H locs hp hP hS => ?_)
          obtain ⟨hf4, hq4⟩ := hp
          have hRb4 := RotaAt_fr (τ := τ4) hRb3 (hf4 _ (by omega)) (hf4 _ (by omega))
          rcases hq4 with ⟨rfl, hR4, hno⟩ | ⟨rfl, u, hR4, hN4⟩
          · refine xn_zne (tgt := 77) hx hb dX6_findBestRota_71 (by decide) (by omega) (fun c_71 => absurd c_71 (by omega)) (fun c_71 => ?_)
            refine lv_goto (tgt := 83) hx hb dX6_findBestRota_74 (by decide) ?_
            refine lv_iload_n hx hb dX6_findBestRota_83 rfl (lv_at hl 0 rfl) ?_
            exact xk_iret hx hb hr (vp_nar_int _) X1_ok hK hX hP hS hlk dX6_findBestRota_84 (⟨_, _, rfl, hRb4, best_last hPt hmid hno, fun i hi => by rw [hf4 i (by omega)]; exact hfr3 i hi⟩)
          · have hPu : Pm p d u := by obtain ⟨_, _, _, _, _, _, _, _, _, _, hq⟩ := hN4; exact hPt.tr hq
            refine xn_zne (tgt := 77) hx hb dX6_findBestRota_71 (by decide) (by omega) (fun c_71 => ?_) (fun c_71 => absurd c_71 (by omega))
            refine lv_iinc (v := nI (c + 1)) (lv' := [(2, .int (nI (c + 1))), (1, .int (nI (Rn p g th n t))), (3, .int (nI (Rn p g th n t))), (0, .ref (ad 0))]) hx hb dX6_findBestRota_77 hl (k := 3) rfl (xn_inc _ 1) (by decide) rfl (fun ls hl => ?_)
            refine lv_goto (tgt := 22) hx hb dX6_findBestRota_80 (by decide) ?_
            rw [show nI (Rn p g th n t) = nI ((Rn p g th n t) + 1) - nI 1 from (nI_pred (Rn p g th n t)).symm] at hl
            exact ih_22 (c + 1) ((Rn p g th n t) + 1) u t τ4 (by omega) (fun i hi => by rw [hf4 i (by omega)]; exact hfr3 i hi) hR4 hPu (bef_next hPt hmid hN4) (by have := rank_lt (hPt.sy.tr hPu) (next_gt hN4); omega) (fun _ => hRb4) (by omega) _ _ _ hP hS (lv_sub hl [3, 1, 0] rfl)
      · obtain ⟨m, rfl⟩ : ∃ m, M = m + 1 := ⟨M - 1, by omega⟩
        have hbm := (hB.2 m rfl).2.1
        have hbl : Rn p g th n b ≤ n := Rn_le
        rw [pk_sub (by omega), Nat.add_sub_cancel] at hl
        refine lv_iload_n hx hb dX6_findBestRota_22 rfl (lv_at hl 2 rfl) ?_
        refine lv_sipush (v := nI 720) hx hb dX6_findBestRota_23 (by decide) ?_
        refine xn_ige (tgt := 83) hx hb dX6_findBestRota_26 (by decide) (by omega) (by omega) (fun c_26 => absurd c_26 (by omega)) (fun c_26 => ?_)
        refine lv_aload_n hx hb dX6_findBestRota_29 rfl (lv_at hl 0 rfl) ?_
        refine lv_aload_n hx hb dX6_findBestRota_30 rfl (lv_at hl 0 rfl) ?_
        refine xk_get hx hb hts (inX6_findBestRota_X6) hown hK hP 0 (by omega) (ci := 6) e1_well rfl 4 (by decide) (flX6_findBestRota_36 hts) rfl (.ref (ad 23)) rfl dX6_findBestRota_31 ?_
        have hRle : Rn p g th n t ≤ n := Rn_le
        refine xk_fi (va_runV (As := [.ref (ad 23)]) (rest := []) ⟨hx, hb, hml, hown, hts⟩ (k1_rightBy l hI (q := 23) (d := t) hT (by omega) (by omega) hRt hp0) (cwV 1 hts gX6_findBestRota_X6_rightOnesBy rfl rfl rfl (by decide +kernel) ⟨Nat.le_of_ble_eq_true rfl, Nat.le_of_ble_eq_true rfl⟩) (xk_preV X1_ok hK hX hP (xk_recv hK hP 0 (by omega) (ci := 6) e1_well rfl)) rfl rfl hl.1 rfl (lv_room (Nat.le_of_ble_eq_true rfl)) dX6_findBestRota_34 ⟨Nat.le_of_ble_eq_true rfl, Nat.le_of_ble_eq_true rfl⟩) hS (fun H locs hP hS => ?_)
        refine lv_istore_n (lv' := [(3, .int (nI (Rn p g th n t))), (0, .ref (ad 0)), (1, .int (nI m)), (2, .int (nI c))]) hx hb dX6_findBestRota_37 rfl hl (by decide) rfl (fun ls hl => ?_)
        refine lv_iload_n hx hb dX6_findBestRota_38 rfl (lv_at hl 0 rfl) ?_
        refine lv_iload_n hx hb dX6_findBestRota_39 rfl (lv_at hl 2 rfl) ?_
        refine xn_ile (tgt := 56) hx hb dX6_findBestRota_40 (by decide) (by omega) (by omega) (fun c_40 => ?_) (fun c_40 => ?_)
        · have hmid := mid_keep hp0 hB c_40
          have hfr3 := hfr
          have hRt3 := hRt
          have hRb3 := hRb (by omega)
          have hT3 : ThingsAt τ n g th := ThingsAt_fr hT0 hfr3
          refine lv_iload_n hx hb dX6_findBestRota_56 rfl (lv_at hl 2 rfl) ?_
          refine lv_aload_n hx hb dX6_findBestRota_57 rfl (lv_at hl 1 rfl) ?_
          refine xk_get hx hb hts (inX6_findBestRota_X6) hown hK hP 0 (by omega) (ci := 6) e1_well rfl 9 (by decide) (flX6_findBestRota_90 hts) rfl (.int (τ 0 9)) rfl dX6_findBestRota_58 ?_
          refine xn_eqi (y := nI n) hT3.2.1 ?_
          refine xn_ieq (tgt := 83) hx hb dX6_findBestRota_61 (by decide) (by omega) (by omega) (fun c_61 => ?_) (fun c_61 => ?_)
          · refine lv_iload_n hx hb dX6_findBestRota_83 rfl (lv_at hl 2 rfl) ?_
            exact xk_iret hx hb hr (vp_nar_int _) X1_ok hK hX hP hS hlk dX6_findBestRota_84 (⟨_, _, rfl, hRb3, by have h := hmid; rw [c_61] at h; rw [c_61]; exact best_all h, hfr3⟩)
          · refine lv_aload_n hx hb dX6_findBestRota_64 rfl (lv_at hl 1 rfl) ?_
            refine xk_get hx hb hts (inX6_findBestRota_X6) hown hK hP 0 (by omega) (ci := 6) e1_well rfl 4 (by decide) (flX6_findBestRota_36 hts) rfl (.ref (ad 23)) rfl dX6_findBestRota_65 ?_
            refine xk_ci (va_runV (As := []) (rest := []) ⟨hx, hb, hml, hown, hts⟩ (k1_next l hI (q := 23) (d := t) (by omega) (by omega) hRt3 hp0) (cwV 0 hts gX6_findBestRota_X1_goToNextOrder rfl rfl rfl (by decide +kernel) ⟨Nat.le_of_ble_eq_true rfl, Nat.le_of_ble_eq_true rfl⟩) (xk_preV X1_ok hK hX hP (xk_recv hK hP 23 (by omega) (ci := 1) (e1_rota (by omega) (by omega)) rfl)) rfl rfl hl.1 rfl (lv_room (Nat.le_of_ble_eq_true rfl)) dX6_findBestRota_68 ⟨Nat.le_of_ble_eq_true rfl, Nat.le_of_ble_eq_true rfl⟩) hS (fun r4 τ4 H locs hp hP hS => ?_)
            obtain ⟨hf4, hq4⟩ := hp
            have hRb4 := RotaAt_fr (τ := τ4) hRb3 (hf4 _ (by omega)) (hf4 _ (by omega))
            rcases hq4 with ⟨rfl, hR4, hno⟩ | ⟨rfl, u, hR4, hN4⟩
            · refine xn_zne (tgt := 77) hx hb dX6_findBestRota_71 (by decide) (by omega) (fun c_71 => absurd c_71 (by omega)) (fun c_71 => ?_)
              refine lv_goto (tgt := 83) hx hb dX6_findBestRota_74 (by decide) ?_
              refine lv_iload_n hx hb dX6_findBestRota_83 rfl (lv_at hl 2 rfl) ?_
              exact xk_iret hx hb hr (vp_nar_int _) X1_ok hK hX hP hS hlk dX6_findBestRota_84 (⟨_, _, rfl, hRb4, best_last hPt hmid hno, fun i hi => by rw [hf4 i (by omega)]; exact hfr3 i hi⟩)
            · have hPu : Pm p d u := by obtain ⟨_, _, _, _, _, _, _, _, _, _, hq⟩ := hN4; exact hPt.tr hq
              refine xn_zne (tgt := 77) hx hb dX6_findBestRota_71 (by decide) (by omega) (fun c_71 => ?_) (fun c_71 => absurd c_71 (by omega))
              refine lv_iinc (v := nI (c + 1)) (lv' := [(2, .int (nI (c + 1))), (3, .int (nI (Rn p g th n t))), (0, .ref (ad 0)), (1, .int (nI m))]) hx hb dX6_findBestRota_77 hl (k := 3) rfl (xn_inc _ 1) (by decide) rfl (fun ls hl => ?_)
              refine lv_goto (tgt := 22) hx hb dX6_findBestRota_80 (by decide) ?_
              rw [show nI (m) = nI (m + 1) - nI 1 from (nI_pred (m)).symm] at hl
              exact ih_22 (c + 1) (m + 1) u b τ4 (by omega) (fun i hi => by rw [hf4 i (by omega)]; exact hfr3 i hi) hR4 hPu (bef_next hPt hmid hN4) (by have := rank_lt (hPt.sy.tr hPu) (next_gt hN4); omega) (fun _ => hRb4) (by omega) _ _ _ hP hS (lv_sub hl [2, 3, 0] rfl)
        · refine lv_iload_n hx hb dX6_findBestRota_43 rfl (lv_at hl 0 rfl) ?_
          refine lv_istore_n (lv' := [(1, .int (nI (Rn p g th n t))), (3, .int (nI (Rn p g th n t))), (0, .ref (ad 0)), (2, .int (nI c))]) hx hb dX6_findBestRota_44 rfl hl (by decide) rfl (fun ls hl => ?_)
          refine lv_aload_n hx hb dX6_findBestRota_45 rfl (lv_at hl 2 rfl) ?_
          refine xk_get hx hb hts (inX6_findBestRota_X6) hown hK hP 0 (by omega) (ci := 6) e1_well rfl 5 (by decide) (flX6_findBestRota_39 hts) rfl (.ref (ad 24)) rfl dX6_findBestRota_46 ?_
          refine lv_aload_n hx hb dX6_findBestRota_49 rfl (lv_at hl 2 rfl) ?_
          refine xk_get hx hb hts (inX6_findBestRota_X6) hown hK hP 0 (by omega) (ci := 6) e1_well rfl 4 (by decide) (flX6_findBestRota_36 hts) rfl (.ref (ad 23)) rfl dX6_findBestRota_50 ?_
          refine xk_cv (va_runV (As := [.ref (ad 23)]) (rest := []) ⟨hx, hb, hml, hown, hts⟩ (k1_takeFrom l hI (q := 24) (o := 23) (d := t) (by omega) (by omega) (by omega) (by omega) (by omega) hRt hp0) (cwV 1 hts gX6_findBestRota_X1_takeFrom rfl rfl rfl (by decide +kernel) ⟨Nat.le_of_ble_eq_true rfl, Nat.le_of_ble_eq_true rfl⟩) (xk_preV X1_ok hK hX hP (xk_recv hK hP 24 (by omega) (ci := 1) (e1_rota (by omega) (by omega)) rfl)) rfl rfl hl.1 rfl (lv_room (Nat.le_of_ble_eq_true rfl)) dX6_findBestRota_53 ⟨Nat.le_of_ble_eq_true rfl, Nat.le_of_ble_eq_true rfl⟩) hS (fun τ3 H locs hp hP hS => ?_)
          obtain ⟨hf3, hR3⟩ := hp
          have hmid := mid_new hp0 hPt hB (by omega)
          have hfr3 : ∀ i, i < 23 ∨ i = 25 → τ3 i = σ i := fun i hi => by rw [hf3 i (by omega) (by omega)]; exact hfr i hi
          have hRt3 : RotaAt τ3 23 p t := RotaAt_fr hRt (hf3 _ (by omega) (by omega)) (hf3 _ (by omega) (by omega))
          have hRb3 := hR3
          have hT3 : ThingsAt τ3 n g th := ThingsAt_fr hT0 hfr3
          refine lv_iload_n hx hb dX6_findBestRota_56 rfl (lv_at hl 0 rfl) ?_
          refine lv_aload_n hx hb dX6_findBestRota_57 rfl (lv_at hl 2 rfl) ?_
          refine xk_get hx hb hts (inX6_findBestRota_X6) hown hK hP 0 (by omega) (ci := 6) e1_well rfl 9 (by decide) (flX6_findBestRota_90 hts) rfl (.int (τ3 0 9)) rfl dX6_findBestRota_58 ?_
          refine xn_eqi (y := nI n) hT3.2.1 ?_
          refine xn_ieq (tgt := 83) hx hb dX6_findBestRota_61 (by decide) (by omega) (by omega) (fun c_61 => ?_) (fun c_61 => ?_)
          · refine lv_iload_n hx hb dX6_findBestRota_83 rfl (lv_at hl 0 rfl) ?_
            exact xk_iret hx hb hr (vp_nar_int _) X1_ok hK hX hP hS hlk dX6_findBestRota_84 (⟨_, _, rfl, hRb3, by have h := hmid; rw [c_61] at h; rw [c_61]; exact best_all h, hfr3⟩)
          · refine lv_aload_n hx hb dX6_findBestRota_64 rfl (lv_at hl 2 rfl) ?_
            refine xk_get hx hb hts (inX6_findBestRota_X6) hown hK hP 0 (by omega) (ci := 6) e1_well rfl 4 (by decide) (flX6_findBestRota_36 hts) rfl (.ref (ad 23)) rfl dX6_findBestRota_65 ?_
            refine xk_ci (va_runV (As := []) (rest := []) ⟨hx, hb, hml, hown, hts⟩ (k1_next l hI (q := 23) (d := t) (by omega) (by omega) hRt3 hp0) (cwV 0 hts gX6_findBestRota_X1_goToNextOrder rfl rfl rfl (by decide +kernel) ⟨Nat.le_of_ble_eq_true rfl, Nat.le_of_ble_eq_true rfl⟩) (xk_preV X1_ok hK hX hP (xk_recv hK hP 23 (by omega) (ci := 1) (e1_rota (by omega) (by omega)) rfl)) rfl rfl hl.1 rfl (lv_room (Nat.le_of_ble_eq_true rfl)) dX6_findBestRota_68 ⟨Nat.le_of_ble_eq_true rfl, Nat.le_of_ble_eq_true rfl⟩) hS (fun r4 τ4 H locs hp hP hS => ?_)
            obtain ⟨hf4, hq4⟩ := hp
            have hRb4 := RotaAt_fr (τ := τ4) hRb3 (hf4 _ (by omega)) (hf4 _ (by omega))
            rcases hq4 with ⟨rfl, hR4, hno⟩ | ⟨rfl, u, hR4, hN4⟩
            · refine xn_zne (tgt := 77) hx hb dX6_findBestRota_71 (by decide) (by omega) (fun c_71 => absurd c_71 (by omega)) (fun c_71 => ?_)
              refine lv_goto (tgt := 83) hx hb dX6_findBestRota_74 (by decide) ?_
              refine lv_iload_n hx hb dX6_findBestRota_83 rfl (lv_at hl 0 rfl) ?_
              exact xk_iret hx hb hr (vp_nar_int _) X1_ok hK hX hP hS hlk dX6_findBestRota_84 (⟨_, _, rfl, hRb4, best_last hPt hmid hno, fun i hi => by rw [hf4 i (by omega)]; exact hfr3 i hi⟩)
            · have hPu : Pm p d u := by obtain ⟨_, _, _, _, _, _, _, _, _, _, hq⟩ := hN4; exact hPt.tr hq
              refine xn_zne (tgt := 77) hx hb dX6_findBestRota_71 (by decide) (by omega) (fun c_71 => ?_) (fun c_71 => absurd c_71 (by omega))
              refine lv_iinc (v := nI (c + 1)) (lv' := [(2, .int (nI (c + 1))), (1, .int (nI (Rn p g th n t))), (3, .int (nI (Rn p g th n t))), (0, .ref (ad 0))]) hx hb dX6_findBestRota_77 hl (k := 3) rfl (xn_inc _ 1) (by decide) rfl (fun ls hl => ?_)
              refine lv_goto (tgt := 22) hx hb dX6_findBestRota_80 (by decide) ?_
              rw [show nI (Rn p g th n t) = nI ((Rn p g th n t) + 1) - nI 1 from (nI_pred (Rn p g th n t)).symm] at hl
              exact ih_22 (c + 1) ((Rn p g th n t) + 1) u t τ4 (by omega) (fun i hi => by rw [hf4 i (by omega)]; exact hfr3 i hi) hR4 hPu (bef_next hPt hmid hN4) (by have := rank_lt (hPt.sy.tr hPu) (next_gt hN4); omega) (fun _ => hRb4) (by omega) _ _ _ hP hS (lv_sub hl [3, 1, 0] rfl)
  exact LP_22 _ 0 0 t0 d τ2 (by omega) (fun i hi => by rw [hf2 i (by omega), hf1 i (by omega) (by omega)]) hR2 hP2 (⟨fun _ s hs => sort_min hs2 (hP2.sy.tr hs), fun m h => absurd h (by omega)⟩) (Nat.zero_le _) (fun h => absurd rfl h) (Nat.lt_succ_self _) _ _ _ hP hS (lv_sub hl [2, 1, 0] rfl)
