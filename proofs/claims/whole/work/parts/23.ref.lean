/-! the reference: findBest, hours told -/
def FrB (σ τ : Sg) : Prop := (∀ j, j ≠ 20 → j ≠ 21 → j ≠ 22 → τ 0 j = σ 0 j) ∧ ∀ i, i ≠ 0 → i ≠ 4 → i ≠ 13 → i ≠ 14 → τ i = σ i
theorem FrB.rf {σ : Sg} : FrB σ σ := ⟨fun _ _ _ _ => rfl, fun _ _ _ _ _ => rfl⟩
theorem FrB.tr {σ τ ρ : Sg} (h : FrB σ τ) (h2 : FrB τ ρ) : FrB σ ρ := ⟨fun j a b c => (h2.1 j a b c).trans (h.1 j a b c), fun i a b c e => (h2.2 i a b c e).trans (h.2 i a b c e)⟩
theorem FrF.B {σ τ : Sg} (h : FrF σ τ) : FrB σ τ := ⟨h.1, fun i a _ _ _ => h.2 i a⟩
theorem FrB_up {σ : Sg} {q k : Nat} {v : Int32} (hq : q = 4 ∨ q = 13 ∨ q = 14) : FrB σ (up σ q k v) := ⟨fun j _ _ _ => up_n (by omega), fun i _ _ _ _ => up_r (by omega)⟩
theorem ThM_B {σ τ : Sg} {n g : Nat} {th : Nat → Nat → Nat} (h : ThM σ n g th) (hf : FrB σ τ) : ThM τ n g th := by
  obtain ⟨h1, h2, h3, h4, h5⟩ := h
  exact ⟨(hf.1 5 (by omega) (by omega) (by omega)).trans h1, (hf.1 7 (by omega) (by omega) (by omega)).trans h2, h3, h4, fun x hx => ⟨fun f hf2 => by rw [hf.2 (5 + f) (by omega) (by omega) (by omega) (by omega)]; exact (h5 x hx).1 f hf2, (h5 x hx).2⟩⟩
theorem I2_b {n p g rn : Nat} {d : Nat → Nat} {th rd : Nat → Nat → Nat} {sl sn : Nat → Nat} {sc : Nat → Nat → Int32} {ft tr : Int32} {σ τ : Sg} (h : I2 n p g rn d th rd sl sn sc ft tr σ) (hf : FrB σ τ) (hR : RotaM τ p d) : I2 n p g rn d th rd sl sn sc ft tr τ := by
  obtain ⟨hT, _, hRd, hSh, hnp, hft, htr⟩ := h
  exact ⟨ThM_B hT hf, hR, ⟨(hf.1 26 (by omega) (by omega) (by omega)).trans hRd.1, hRd.2.1, fun k hk => by rw [hf.2 15 (by omega) (by omega) (by omega) (by omega), hf.2 16 (by omega) (by omega) (by omega) (by omega), hf.2 17 (by omega) (by omega) (by omega) (by omega)]; exact hRd.2.2 k hk⟩, fun k hk => ShM_fr (hSh k hk) (hf.2 _ (by omega) (by omega) (by omega) (by omega)) (hf.2 _ (by omega) (by omega) (by omega) (by omega)) (hf.2 _ (by omega) (by omega) (by omega) (by omega)), hnp, (hf.1 0 (by omega) (by omega) (by omega)).trans hft, (hf.1 1 (by omega) (by omega) (by omega)).trans htr⟩
theorem p5_le {k : Nat} (h : k ≤ 6) : 5 ^ k ≤ 15625 := Nat.pow_le_pow_right (n := 5) (by decide) h
theorem dg5_s {p N r : Nat} (h : r + 1 ≤ p) : N / 5 ^ (p - (r + 1)) / 5 = N / 5 ^ (p - r) := by
  rw [show p - r = (p - (r + 1)) + 1 by omega, Nat.pow_succ, Nat.div_div_eq_div_mul]

set_option maxRecDepth 20000 in
theorem flX7_findBest_19 {s : State} {av : Array Value} (hts : ∀ w ∈ wsX7_findBest, w.before av s = true) : (Cond.fieldLink RX7 19 "WellBackModel" "rota" "[I").before av s = true := hts _ (by decide +kernel)
set_option maxRecDepth 20000 in
theorem flX7_findBest_46 {s : State} {av : Array Value} (hts : ∀ w ∈ wsX7_findBest, w.before av s = true) : (Cond.fieldLink RX7 46 "WellBackModel" "kept" "[I").before av s = true := hts _ (by decide +kernel)
set_option maxRecDepth 20000 in
theorem flX7_findBest_49 {s : State} {av : Array Value} (hts : ∀ w ∈ wsX7_findBest, w.before av s = true) : (Cond.fieldLink RX7 49 "WellBackModel" "found" "[I").before av s = true := hts _ (by decide +kernel)
set_option maxRecDepth 20000 in
theorem flX7_findBest_107 {s : State} {av : Array Value} (hts : ∀ w ∈ wsX7_findBest, w.before av s = true) : (Cond.fieldLink RX7 107 "WellBackModel" "places" "I").before av s = true := hts _ (by decide +kernel)
set_option maxRecDepth 20000 in
theorem inX7_findBest_X7 : ∀ w ∈ u_ws RX7 TX7 30, w ∈ wsX7_findBest := by decide +kernel
set_option maxHeartbeats 4000000 in
set_option maxRecDepth 100000 in
theorem k2_findBest (l : Launch) {D : va_G} {ca : Nat → ClassId} {ad : Nat → Nat} (hI : Ij ad 18) {σ : Sg} {n g : Nat} {th : Nat → Nat → Nat} {p : Nat} {d : Nat → Nat} (hT : ThM σ n g th) (hR : RotaM σ p d) (hp0 : 0 < p) : C2i l D ca ad yX7_findBest wsX7_findBest { frames := 4, cells := 0, slots := 0, locals := 92 } [.ref (ad 0)] σ (fun r σ' => ∃ b m, r = nI m ∧ IsBest p g th n d b m ∧ (∀ j, j < p → σ' 14 j = nI (b j)) ∧ RotaM σ' p d ∧ FrB σ σ') := by
  refine xk_entry cX7_findBest 7 (some .int) (by decide) rfl (Nat.le_of_ble_eq_true rfl) ?_
  intro pP eE sS mM below meth cC hx hb hml hr hts hown hlk hP hK hX hS ls hl
  have hl : lv_has ls 7 [(0, .ref (ad 0))] := hl
  have hn5 := hT.2.2.1
  have hg9 := hT.2.2.2.1
  have hp6 := hR.2.1
  have hd5 : ∀ k, k < p → d k < 5 := fun k hk => (hR.2.2 k hk).2
  have hlen : True := trivial
  refine lv_iconst (v := nI 1) hx hb dX7_findBest_0 (by decide) ?_
  refine lv_istore_n (lv' := [(1, .int (nI 1)), (0, .ref (ad 0))]) hx hb dX7_findBest_1 rfl hl (by decide) rfl (fun ls hl => ?_)
  refine lv_iconst (v := nI 0) hx hb dX7_findBest_2 (by decide) ?_
  refine lv_istore_n (lv' := [(2, .int (nI 0)), (1, .int (nI 1)), (0, .ref (ad 0))]) hx hb dX7_findBest_3 rfl hl (by decide) rfl (fun ls hl => ?_)
  have LP_4 : ∀ (n_4 : Nat) (k : Nat) (τ : Sg), (k ≤ p) → (∀ i, i ≠ 13 → τ i = σ i) → (∀ j, j < k → τ 13 j = nI (d j)) → (p - k) < n_4 → ∀ (H : Heap) (locs : List Loc) (ls : Array Slot), va_P D vwCl (wl ad 18 (en2 ad ca τ)) H → va_S (AA ad 18) sS.heap H locs → lv_has ls 7 [(0, .ref (ad 0)), (1, .int (nI (5 ^ k))), (2, .int (nI k))] → Wwi2 pP l eE { frames := 4, cells := 0, slots := 0, locals := 92 } sS mM [.ref (ad 0)] below meth cC D ca ad (fun r σ' => ∃ b m, r = nI m ∧ IsBest p g th n d b m ∧ (∀ j, j < p → σ' 14 j = nI (b j)) ∧ RotaM σ' p d ∧ FrB σ σ') H locs (F0 mM 4 ls []) := by
    intro n_4
    induction n_4 with
    | zero =>
      intro k τ hk hf13 hk13 hn_4
      exact absurd hn_4 (Nat.not_lt_zero _)
    | succ n_4 ih_4 =>
      intro k τ hk hf13 hk13 hn_4 H locs ls hP hS hl
      refine lv_iload_n hx hb dX7_findBest_4 rfl (lv_at hl 2 rfl) ?_
      refine lv_aload_n hx hb dX7_findBest_5 rfl (lv_at hl 0 rfl) ?_
      refine xk_get hx hb hts (inX7_findBest_X7) hown hK hP 0 (by omega) (ci := 7) e2_obj rfl 6 (by decide) (flX7_findBest_107 hts) rfl (.int (τ 0 6)) rfl dX7_findBest_6 ?_
      refine xn_eqi (y := nI p) (by rw [hf13 0 (by omega)]; exact hR.1) ?_
      refine xn_ige (tgt := 34) hx hb dX7_findBest_9 (by decide) (by omega) (by omega) (fun c_9 => ?_) (fun c_9 => ?_)
      · have hkp : k = p := by omega
        rw [hkp] at hl
        have h13 : ∀ j, j < p → τ 13 j = nI (d j) := fun j hj => hk13 j (by omega)
        have hB0 : FrB σ τ := ⟨fun j _ _ _ => by rw [hf13 0 (by omega)], fun i _ _ h _ => hf13 i h⟩
        have h6p : 5 ^ p ≤ 15625 := p5_le hp6
        have hlen0 := hf13 0 (by omega)
        refine lv_bipush (v := (-9)) hx hb dX7_findBest_34 (by decide) ?_
        refine xn_eqi (y := mz 0) rfl ?_
        refine lv_istore_n (lv' := [(2, .int (mz 0)), (0, .ref (ad 0)), (1, .int (nI (5 ^ p)))]) hx hb dX7_findBest_36 rfl hl (by decide) rfl (fun ls hl => ?_)
        refine lv_iconst (v := nI 0) hx hb dX7_findBest_37 (by decide) ?_
        refine lv_istore_n (lv' := [(3, .int (nI 0)), (2, .int (mz 0)), (0, .ref (ad 0)), (1, .int (nI (5 ^ p)))]) hx hb dX7_findBest_38 rfl hl (by decide) rfl (fun ls hl => ?_)
        have LP_39 : ∀ (n_39 : Nat) (N : Nat) (M : Nat) (b : Nat → Nat) (τ2 : Sg), (N ≤ 5 ^ p) → (FrB σ τ2) → (∀ j, j < p → τ2 13 j = nI (d j)) → (BefN p g th n d b M N) → (M ≤ 100) → (M ≠ 0 → ∀ j, j < p → τ2 14 j = nI (b j)) → (5 ^ p - N) < n_39 → ∀ (H : Heap) (locs : List Loc) (ls : Array Slot), va_P D vwCl (wl ad 18 (en2 ad ca τ2)) H → va_S (AA ad 18) sS.heap H locs → lv_has ls 7 [(0, .ref (ad 0)), (1, .int (nI (5 ^ p))), (2, .int (mz M)), (3, .int (nI N))] → Wwi2 pP l eE { frames := 4, cells := 0, slots := 0, locals := 92 } sS mM [.ref (ad 0)] below meth cC D ca ad (fun r σ' => ∃ b m, r = nI m ∧ IsBest p g th n d b m ∧ (∀ j, j < p → σ' 14 j = nI (b j)) ∧ RotaM σ' p d ∧ FrB σ σ') H locs (F0 mM 39 ls []) := by
          intro n_39
          induction n_39 with
          | zero =>
            intro N M b τ2 hN hB h13 hbn hM h14 hn_39
            exact absurd hn_39 (Nat.not_lt_zero _)
          | succ n_39 ih_39 =>
            intro N M b τ2 hN hB h13 hbn hM h14 hn_39 H locs ls hP hS hl
            have h6p : 5 ^ p ≤ 15625 := p5_le hp6
            refine lv_iload_n hx hb dX7_findBest_39 rfl (lv_at hl 3 rfl) ?_
            refine lv_iload_n hx hb dX7_findBest_40 rfl (lv_at hl 1 rfl) ?_
            refine xn_ige (tgt := 148) hx hb dX7_findBest_41 (by decide) (by omega) (by omega) (fun c_41 => ?_) (fun c_41 => ?_)
            · have hNp : N = 5 ^ p := by omega
              rw [hNp] at hbn
              obtain ⟨hM0, hbest⟩ := bn_end hd5 hbn
              refine lv_iconst (v := nI 0) hx hb dX7_findBest_148 (by decide) ?_
              refine lv_istore_n (lv' := [(3, .int (nI 0)), (0, .ref (ad 0)), (1, .int (nI (5 ^ p))), (2, .int (mz M))]) hx hb dX7_findBest_149 rfl hl (by decide) rfl (fun ls hl => ?_)
              have LP_150 : ∀ (n_150 : Nat) (k : Nat) (τ6 : Sg), (k ≤ p) → (FrB σ τ6) → (∀ j, j < p → τ6 13 j = nI (d j)) → (∀ j, j < p → τ6 14 j = nI (b j)) → (∀ j, j < k → τ6 4 j = nI (d j)) → (p - k) < n_150 → ∀ (H : Heap) (locs : List Loc) (ls : Array Slot), va_P D vwCl (wl ad 18 (en2 ad ca τ6)) H → va_S (AA ad 18) sS.heap H locs → lv_has ls 7 [(0, .ref (ad 0)), (2, .int (mz M)), (3, .int (nI k))] → Wwi2 pP l eE { frames := 4, cells := 0, slots := 0, locals := 92 } sS mM [.ref (ad 0)] below meth cC D ca ad (fun r σ' => ∃ b m, r = nI m ∧ IsBest p g th n d b m ∧ (∀ j, j < p → σ' 14 j = nI (b j)) ∧ RotaM σ' p d ∧ FrB σ σ') H locs (F0 mM 150 ls []) := by
                intro n_150
                induction n_150 with
                | zero =>
                  intro k τ6 hk hBe h13e h14e h4e hn_150
                  exact absurd hn_150 (Nat.not_lt_zero _)
                | succ n_150 ih_150 =>
                  intro k τ6 hk hBe h13e h14e h4e hn_150 H locs ls hP hS hl
                  refine lv_iload_n hx hb dX7_findBest_150 rfl (lv_at hl 2 rfl) ?_
                  refine lv_aload_n hx hb dX7_findBest_151 rfl (lv_at hl 0 rfl) ?_
                  refine xk_get hx hb hts (inX7_findBest_X7) hown hK hP 0 (by omega) (ci := 7) e2_obj rfl 6 (by decide) (flX7_findBest_107 hts) rfl (.int (τ6 0 6)) rfl dX7_findBest_152 ?_
                  refine xn_eqi (y := nI p) ((hBe.1 6 (by omega) (by omega) (by omega)).trans hR.1) ?_
                  refine xn_ige (tgt := 176) hx hb dX7_findBest_155 (by decide) (by omega) (by omega) (fun c_155 => ?_) (fun c_155 => ?_)
                  · refine lv_iload_n hx hb dX7_findBest_176 rfl (lv_at hl 1 rfl) ?_
                    exact xk_iret hx hb hr (vp_nar_int _) X2_ok hK hX hP hS hlk dX7_findBest_177 (⟨b, M - 1, by rw [mz, if_neg hM0], hbest, h14e, ⟨(hBe.1 6 (by omega) (by omega) (by omega)).trans hR.1, hp6, fun k hk => ⟨h4e k (by omega), hd5 k hk⟩⟩, hBe⟩)
                  · refine lv_aload_n hx hb dX7_findBest_158 rfl (lv_at hl 0 rfl) ?_
                    refine xk_get hx hb hts (inX7_findBest_X7) hown hK hP 0 (by omega) (ci := 7) e2_obj rfl 8 (by decide) (flX7_findBest_19 hts) rfl (.ref (ad 4)) rfl dX7_findBest_159 ?_
                    refine lv_iload_n hx hb dX7_findBest_162 rfl (lv_at hl 2 rfl) ?_
                    refine lv_aload_n hx hb dX7_findBest_163 rfl (lv_at hl 0 rfl) ?_
                    refine xk_get hx hb hts (inX7_findBest_X7) hown hK hP 0 (by omega) (ci := 7) e2_obj rfl 24 (by decide) (flX7_findBest_46 hts) rfl (.ref (ad 13)) rfl dX7_findBest_164 ?_
                    refine lv_iload_n hx hb dX7_findBest_167 rfl (lv_at hl 2 rfl) ?_
                    refine xk_iald hx hb hK hP 13 (by omega) (n := 6) (e2_row 6 (by decide) rfl) rfl k (by omega) (by decide) dX7_findBest_168 ?_
                    refine xn_eqi (y := nI (d k)) (h13e _ (by omega)) ?_
                    refine xk_iast hx hb hK hI hP hS 4 (by omega) (n := 6) (fun τ => (e2_row 6 (by decide) rfl)) rfl k (by omega) (by decide) e2_loc dX7_findBest_169 (fun H locs hP hS => ?_)
                    refine lv_iinc (v := nI (k + 1)) (lv' := [(3, .int (nI (k + 1))), (0, .ref (ad 0)), (2, .int (mz M))]) hx hb dX7_findBest_170 hl (k := 2) rfl (xn_inc _ 1) (by decide) rfl (fun ls hl => ?_)
                    refine lv_goto (tgt := 150) hx hb dX7_findBest_173 (by decide) ?_
                    exact ih_150 (k + 1) (up τ6 4 k (nI (d k))) (by omega) (hBe.tr (FrB_up (by omega))) (fun j hj => by rw [up_r (by omega)]; exact h13e j hj) (fun j hj => by rw [up_r (by omega)]; exact h14e j hj) (fun j hj => by
            by_cases hjk : j = k
            · rw [hjk, up_s]
            · rw [up_n (by omega)]; exact h4e j (by omega)) (by omega) _ _ _ hP hS (lv_sub hl [1, 2, 0] rfl)
              exact LP_150 _ 0 τ2 (Nat.zero_le _) hB h13 (h14 hM0) (fun j hj => absurd hj (Nat.not_lt_zero _)) (Nat.lt_succ_self _) _ _ _ hP hS (lv_sub hl [1, 3, 0] rfl)
            · refine lv_iload_n hx hb dX7_findBest_44 rfl (lv_at hl 3 rfl) ?_
              refine xn_eqi (y := nI (N / 5 ^ (p - p))) (by rw [Nat.sub_self, Nat.pow_zero, Nat.div_one]) ?_
              refine lv_istore (lv' := [(4, .int (nI (N / 5 ^ (p - p)))), (0, .ref (ad 0)), (1, .int (nI (5 ^ p))), (2, .int (mz M)), (3, .int (nI N))]) hx hb dX7_findBest_45 hl (by decide) rfl (fun ls hl => ?_)
              refine lv_aload_n hx hb dX7_findBest_47 rfl (lv_at hl 1 rfl) ?_
              refine xk_get hx hb hts (inX7_findBest_X7) hown hK hP 0 (by omega) (ci := 7) e2_obj rfl 6 (by decide) (flX7_findBest_107 hts) rfl (.int (τ2 0 6)) rfl dX7_findBest_48 ?_
              refine xn_eqi (y := nI p) ((hB.1 6 (by omega) (by omega) (by omega)).trans hR.1) ?_
              refine lv_iconst (v := nI 1) hx hb dX7_findBest_51 (by decide) ?_
              refine xn_isub hx hb (by omega) dX7_findBest_52 ?_
              refine xn_eqi (y := nI p - nI 1) ((pk_sub (by omega)).symm) ?_
              refine lv_istore (lv' := [(5, .int (nI p - nI 1)), (4, .int (nI (N / 5 ^ (p - p)))), (0, .ref (ad 0)), (1, .int (nI (5 ^ p))), (2, .int (mz M)), (3, .int (nI N))]) hx hb dX7_findBest_53 hl (by decide) rfl (fun ls hl => ?_)
              have hp1 : p - p = 0 := Nat.sub_self p
              have LP_55 : ∀ (n_55 : Nat) (ρ : Nat) (τ3 : Sg), (ρ ≤ p) → (FrB σ τ3) → (∀ j, j < p → τ3 13 j = nI (d j)) → (∀ j, ρ ≤ j → j < p → τ3 4 j = nI (dg5 p N j)) → (M ≠ 0 → ∀ j, j < p → τ3 14 j = nI (b j)) → ρ < n_55 → ∀ (H : Heap) (locs : List Loc) (ls : Array Slot), va_P D vwCl (wl ad 18 (en2 ad ca τ3)) H → va_S (AA ad 18) sS.heap H locs → lv_has ls 7 [(0, .ref (ad 0)), (1, .int (nI (5 ^ p))), (2, .int (mz M)), (3, .int (nI N)), (4, .int (nI (N / 5 ^ (p - ρ)))), (5, .int (nI ρ - nI 1))] → Wwi2 pP l eE { frames := 4, cells := 0, slots := 0, locals := 92 } sS mM [.ref (ad 0)] below meth cC D ca ad (fun r σ' => ∃ b m, r = nI m ∧ IsBest p g th n d b m ∧ (∀ j, j < p → σ' 14 j = nI (b j)) ∧ RotaM σ' p d ∧ FrB σ σ') H locs (F0 mM 55 ls []) := by
                intro n_55
                induction n_55 with
                | zero =>
                  intro ρ τ3 hρ hB3 h133 h43 h143 hn_55
                  exact absurd hn_55 (Nat.not_lt_zero _)
                | succ n_55 ih_55 =>
                  intro ρ τ3 hρ hB3 h133 h43 h143 hn_55 H locs ls hP hS hl
                  rcases Nat.eq_zero_or_pos ρ with h0 | h0
                  · subst h0
                    have hl : lv_has ls 7 [(0, .ref (ad 0)), (1, .int (nI (5 ^ p))), (2, .int (mz M)), (3, .int (nI N)), (4, .int (nI (N / 5 ^ p))), (5, .int (-1))] := hl
                    refine lv_iload hx hb dX7_findBest_55 (lv_at hl 5 rfl) ?_
                    refine lv_if_lt (tgt := 83) hx hb dX7_findBest_57 (by decide) (fun c_57 => ?_) (fun c_57 => absurd (by decide) c_57)
                    have hRt : RotaM τ3 p (dg5 p N) := ⟨(hB3.1 6 (by omega) (by omega) (by omega)).trans hR.1, hp6, fun k hk => ⟨h43 k (Nat.zero_le _) hk, dg5_lt k hk⟩⟩
                    have hTt : ThM τ3 n g th := ThM_B hT hB3
                    have hRle : Rn p g th n (dg5 p N) ≤ n := Rn_le
                    refine lv_aload_n hx hb dX7_findBest_83 rfl (lv_at hl 0 rfl) ?_
                    by_cases q_84 : ∀ v, v < 5 → cnt (dg5 p N) v p 0 = cnt d v p 0
                    · refine xk_fi (va_runV (As := []) (rest := []) ⟨hx, hb, hml, hown, hts⟩ (k2_isOrder_t l hI (t := dg5 p N) (e := d) hRt (fun k hk => ⟨h133 k hk, hd5 k hk⟩) q_84) (cwV 0 hts gX7_findBest_X7_isOrder rfl rfl rfl (by decide +kernel) ⟨Nat.le_of_ble_eq_true rfl, Nat.le_of_ble_eq_true rfl⟩) (xk_preV X2_ok hK hX hP (xk_recv hK hP 0 (by omega) (ci := 7) e2_obj rfl)) rfl rfl hl.1 rfl (lv_room (Nat.le_of_ble_eq_true rfl)) dX7_findBest_84 ⟨Nat.le_of_ble_eq_true rfl, Nat.le_of_ble_eq_true rfl⟩) hS (fun H locs hP hS => ?_)
                      have hPt : Pm p d (dg5 p N) := Pm_5 hd5 dg5_lt q_84
                      refine xn_zeq (tgt := 97) hx hb dX7_findBest_87 (by decide) (by omega) (fun c_87 => absurd c_87 (by omega)) (fun c_87 => ?_)
                      refine lv_aload_n hx hb dX7_findBest_90 rfl (lv_at hl 0 rfl) ?_
                      refine xk_ci (va_runV (As := []) (rest := []) ⟨hx, hb, hml, hown, hts⟩ (k2_rightNow l hI (d := dg5 p N) hTt hRt hp0) (cwV 0 hts gX7_findBest_X7_rightNow rfl rfl rfl (by decide +kernel) ⟨Nat.le_of_ble_eq_true rfl, Nat.le_of_ble_eq_true rfl⟩) (xk_preV X2_ok hK hX hP (xk_recv hK hP 0 (by omega) (ci := 7) e2_obj rfl)) rfl rfl hl.1 rfl (lv_room (Nat.le_of_ble_eq_true rfl)) dX7_findBest_91 ⟨Nat.le_of_ble_eq_true rfl, Nat.le_of_ble_eq_true rfl⟩) hS (fun r4 τ4 H locs hp hP hS => ?_)
                      obtain ⟨rfl, hF4⟩ := hp
                      refine lv_goto (tgt := 99) hx hb dX7_findBest_94 (by decide) ?_
                      refine xn_eqi (y := mz (Rn p g th n (dg5 p N) + 1)) rfl ?_
                      have hBc := hB3.tr hF4.B
                      have h13c : ∀ j, j < p → τ4 13 j = nI (d j) := fun j hj => by rw [hF4.2 13 (by omega)]; exact h133 j hj
                      have h14c : M ≠ 0 → ∀ j, j < p → τ4 14 j = nI (b j) := fun q j hj => by rw [hF4.2 14 (by omega)]; exact h143 q j hj
                      have h4c : ∀ j, j < p → τ4 4 j = nI (dg5 p N j) := fun j hj => by rw [hF4.2 4 (by omega)]; exact h43 j (Nat.zero_le _) hj
                      refine lv_istore (lv' := [(5, .int (mz (Rn p g th n (dg5 p N) + 1))), (0, .ref (ad 0)), (1, .int (nI (5 ^ p))), (2, .int (mz M)), (3, .int (nI N)), (4, .int (nI (N / 5 ^ p)))]) hx hb dX7_findBest_99 hl (by decide) rfl (fun ls hl => ?_)
                      refine lv_iload hx hb dX7_findBest_101 (lv_at hl 0 rfl) ?_
                      refine lv_iload_n hx hb dX7_findBest_103 rfl (lv_at hl 3 rfl) ?_
                      refine lv_icmp_le (tgt := 142) hx hb dX7_findBest_104 (by decide) (fun c_104 => ?_) (fun c_104 => ?_)
                      · refine lv_iinc (v := nI (N + 1)) (lv' := [(3, .int (nI (N + 1))), (5, .int (mz (Rn p g th n (dg5 p N) + 1))), (0, .ref (ad 0)), (1, .int (nI (5 ^ p))), (2, .int (mz M)), (4, .int (nI (N / 5 ^ p)))]) hx hb dX7_findBest_142 hl (k := 4) rfl (xn_inc _ 1) (by decide) rfl (fun ls hl => ?_)
                        refine lv_goto (tgt := 39) hx hb dX7_findBest_145 (by decide) ?_
                        exact ih_39 (N + 1) M b τ4 (by omega) hBc h13c (bn_keep hp0 hd5 hPt (toN_dg5 p N c_41) hbn ((mz_le (by omega) (by omega)).mp c_104)) hM h14c (by omega) _ _ _ hP hS (lv_sub hl [2, 3, 4, 0] rfl)
                      · refine lv_iload hx hb dX7_findBest_107 (lv_at hl 0 rfl) ?_
                        refine lv_istore_n (lv' := [(2, .int (mz (Rn p g th n (dg5 p N) + 1))), (5, .int (mz (Rn p g th n (dg5 p N) + 1))), (0, .ref (ad 0)), (1, .int (nI (5 ^ p))), (3, .int (nI N)), (4, .int (nI (N / 5 ^ p)))]) hx hb dX7_findBest_109 rfl hl (by decide) rfl (fun ls hl => ?_)
                        refine lv_iconst (v := nI 0) hx hb dX7_findBest_110 (by decide) ?_
                        refine lv_istore (lv' := [(6, .int (nI 0)), (2, .int (mz (Rn p g th n (dg5 p N) + 1))), (5, .int (mz (Rn p g th n (dg5 p N) + 1))), (0, .ref (ad 0)), (1, .int (nI (5 ^ p))), (3, .int (nI N)), (4, .int (nI (N / 5 ^ p)))]) hx hb dX7_findBest_111 hl (by decide) rfl (fun ls hl => ?_)
                        have LP_113 : ∀ (n_113 : Nat) (k : Nat) (τ5 : Sg), (k ≤ p) → (FrB σ τ5) → (∀ j, j < p → τ5 13 j = nI (d j)) → (∀ j, j < p → τ5 4 j = nI (dg5 p N j)) → (∀ j, j < k → τ5 14 j = nI (dg5 p N j)) → (p - k) < n_113 → ∀ (H : Heap) (locs : List Loc) (ls : Array Slot), va_P D vwCl (wl ad 18 (en2 ad ca τ5)) H → va_S (AA ad 18) sS.heap H locs → lv_has ls 7 [(0, .ref (ad 0)), (1, .int (nI (5 ^ p))), (2, .int (mz (Rn p g th n (dg5 p N) + 1))), (3, .int (nI N)), (6, .int (nI k))] → Wwi2 pP l eE { frames := 4, cells := 0, slots := 0, locals := 92 } sS mM [.ref (ad 0)] below meth cC D ca ad (fun r σ' => ∃ b m, r = nI m ∧ IsBest p g th n d b m ∧ (∀ j, j < p → σ' 14 j = nI (b j)) ∧ RotaM σ' p d ∧ FrB σ σ') H locs (F0 mM 113 ls []) := by
                          intro n_113
                          induction n_113 with
                          | zero =>
                            intro k τ5 hk hBd h13d h4d h14k hn_113
                            exact absurd hn_113 (Nat.not_lt_zero _)
                          | succ n_113 ih_113 =>
                            intro k τ5 hk hBd h13d h4d h14k hn_113 H locs ls hP hS hl
                            refine lv_iload hx hb dX7_findBest_113 (lv_at hl 4 rfl) ?_
                            refine lv_aload_n hx hb dX7_findBest_115 rfl (lv_at hl 0 rfl) ?_
                            refine xk_get hx hb hts (inX7_findBest_X7) hown hK hP 0 (by omega) (ci := 7) e2_obj rfl 6 (by decide) (flX7_findBest_107 hts) rfl (.int (τ5 0 6)) rfl dX7_findBest_116 ?_
                            refine xn_eqi (y := nI p) ((hBd.1 6 (by omega) (by omega) (by omega)).trans hR.1) ?_
                            refine xn_ige (tgt := 142) hx hb dX7_findBest_119 (by decide) (by omega) (by omega) (fun c_119 => ?_) (fun c_119 => ?_)
                            · have h14d : ∀ j, j < p → τ5 14 j = nI (dg5 p N j) := fun j hj => h14k j (by omega)
                              refine lv_iinc (v := nI (N + 1)) (lv' := [(3, .int (nI (N + 1))), (0, .ref (ad 0)), (1, .int (nI (5 ^ p))), (2, .int (mz (Rn p g th n (dg5 p N) + 1))), (6, .int (nI k))]) hx hb dX7_findBest_142 hl (k := 3) rfl (xn_inc _ 1) (by decide) rfl (fun ls hl => ?_)
                              refine lv_goto (tgt := 39) hx hb dX7_findBest_145 (by decide) ?_
                              exact ih_39 (N + 1) (Rn p g th n (dg5 p N) + 1) (dg5 p N) τ5 (by omega) hBd h13d (bn_new hp0 hd5 hPt (toN_dg5 p N c_41) hbn (by have := mt (mz_le (a := Rn p g th n (dg5 p N) + 1) (b := M) (by omega) (by omega)).mpr c_104; omega)) (by omega) (fun _ => h14d) (by omega) _ _ _ hP hS (lv_sub hl [1, 2, 3, 0] rfl)
                            · refine lv_aload_n hx hb dX7_findBest_122 rfl (lv_at hl 0 rfl) ?_
                              refine xk_get hx hb hts (inX7_findBest_X7) hown hK hP 0 (by omega) (ci := 7) e2_obj rfl 25 (by decide) (flX7_findBest_49 hts) rfl (.ref (ad 14)) rfl dX7_findBest_123 ?_
                              refine lv_iload hx hb dX7_findBest_126 (lv_at hl 4 rfl) ?_
                              refine lv_aload_n hx hb dX7_findBest_128 rfl (lv_at hl 0 rfl) ?_
                              refine xk_get hx hb hts (inX7_findBest_X7) hown hK hP 0 (by omega) (ci := 7) e2_obj rfl 8 (by decide) (flX7_findBest_19 hts) rfl (.ref (ad 4)) rfl dX7_findBest_129 ?_
                              refine lv_iload hx hb dX7_findBest_132 (lv_at hl 4 rfl) ?_
                              refine xk_iald hx hb hK hP 4 (by omega) (n := 6) (e2_row 6 (by decide) rfl) rfl k (by omega) (by decide) dX7_findBest_134 ?_
                              refine xn_eqi (y := nI (dg5 p N k)) (h4d _ (by omega)) ?_
                              refine xk_iast hx hb hK hI hP hS 14 (by omega) (n := 6) (fun τ => (e2_row 6 (by decide) rfl)) rfl k (by omega) (by decide) e2_loc dX7_findBest_135 (fun H locs hP hS => ?_)
                              refine lv_iinc (v := nI (k + 1)) (lv' := [(6, .int (nI (k + 1))), (0, .ref (ad 0)), (1, .int (nI (5 ^ p))), (2, .int (mz (Rn p g th n (dg5 p N) + 1))), (3, .int (nI N))]) hx hb dX7_findBest_136 hl (k := 4) rfl (xn_inc _ 1) (by decide) rfl (fun ls hl => ?_)
                              refine lv_goto (tgt := 113) hx hb dX7_findBest_139 (by decide) ?_
                              exact ih_113 (k + 1) (up τ5 14 k (nI (dg5 p N k))) (by omega) (hBd.tr (FrB_up (by omega))) (fun j hj => by rw [up_r (by omega)]; exact h13d j hj) (fun j hj => by rw [up_r (by omega)]; exact h4d j hj) (fun j hj => by
                  by_cases hjk : j = k
                  · rw [hjk, up_s]
                  · rw [up_n (by omega)]; exact h14k j (by omega)) (by omega) _ _ _ hP hS (lv_sub hl [1, 2, 3, 4, 0] rfl)
                        exact LP_113 _ 0 τ4 (Nat.zero_le _) hBc h13c h4c (fun j hj => absurd hj (Nat.not_lt_zero _)) (Nat.lt_succ_self _) _ _ _ hP hS (lv_sub hl [3, 4, 1, 5, 0] rfl)
                    · refine xk_fi (va_runV (As := []) (rest := []) ⟨hx, hb, hml, hown, hts⟩ (k2_isOrder_f l hI (t := dg5 p N) (e := d) hRt (fun k hk => ⟨h133 k hk, hd5 k hk⟩) q_84) (cwV 0 hts gX7_findBest_X7_isOrder rfl rfl rfl (by decide +kernel) ⟨Nat.le_of_ble_eq_true rfl, Nat.le_of_ble_eq_true rfl⟩) (xk_preV X2_ok hK hX hP (xk_recv hK hP 0 (by omega) (ci := 7) e2_obj rfl)) rfl rfl hl.1 rfl (lv_room (Nat.le_of_ble_eq_true rfl)) dX7_findBest_84 ⟨Nat.le_of_ble_eq_true rfl, Nat.le_of_ble_eq_true rfl⟩) hS (fun H locs hP hS => ?_)
                      refine xn_zeq (tgt := 97) hx hb dX7_findBest_87 (by decide) (by omega) (fun c_87 => ?_) (fun c_87 => absurd c_87 (by omega))
                      refine lv_bipush (v := (-9)) hx hb dX7_findBest_97 (by decide) ?_
                      refine xn_eqi (y := mz 0) rfl ?_
                      have hBc := hB3
                      have h13c := h133
                      have h14c := h143
                      refine lv_istore (lv' := [(5, .int (mz 0)), (0, .ref (ad 0)), (1, .int (nI (5 ^ p))), (2, .int (mz M)), (3, .int (nI N)), (4, .int (nI (N / 5 ^ p)))]) hx hb dX7_findBest_99 hl (by decide) rfl (fun ls hl => ?_)
                      refine lv_iload hx hb dX7_findBest_101 (lv_at hl 0 rfl) ?_
                      refine lv_iload_n hx hb dX7_findBest_103 rfl (lv_at hl 3 rfl) ?_
                      refine lv_icmp_le (tgt := 142) hx hb dX7_findBest_104 (by decide) (fun c_104 => ?_) (fun c_104 => absurd ((mz_le (by omega) (by omega)).mpr (Nat.zero_le _)) c_104)
                      refine lv_iinc (v := nI (N + 1)) (lv' := [(3, .int (nI (N + 1))), (5, .int (mz 0)), (0, .ref (ad 0)), (1, .int (nI (5 ^ p))), (2, .int (mz M)), (4, .int (nI (N / 5 ^ p)))]) hx hb dX7_findBest_142 hl (k := 4) rfl (xn_inc _ 1) (by decide) rfl (fun ls hl => ?_)
                      refine lv_goto (tgt := 39) hx hb dX7_findBest_145 (by decide) ?_
                      exact ih_39 (N + 1) M b τ3 (by omega) hBc h13c (bn_skip hd5 dg5_lt (fun q => q_84 (fun v hv => (q v).symm)) (toN_dg5 p N c_41) hbn) hM h14c (by omega) _ _ _ hP hS (lv_sub hl [2, 3, 4, 0] rfl)
                  · obtain ⟨ρ, rfl⟩ : ∃ z, ρ = z + 1 := ⟨ρ - 1, by omega⟩
                    rw [pk_sub (by omega), Nat.add_sub_cancel] at hl
                    have hdl := Nat.div_le_self N (5 ^ (p - (ρ + 1)))
                    refine lv_iload hx hb dX7_findBest_55 (lv_at hl 5 rfl) ?_
                    refine xn_zlt (tgt := 83) hx hb dX7_findBest_57 (by decide) (by omega) (fun c_57 => absurd c_57 (by omega)) (fun c_57 => ?_)
                    refine lv_aload_n hx hb dX7_findBest_60 rfl (lv_at hl 0 rfl) ?_
                    refine xk_get hx hb hts (inX7_findBest_X7) hown hK hP 0 (by omega) (ci := 7) e2_obj rfl 8 (by decide) (flX7_findBest_19 hts) rfl (.ref (ad 4)) rfl dX7_findBest_61 ?_
                    refine lv_iload hx hb dX7_findBest_64 (lv_at hl 5 rfl) ?_
                    refine lv_iload hx hb dX7_findBest_66 (lv_at hl 4 rfl) ?_
                    refine lv_iconst (v := nI 5) hx hb dX7_findBest_68 (by decide) ?_
                    refine xn_irem hx hb (by omega) (by omega) (by omega) dX7_findBest_69 ?_
                    refine xk_iast hx hb hK hI hP hS 4 (by omega) (n := 6) (fun τ => (e2_row 6 (by decide) rfl)) rfl ρ (by omega) (by decide) e2_loc dX7_findBest_70 (fun H locs hP hS => ?_)
                    refine lv_iload hx hb dX7_findBest_71 (lv_at hl 4 rfl) ?_
                    refine lv_iconst (v := nI 5) hx hb dX7_findBest_73 (by decide) ?_
                    refine xn_idiv hx hb (by omega) (by omega) (by omega) dX7_findBest_74 ?_
                    refine lv_istore (lv' := [(4, .int (nI ((N / 5 ^ (p - (ρ + 1))) / 5))), (0, .ref (ad 0)), (1, .int (nI (5 ^ p))), (2, .int (mz M)), (3, .int (nI N)), (5, .int (nI ρ))]) hx hb dX7_findBest_75 hl (by decide) rfl (fun ls hl => ?_)
                    refine lv_iinc (v := nI ρ - nI 1) (lv' := [(5, .int (nI ρ - nI 1)), (4, .int (nI ((N / 5 ^ (p - (ρ + 1))) / 5))), (0, .ref (ad 0)), (1, .int (nI (5 ^ p))), (2, .int (mz M)), (3, .int (nI N))]) hx hb dX7_findBest_77 hl (k := 5) rfl (xn_decr _) (by decide) rfl (fun ls hl => ?_)
                    refine lv_goto (tgt := 55) hx hb dX7_findBest_80 (by decide) ?_
                    rw [dg5_s (by omega)] at hl
                    exact ih_55 ρ (up τ3 4 ρ (nI ((N / 5 ^ (p - (ρ + 1))) % 5))) (by omega) (hB3.tr (FrB_up (by omega))) (fun j hj => by rw [up_r (by omega)]; exact h133 j hj) (fun j h1 h2 => by
              by_cases hjr : j = ρ
              · rw [hjr, up_s, dg5, show p - 1 - ρ = p - (ρ + 1) by omega]
              · rw [up_n (by omega)]; exact h43 j (by omega) h2) (fun q j hj => by rw [up_r (by omega)]; exact h143 q j hj) (by omega) _ _ _ hP hS (lv_sub hl [2, 3, 4, 5, 1, 0] rfl)
              exact LP_55 _ p τ2 (Nat.le_refl _) hB h13 (fun j h1 h2 => absurd h2 (by omega)) h14 (Nat.lt_succ_self _) _ _ _ hP hS (lv_sub hl [2, 3, 4, 5, 1, 0] rfl)
        exact LP_39 _ 0 0 d τ (Nat.zero_le _) hB0 h13 (⟨fun _ s _ => Nat.not_lt_zero _, fun m h => absurd h (by omega)⟩) (Nat.zero_le _) (fun h => absurd rfl h) (Nat.lt_succ_self _) _ _ _ hP hS (lv_sub hl [2, 3, 1, 0] rfl)
      · have h5k : 5 ^ k ≤ 15625 := p5_le (by omega)
        refine lv_aload_n hx hb dX7_findBest_12 rfl (lv_at hl 0 rfl) ?_
        refine xk_get hx hb hts (inX7_findBest_X7) hown hK hP 0 (by omega) (ci := 7) e2_obj rfl 24 (by decide) (flX7_findBest_46 hts) rfl (.ref (ad 13)) rfl dX7_findBest_13 ?_
        refine lv_iload_n hx hb dX7_findBest_16 rfl (lv_at hl 2 rfl) ?_
        refine lv_aload_n hx hb dX7_findBest_17 rfl (lv_at hl 0 rfl) ?_
        refine xk_get hx hb hts (inX7_findBest_X7) hown hK hP 0 (by omega) (ci := 7) e2_obj rfl 8 (by decide) (flX7_findBest_19 hts) rfl (.ref (ad 4)) rfl dX7_findBest_18 ?_
        refine lv_iload_n hx hb dX7_findBest_21 rfl (lv_at hl 2 rfl) ?_
        refine xk_iald hx hb hK hP 4 (by omega) (n := 6) (e2_row 6 (by decide) rfl) rfl k (by omega) (by decide) dX7_findBest_22 ?_
        refine xn_eqi (y := nI (d k)) (by rw [hf13 4 (by omega)]; exact (hR.2.2 _ (by omega)).1) ?_
        refine xk_iast hx hb hK hI hP hS 13 (by omega) (n := 6) (fun τ => (e2_row 6 (by decide) rfl)) rfl k (by omega) (by decide) e2_loc dX7_findBest_23 (fun H locs hP hS => ?_)
        refine lv_iload_n hx hb dX7_findBest_24 rfl (lv_at hl 1 rfl) ?_
        refine lv_iconst (v := nI 5) hx hb dX7_findBest_25 (by decide) ?_
        refine xn_imul hx hb dX7_findBest_26 ?_
        refine lv_istore_n (lv' := [(1, .int (nI ((5 ^ k) * 5))), (0, .ref (ad 0)), (2, .int (nI k))]) hx hb dX7_findBest_27 rfl hl (by decide) rfl (fun ls hl => ?_)
        refine lv_iinc (v := nI (k + 1)) (lv' := [(2, .int (nI (k + 1))), (1, .int (nI ((5 ^ k) * 5))), (0, .ref (ad 0))]) hx hb dX7_findBest_28 hl (k := 2) rfl (xn_inc _ 1) (by decide) rfl (fun ls hl => ?_)
        refine lv_goto (tgt := 4) hx hb dX7_findBest_31 (by decide) ?_
        exact ih_4 (k + 1) (up τ 13 k (nI (d k))) (by omega) (fun i hi => by rw [up_r hi]; exact hf13 i hi) (fun j hj => by
          by_cases hjk : j = k
          · rw [hjk, up_s]
          · rw [up_n (by omega)]; exact hk13 j (by omega)) (by omega) _ _ _ hP hS (lv_sub hl [2, 1, 0] rfl)
  exact LP_4 _ 0 σ (by omega) (fun _ _ => rfl) (fun j hj => absurd hj (Nat.not_lt_zero _)) (Nat.lt_succ_self _) _ _ _ hP hS (lv_sub hl [2, 1, 0] rfl)
