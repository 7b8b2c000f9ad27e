/-! the reference: its state in the same numbers -/
def ThM (σ : Sg) (n g : Nat) (th : Nat → Nat → Nat) : Prop := σ 0 5 = nI g ∧ σ 0 7 = nI n ∧ n ≤ 5 ∧ g ≤ 9 ∧ ∀ x, x < n → (∀ f, f < 5 → σ (5 + f) x = nI (th x f)) ∧ ThOk th x
def RotaM (σ : Sg) (p : Nat) (d : Nat → Nat) : Prop := σ 0 6 = nI p ∧ p ≤ 6 ∧ ∀ k, k < p → σ 4 k = nI (d k) ∧ d k < 5
def ReadsM (σ : Sg) (rn n : Nat) (rd : Nat → Nat → Nat) : Prop := σ 0 26 = nI rn ∧ rn ≤ 8 ∧ ∀ k, k < rn → σ 15 k = nI (rd k 0) ∧ σ 16 k = nI (rd k 1) ∧ σ 17 k = dz (rd k 2) ∧ rd k 0 < n ∧ rd k 1 ≤ 23 ∧ rd k 2 ≤ 5
def ShM (σ : Sg) (k L m : Nat) (cc : Nat → Int32) : Prop := σ 1 k = lz L ∧ L ≤ 3 ∧ (L < 3 → σ 2 k = nI m ∧ m ≤ 60 ∧ ∀ i, i < m → σ 3 (60 * k + i) = cc i)
def I2 (n p g rn : Nat) (d : Nat → Nat) (th rd : Nat → Nat → Nat) (sl sn : Nat → Nat) (sc : Nat → Nat → Int32) (ft tr : Int32) (σ : Sg) : Prop := ThM σ n g th ∧ RotaM σ p d ∧ ReadsM σ rn n rd ∧ (∀ k, k < 4 → ShM σ k (sl k) (sn k) (sc k)) ∧ (0 < n ↔ 0 < p) ∧ σ 0 0 = ft ∧ σ 0 1 = tr
/-- nothing but what is followed has changed -/
def FrF (σ τ : Sg) : Prop := (∀ j, j ≠ 20 → j ≠ 21 → j ≠ 22 → τ 0 j = σ 0 j) ∧ ∀ i, i ≠ 0 → τ i = σ i
theorem FrF.rf {σ : Sg} : FrF σ σ := ⟨fun _ _ _ _ => rfl, fun _ _ => rfl⟩
theorem FrF.tr {σ τ ρ : Sg} (h : FrF σ τ) (h2 : FrF τ ρ) : FrF σ ρ := ⟨fun j a b c => (h2.1 j a b c).trans (h.1 j a b c), fun i a => (h2.2 i a).trans (h.2 i a)⟩
/-- nothing but rows and fields that keep nothing between calls -/
def FrM (σ τ : Sg) : Prop := (∀ j, j < 14 ∨ j = 26 → τ 0 j = σ 0 j) ∧ ∀ i, i ≠ 0 → (i < 10 ∨ 14 < i) → τ i = σ i
theorem FrF.M {σ τ : Sg} (h : FrF σ τ) : FrM σ τ := ⟨fun j hj => h.1 j (by omega) (by omega) (by omega), fun i a _ => h.2 i a⟩
theorem FrM.rf {σ : Sg} : FrM σ σ := ⟨fun _ _ => rfl, fun _ _ _ => rfl⟩
theorem FrM.tr {σ τ ρ : Sg} (h : FrM σ τ) (h2 : FrM τ ρ) : FrM σ ρ := ⟨fun j a => (h2.1 j a).trans (h.1 j a), fun i a b => (h2.2 i a b).trans (h.2 i a b)⟩
theorem ThM_fr {σ τ : Sg} {n g : Nat} {th : Nat → Nat → Nat} (h : ThM σ n g th) (hf : FrM σ τ) : ThM τ n g th := by
  obtain ⟨h1, h2, h3, h4, h5⟩ := h
  exact ⟨(hf.1 5 (by omega)).trans h1, (hf.1 7 (by omega)).trans h2, h3, h4, fun x hx => ⟨fun f hf2 => by rw [hf.2 (5 + f) (by omega) (by omega)]; exact (h5 x hx).1 f hf2, (h5 x hx).2⟩⟩
theorem RotaM_fr {σ τ : Sg} {p : Nat} {d : Nat → Nat} (h : RotaM σ p d) (hf : FrM σ τ) : RotaM τ p d := ⟨(hf.1 6 (by omega)).trans h.1, h.2.1, fun k hk => by rw [hf.2 4 (by omega) (by omega)]; exact h.2.2 k hk⟩
theorem ReadsM_fr {σ τ : Sg} {rn n : Nat} {rd : Nat → Nat → Nat} (h : ReadsM σ rn n rd) (hf : FrM σ τ) : ReadsM τ rn n rd := ⟨(hf.1 26 (by omega)).trans h.1, h.2.1, fun k hk => by rw [hf.2 15 (by omega) (by omega), hf.2 16 (by omega) (by omega), hf.2 17 (by omega) (by omega)]; exact h.2.2 k hk⟩
theorem ShM_fr {σ τ : Sg} {k L m : Nat} {cc : Nat → Int32} (h : ShM σ k L m cc) (h1 : τ 1 = σ 1) (h2 : τ 2 = σ 2) (h3 : τ 3 = σ 3) : ShM τ k L m cc := by
  unfold ShM
  rw [h1, h2, h3]
  exact h
section I2
variable {n p g rn : Nat} {d : Nat → Nat} {th rd : Nat → Nat → Nat} {sl sn : Nat → Nat} {sc : Nat → Nat → Int32} {ft tr : Int32} {σ τ : Sg}
theorem I2_fr (h : I2 n p g rn d th rd sl sn sc ft tr σ) (hf : FrM σ τ) : I2 n p g rn d th rd sl sn sc ft tr τ := by
  obtain ⟨hT, hR, hRd, hSh, hnp, hft, htr⟩ := h
  exact ⟨ThM_fr hT hf, RotaM_fr hR hf, ReadsM_fr hRd hf, fun k hk => ShM_fr (hSh k hk) (hf.2 _ (by omega) (by omega)) (hf.2 _ (by omega) (by omega)) (hf.2 _ (by omega) (by omega)), hnp, (hf.1 0 (by omega)).trans hft, (hf.1 1 (by omega)).trans htr⟩
end I2
/-! following -/
def ups (p : Nat) (d : Nat → Nat) (e h y : Nat) : Int32 := if cta p d e h y p 1 = 0 then -9 else nI (cta p d e h y p 1)
theorem cta_zero {p : Nat} {d : Nat → Nat} {e h y : Nat} : ∀ f c, 0 < c → (cta p d e h y f c = 0 ↔ ∀ i, c ≤ i → i < c + f → d ((h + i * y) % p) = e) := by
  intro f
  induction f with
  | zero => intro c _; exact ⟨fun _ i h1 h2 => absurd h2 (by omega), fun _ => rfl⟩
  | succ f ih =>
    intro c hc
    simp only [cta]
    by_cases he : d ((h + c * y) % p) = e
    · rw [if_pos he, ih (c + 1) (by omega)]
      constructor
      · intro q i h1 h2
        by_cases hi : i = c
        · rw [hi]; exact he
        · exact q i (by omega) (by omega)
      · intro q i h1 h2
        exact q i (by omega) (by omega)
    · rw [if_neg he]
      constructor
      · intro q; omega
      · intro q; exact absurd (q c (Nat.le_refl c) (by omega)) he
theorem cta_more {p : Nat} {d : Nat → Nat} {e h y : Nat} : ∀ f c k, cta p d e h y f c ≠ 0 → cta p d e h y (f + k) c = cta p d e h y f c := by
  intro f
  induction f with
  | zero => intro c k h; exact absurd rfl h
  | succ f ih =>
    intro c k hn
    rw [show f + 1 + k = (f + k) + 1 by omega]
    simp only [cta] at hn ⊢
    by_cases he : d ((h + c * y) % p) = e
    · rw [if_pos he] at hn ⊢
      rw [if_pos he]
      exact ih (c + 1) k hn
    · rw [if_neg he, if_neg he]
theorem cta_6 {p : Nat} {d : Nat → Nat} {e h y : Nat} (hp : 0 < p) (h6 : p ≤ 6) : cta p d e h y 6 1 = cta p d e h y p 1 := by
  by_cases h0 : cta p d e h y p 1 = 0
  · rw [h0]
    have hz := (cta_zero p 1 (by omega)).mp h0
    refine (cta_zero 6 1 (by omega)).mpr (fun i h1 h2 => ?_)
    have hm : (h + i * y) % p = (h + ((i - 1) % p + 1) * y) % p := by
      have hd := Nat.div_add_mod (i - 1) p
      have hi : i = p * ((i - 1) / p) + ((i - 1) % p + 1) := by omega
      have hx : h + i * y = h + ((i - 1) % p + 1) * y + p * ((i - 1) / p * y) := by
        conv => lhs; rw [hi]
        rw [Nat.add_mul, Nat.mul_assoc]
        omega
      rw [hx, Nat.add_mul_mod_self_left]
    rw [hm]
    exact hz _ (by omega) (by have := Nat.mod_lt (i - 1) hp; omega)
  · have := cta_more (p := p) (d := d) (e := e) (h := h) (y := y) p 1 (6 - p) h0
    rwa [show p + (6 - p) = 6 by omega] at this

set_option maxRecDepth 20000 in
theorem flX7_isThing_71 {s : State} {av : Array Value} (hts : ∀ w ∈ wsX7_isThing, w.before av s = true) : (Cond.fieldLink RX7 71 "WellBackModel" "things" "I").before av s = true := hts _ (by decide +kernel)
set_option maxRecDepth 20000 in
theorem inX7_isThing_X7 : ∀ w ∈ u_ws RX7 TX7 30, w ∈ wsX7_isThing := by decide +kernel
set_option maxHeartbeats 4000000 in
set_option maxRecDepth 100000 in
theorem k2_isThing_in (l : Launch) {D : va_G} {ca : Nat → ClassId} {ad : Nat → Nat} (hI : Ij ad 18) {σ : Sg} {n g : Nat} {th : Nat → Nat → Nat} {x : Nat} (hT : ThM σ n g th) (hx2 : x < n) : C2i l D ca ad yX7_isThing wsX7_isThing { frames := 0, cells := 0, slots := 0, locals := 0 } [.ref (ad 0), .int (nI x)] σ (xFn (nI 1) σ) := by
  refine xk_entry cX7_isThing 2 (some .boolean) (by decide) rfl (Nat.le_of_ble_eq_true rfl) ?_
  intro pP eE sS mM below meth cC hx hb hml hr hts hown hlk hP hK hX hS ls hl
  have hl : lv_has ls 2 [(0, .ref (ad 0)), (1, .int (nI x))] := hl
  have hn5 := hT.2.2.1
  have hg9 := hT.2.2.2.1
  refine lv_iload_n hx hb dX7_isThing_0 rfl (lv_at hl 1 rfl) ?_
  refine xn_zlt (tgt := 16) hx hb dX7_isThing_1 (by decide) (by omega) (fun c_1 => absurd c_1 (by omega)) (fun c_1 => ?_)
  refine lv_iload_n hx hb dX7_isThing_4 rfl (lv_at hl 1 rfl) ?_
  refine lv_aload_n hx hb dX7_isThing_5 rfl (lv_at hl 0 rfl) ?_
  refine xk_get hx hb hts (inX7_isThing_X7) hown hK hP 0 (by omega) (ci := 7) e2_obj rfl 7 (by decide) (flX7_isThing_71 hts) rfl (.int (σ 0 7)) rfl dX7_isThing_6 ?_
  refine xn_eqi (y := nI n) hT.2.1 ?_
  refine xn_ige (tgt := 16) hx hb dX7_isThing_9 (by decide) (by omega) (by omega) (fun c_9 => absurd c_9 (by omega)) (fun c_9 => ?_)
  refine lv_iconst (v := nI 1) hx hb dX7_isThing_12 (by decide) ?_
  refine lv_goto (tgt := 17) hx hb dX7_isThing_13 (by decide) ?_
  exact xk_iret hx hb hr rfl X2_ok hK hX hP hS hlk dX7_isThing_17 (⟨rfl, rfl⟩)

set_option maxHeartbeats 4000000 in
set_option maxRecDepth 100000 in
theorem k2_isThing_out (l : Launch) {D : va_G} {ca : Nat → ClassId} {ad : Nat → Nat} (hI : Ij ad 18) {σ : Sg} {n g : Nat} {th : Nat → Nat → Nat} {x : Int32} (hT : ThM σ n g th) (hxx : ∀ j, j < n → x ≠ nI j) : C2i l D ca ad yX7_isThing wsX7_isThing { frames := 0, cells := 0, slots := 0, locals := 0 } [.ref (ad 0), .int x] σ (xFn (nI 0) σ) := by
  refine xk_entry cX7_isThing 2 (some .boolean) (by decide) rfl (Nat.le_of_ble_eq_true rfl) ?_
  intro pP eE sS mM below meth cC hx hb hml hr hts hown hlk hP hK hX hS ls hl
  have hl : lv_has ls 2 [(0, .ref (ad 0)), (1, .int x)] := hl
  have hn5 := hT.2.2.1
  have hg9 := hT.2.2.2.1
  refine lv_iload_n hx hb dX7_isThing_0 rfl (lv_at hl 1 rfl) ?_
  refine lv_if_lt (tgt := 16) hx hb dX7_isThing_1 (by decide) (fun c_1 => ?_) (fun c_1 => ?_)
  · refine lv_iconst (v := nI 0) hx hb dX7_isThing_16 (by decide) ?_
    exact xk_iret hx hb hr rfl X2_ok hK hX hP hS hlk dX7_isThing_17 (⟨rfl, rfl⟩)
  · obtain ⟨j, hj, rfl⟩ := nI_of c_1
    refine lv_iload_n hx hb dX7_isThing_4 rfl (lv_at hl 1 rfl) ?_
    refine lv_aload_n hx hb dX7_isThing_5 rfl (lv_at hl 0 rfl) ?_
    refine xk_get hx hb hts (inX7_isThing_X7) hown hK hP 0 (by omega) (ci := 7) e2_obj rfl 7 (by decide) (flX7_isThing_71 hts) rfl (.int (σ 0 7)) rfl dX7_isThing_6 ?_
    refine xn_eqi (y := nI n) hT.2.1 ?_
    refine xn_ige (tgt := 16) hx hb dX7_isThing_9 (by decide) (by omega) (by omega) (fun c_9 => ?_) (fun c_9 => ?_)
    · refine lv_iconst (v := nI 0) hx hb dX7_isThing_16 (by decide) ?_
      exact xk_iret hx hb hr rfl X2_ok hK hX hP hS hlk dX7_isThing_17 (⟨rfl, rfl⟩)
    · exact absurd rfl (hxx j c_9)

set_option maxRecDepth 20000 in
theorem flX7_delay_22 {s : State} {av : Array Value} (hts : ∀ w ∈ wsX7_delay, w.before av s = true) : (Cond.fieldLink RX7 22 "WellBackModel" "kind" "[I").before av s = true := hts _ (by decide +kernel)
set_option maxRecDepth 20000 in
theorem flX7_delay_25 {s : State} {av : Array Value} (hts : ∀ w ∈ wsX7_delay, w.before av s = true) : (Cond.fieldLink RX7 25 "WellBackModel" "weight" "[I").before av s = true := hts _ (by decide +kernel)
set_option maxRecDepth 20000 in
theorem flX7_delay_101 {s : State} {av : Array Value} (hts : ∀ w ∈ wsX7_delay, w.before av s = true) : (Cond.fieldLink RX7 101 "WellBackModel" "depth" "I").before av s = true := hts _ (by decide +kernel)
set_option maxRecDepth 20000 in
theorem inX7_delay_X7 : ∀ w ∈ u_ws RX7 TX7 30, w ∈ wsX7_delay := by decide +kernel
set_option maxHeartbeats 4000000 in
set_option maxRecDepth 100000 in
theorem k2_delay (l : Launch) {D : va_G} {ca : Nat → ClassId} {ad : Nat → Nat} (hI : Ij ad 18) {σ : Sg} {n g : Nat} {th : Nat → Nat → Nat} {x : Nat} (hT : ThM σ n g th) (hxn : x < n) : C2i l D ca ad yX7_delay wsX7_delay { frames := 0, cells := 0, slots := 0, locals := 0 } [.ref (ad 0), .int (nI x)] σ (xFn (nI (dl g th x)) σ) := by
  refine xk_entry cX7_delay 3 (some .int) (by decide) rfl (Nat.le_of_ble_eq_true rfl) ?_
  intro pP eE sS mM below meth cC hx hb hml hr hts hown hlk hP hK hX hS ls hl
  have hl : lv_has ls 3 [(0, .ref (ad 0)), (1, .int (nI x))] := hl
  have hn5 := hT.2.2.1
  have hg9 := hT.2.2.2.1
  have hXx := hT.2.2.2.2 x hxn
  obtain ⟨ho0, ho1, ho2, ho3, ho4⟩ := hXx.2
  refine lv_aload_n hx hb dX7_delay_0 rfl (lv_at hl 0 rfl) ?_
  refine xk_get hx hb hts (inX7_delay_X7) hown hK hP 0 (by omega) (ci := 7) e2_obj rfl 5 (by decide) (flX7_delay_101 hts) rfl (.int (σ 0 5)) rfl dX7_delay_1 ?_
  refine xn_eqi (y := nI g) hT.1 ?_
  refine lv_aload_n hx hb dX7_delay_4 rfl (lv_at hl 0 rfl) ?_
  refine xk_get hx hb hts (inX7_delay_X7) hown hK hP 0 (by omega) (ci := 7) e2_obj rfl 10 (by decide) (flX7_delay_25 hts) rfl (.ref (ad 6)) rfl dX7_delay_5 ?_
  refine lv_iload_n hx hb dX7_delay_8 rfl (lv_at hl 1 rfl) ?_
  refine xk_iald hx hb hK hP 6 (by omega) (n := 5) (e2_row 5 (by decide) rfl) rfl x (by omega) (by decide) dX7_delay_9 ?_
  refine xn_eqi (y := nI (th x 1)) (hXx.1 1 (by omega)) ?_
  refine xn_iadd hx hb dX7_delay_10 ?_
  refine lv_istore_n (lv' := [(2, .int (nI (g + (th x 1)))), (0, .ref (ad 0)), (1, .int (nI x))]) hx hb dX7_delay_11 rfl hl (by decide) rfl (fun ls hl => ?_)
  refine lv_aload_n hx hb dX7_delay_12 rfl (lv_at hl 1 rfl) ?_
  refine xk_get hx hb hts (inX7_delay_X7) hown hK hP 0 (by omega) (ci := 7) e2_obj rfl 9 (by decide) (flX7_delay_22 hts) rfl (.ref (ad 5)) rfl dX7_delay_13 ?_
  refine lv_iload_n hx hb dX7_delay_16 rfl (lv_at hl 2 rfl) ?_
  refine xk_iald hx hb hK hP 5 (by omega) (n := 5) (e2_row 5 (by decide) rfl) rfl x (by omega) (by decide) dX7_delay_17 ?_
  refine xn_eqi (y := nI (th x 0)) (hXx.1 0 (by omega)) ?_
  refine lv_iconst (v := nI 1) hx hb dX7_delay_18 (by decide) ?_
  refine xn_ine (tgt := 34) hx hb dX7_delay_19 (by decide) (by omega) (by omega) (fun c_19 => ?_) (fun c_19 => ?_)
  · refine lv_aload_n hx hb dX7_delay_34 rfl (lv_at hl 1 rfl) ?_
    refine xk_get hx hb hts (inX7_delay_X7) hown hK hP 0 (by omega) (ci := 7) e2_obj rfl 9 (by decide) (flX7_delay_22 hts) rfl (.ref (ad 5)) rfl dX7_delay_35 ?_
    refine lv_iload_n hx hb dX7_delay_38 rfl (lv_at hl 2 rfl) ?_
    refine xk_iald hx hb hK hP 5 (by omega) (n := 5) (e2_row 5 (by decide) rfl) rfl x (by omega) (by decide) dX7_delay_39 ?_
    refine xn_eqi (y := nI (th x 0)) (hXx.1 0 (by omega)) ?_
    refine xn_zne (tgt := 47) hx hb dX7_delay_40 (by decide) (by omega) (fun c_40 => ?_) (fun c_40 => ?_)
    · refine lv_iconst (v := nI 2) hx hb dX7_delay_47 (by decide) ?_
      refine lv_iload_n hx hb dX7_delay_48 rfl (lv_at hl 0 rfl) ?_
      refine xn_imul hx hb dX7_delay_49 ?_
      exact xk_iret hx hb hr (vp_nar_int _) X2_ok hK hX hP hS hlk dX7_delay_50 (⟨by show _ = nI (dly (th x 0) g (th x 1)); rw [dly, if_neg c_19, if_pos (by omega)], rfl⟩)
    · refine lv_iload_n hx hb dX7_delay_43 rfl (lv_at hl 0 rfl) ?_
      refine lv_goto (tgt := 50) hx hb dX7_delay_44 (by decide) ?_
      exact xk_iret hx hb hr (vp_nar_int _) X2_ok hK hX hP hS hlk dX7_delay_50 (⟨by show _ = nI (dly (th x 0) g (th x 1)); rw [dly, if_neg c_19, if_neg (by omega)], rfl⟩)
  · refine lv_iload_n hx hb dX7_delay_22 rfl (lv_at hl 0 rfl) ?_
    refine xn_zle (tgt := 32) hx hb dX7_delay_23 (by decide) (by omega) (fun c_23 => ?_) (fun c_23 => ?_)
    · refine lv_iconst (v := nI 0) hx hb dX7_delay_32 (by decide) ?_
      exact xk_iret hx hb hr (vp_nar_int _) X2_ok hK hX hP hS hlk dX7_delay_33 (⟨by show _ = nI (dly (th x 0) g (th x 1)); rw [dly, if_pos c_19]; congr 1; omega, rfl⟩)
    · refine lv_iload_n hx hb dX7_delay_26 rfl (lv_at hl 0 rfl) ?_
      refine lv_iconst (v := nI 1) hx hb dX7_delay_27 (by decide) ?_
      refine xn_isub hx hb (by omega) dX7_delay_28 ?_
      refine lv_goto (tgt := 33) hx hb dX7_delay_29 (by decide) ?_
      exact xk_iret hx hb hr (vp_nar_int _) X2_ok hK hX hP hS hlk dX7_delay_33 (⟨by show _ = nI (dly (th x 0) g (th x 1)); rw [dly, if_pos c_19], rfl⟩)

theorem nI_n9' {a : Nat} (ha : a < 2 ^ 31) : ¬ nI a = -9 := by
  intro h
  have := congrArg Int32.toInt h
  rw [nI_toInt ha] at this
  have h9 : (-9 : Int32).toInt = -9 := by decide
  omega

set_option maxRecDepth 20000 in
theorem flX7_follow_19 {s : State} {av : Array Value} (hts : ∀ w ∈ wsX7_follow, w.before av s = true) : (Cond.fieldLink RX7 19 "WellBackModel" "rota" "[I").before av s = true := hts _ (by decide +kernel)
set_option maxRecDepth 20000 in
theorem flX7_follow_107 {s : State} {av : Array Value} (hts : ∀ w ∈ wsX7_follow, w.before av s = true) : (Cond.fieldLink RX7 107 "WellBackModel" "places" "I").before av s = true := hts _ (by decide +kernel)
set_option maxRecDepth 20000 in
theorem flX7_follow_138 {s : State} {av : Array Value} (hts : ∀ w ∈ wsX7_follow, w.before av s = true) : (Cond.fieldLink RX7 138 "WellBackModel" "drawer" "I").before av s = true := hts _ (by decide +kernel)
set_option maxRecDepth 20000 in
theorem flX7_follow_141 {s : State} {av : Array Value} (hts : ∀ w ∈ wsX7_follow, w.before av s = true) : (Cond.fieldLink RX7 141 "WellBackModel" "drawn" "I").before av s = true := hts _ (by decide +kernel)
set_option maxRecDepth 20000 in
theorem flX7_follow_144 {s : State} {av : Array Value} (hts : ∀ w ∈ wsX7_follow, w.before av s = true) : (Cond.fieldLink RX7 144 "WellBackModel" "ups" "I").before av s = true := hts _ (by decide +kernel)
set_option maxRecDepth 20000 in
theorem inX7_follow_X7 : ∀ w ∈ u_ws RX7 TX7 30, w ∈ wsX7_follow := by decide +kernel
set_option maxHeartbeats 4000000 in
set_option maxRecDepth 100000 in
theorem k2_follow (l : Launch) {D : va_G} {ca : Nat → ClassId} {ad : Nat → Nat} (hI : Ij ad 18) {σ : Sg} {n g : Nat} {th : Nat → Nat → Nat} {p : Nat} {d : Nat → Nat} {x e h : Nat} (hT : ThM σ n g th) (hR : RotaM σ p d) (hp0 : 0 < p) (hxn : x < n) (he5 : e < 5) (hhb : h ≤ 100000) : C2v l D ca ad yX7_follow wsX7_follow { frames := 1, cells := 0, slots := 0, locals := 22 } [.ref (ad 0), .int (nI x), .int (nI e), .int (nI h)] σ (fun σ' => σ' 0 20 = oth p d e h (dl g th x) ∧ σ' 0 21 = dwn p d e h (dl g th x) ∧ σ' 0 22 = ups p d e h (dl g th x) ∧ FrF σ σ') := by
  refine xk_entry cX7_follow 7 none (by decide) rfl (Nat.le_of_ble_eq_true rfl) ?_
  intro pP eE sS mM below meth cC hx hb hml hr hts hown hlk hP hK hX hS ls hl
  have hl : lv_has ls 7 [(0, .ref (ad 0)), (1, .int (nI x)), (2, .int (nI e)), (3, .int (nI h))] := hl
  have hn5 := hT.2.2.1
  have hg9 := hT.2.2.2.1
  have hXx := hT.2.2.2.2 x hxn
  obtain ⟨ho0, ho1, ho2, ho3, ho4⟩ := hXx.2
  have hdlx : dl g th x ≤ 36 := dly_le hg9 ho1
  have hfr0 : FrM σ (up (up (up σ 0 20 (-9)) 0 21 (-9)) 0 22 (-9)) := ⟨fun j a => by rw [up_n (by omega), up_n (by omega), up_n (by omega)], fun i a _ => by rw [up_r a, up_r a, up_r a]⟩
  refine lv_aload_n hx hb dX7_follow_0 rfl (lv_at hl 0 rfl) ?_
  refine lv_bipush (v := (-9)) hx hb dX7_follow_1 (by decide) ?_
  refine xk_put hx hb hts (inX7_follow_X7) tyX7 tyX7_ok nmX7 hown hK hI hP hS 0 (by omega) (ci := 7) e2_obj rfl 20 (by decide) (flX7_follow_138 hts) rfl rfl (by decide +kernel) (Nat.le_of_ble_eq_true rfl) e2_loc (by rw [e2_obj]; simp [up]) dX7_follow_3 (fun H locs hP hS => ?_)
  refine lv_aload_n hx hb dX7_follow_6 rfl (lv_at hl 0 rfl) ?_
  refine lv_bipush (v := (-9)) hx hb dX7_follow_7 (by decide) ?_
  refine xk_put hx hb hts (inX7_follow_X7) tyX7 tyX7_ok nmX7 hown hK hI hP hS 0 (by omega) (ci := 7) e2_obj rfl 21 (by decide) (flX7_follow_141 hts) rfl rfl (by decide +kernel) (Nat.le_of_ble_eq_true rfl) e2_loc (by rw [e2_obj]; simp [up]) dX7_follow_9 (fun H locs hP hS => ?_)
  refine lv_aload_n hx hb dX7_follow_12 rfl (lv_at hl 0 rfl) ?_
  refine lv_bipush (v := (-9)) hx hb dX7_follow_13 (by decide) ?_
  refine xk_put hx hb hts (inX7_follow_X7) tyX7 tyX7_ok nmX7 hown hK hI hP hS 0 (by omega) (ci := 7) e2_obj rfl 22 (by decide) (flX7_follow_144 hts) rfl rfl (by decide +kernel) (Nat.le_of_ble_eq_true rfl) e2_loc (by rw [e2_obj]; simp [up]) dX7_follow_15 (fun H locs hP hS => ?_)
  refine lv_aload_n hx hb dX7_follow_18 rfl (lv_at hl 0 rfl) ?_
  refine lv_iload_n hx hb dX7_follow_19 rfl (lv_at hl 1 rfl) ?_
  refine xk_fi (va_runV (As := [.int (nI x)]) (rest := []) ⟨hx, hb, hml, hown, hts⟩ (k2_delay l hI (x := x) (ThM_fr hT hfr0) hxn) (cwV 1 hts gX7_follow_X7_delay rfl rfl rfl (by decide +kernel) ⟨Nat.le_of_ble_eq_true rfl, Nat.le_of_ble_eq_true rfl⟩) (xk_preV X2_ok hK hX hP (xk_recv hK hP 0 (by omega) (ci := 7) e2_obj rfl)) rfl rfl hl.1 rfl (lv_room (Nat.le_of_ble_eq_true rfl)) dX7_follow_20 ⟨Nat.le_of_ble_eq_true rfl, Nat.le_of_ble_eq_true rfl⟩) hS (fun H locs hP hS => ?_)
  refine lv_istore (lv' := [(4, .int (nI (dl g th x))), (0, .ref (ad 0)), (1, .int (nI x)), (2, .int (nI e)), (3, .int (nI h))]) hx hb dX7_follow_23 hl (by decide) rfl (fun ls hl => ?_)
  refine lv_iload_n hx hb dX7_follow_25 rfl (lv_at hl 4 rfl) ?_
  refine xn_eqi (y := nI (h + 0 * dl g th x)) (by rw [Nat.zero_mul, Nat.add_zero]) ?_
  refine lv_istore (lv' := [(5, .int (nI (h + 0 * dl g th x))), (4, .int (nI (dl g th x))), (0, .ref (ad 0)), (1, .int (nI x)), (2, .int (nI e)), (3, .int (nI h))]) hx hb dX7_follow_26 hl (by decide) rfl (fun ls hl => ?_)
  obtain ⟨τ9, hτ9⟩ : ∃ τ, τ = (up (up (up σ 0 20 (-9)) 0 21 (-9)) 0 22 (-9)) := ⟨_, rfl⟩
  rw [← hτ9] at hP
  have h920 : τ9 0 20 = -9 := by rw [hτ9]; simp [up]
  have h921 : τ9 0 21 = -9 := by rw [hτ9]; simp [up]
  have h922 : τ9 0 22 = -9 := by rw [hτ9]; simp [up]
  have hF9 : FrF σ τ9 := by rw [hτ9]; exact ⟨fun j a b c => by rw [up_n (by omega), up_n (by omega), up_n (by omega)], fun i a => by rw [up_r a, up_r a, up_r a]⟩
  have hR9 := RotaM_fr hR hF9.M
  have hp6 := hR.2.1
  refine lv_iconst (v := nI 1) hx hb dX7_follow_28 (by decide) ?_
  refine lv_istore (lv' := [(6, .int (nI 1)), (5, .int (nI (h + 0 * dl g th x))), (4, .int (nI (dl g th x))), (0, .ref (ad 0)), (1, .int (nI x)), (2, .int (nI e)), (3, .int (nI h))]) hx hb dX7_follow_29 hl (by decide) rfl (fun ls hl => ?_)
  have LP_31 : ∀ (n_31 : Nat) (k : Nat), (k ≤ 6) → (cta p d e h (dl g th x) (6 - k) (k + 1) = cta p d e h (dl g th x) 6 1) → (6 - k) < n_31 → ∀ (H : Heap) (locs : List Loc) (ls : Array Slot), va_P D vwCl (wl ad 18 (en2 ad ca τ9)) H → va_S (AA ad 18) sS.heap H locs → lv_has ls 7 [(0, .ref (ad 0)), (1, .int (nI x)), (2, .int (nI e)), (4, .int (nI (dl g th x))), (5, .int (nI (h + k * dl g th x))), (6, .int (nI (k + 1)))] → Wwv2 pP l eE { frames := 1, cells := 0, slots := 0, locals := 22 } sS mM [.ref (ad 0), .int (nI x), .int (nI e), .int (nI h)] below meth cC D ca ad (fun σ' => σ' 0 20 = oth p d e h (dl g th x) ∧ σ' 0 21 = dwn p d e h (dl g th x) ∧ σ' 0 22 = ups p d e h (dl g th x) ∧ FrF σ σ') H locs (F0 mM 31 ls []) := by
    intro n_31
    induction n_31 with
    | zero =>
      intro k hk hv hn_31
      exact absurd hn_31 (Nat.not_lt_zero _)
    | succ n_31 ih_31 =>
      intro k hk hv hn_31 H locs ls hP hS hl
      refine lv_iload hx hb dX7_follow_31 (lv_at hl 5 rfl) ?_
      refine lv_bipush (v := nI 6) hx hb dX7_follow_33 (by decide) ?_
      refine xn_igt (tgt := 104) hx hb dX7_follow_35 (by decide) (by omega) (by omega) (fun c_35 => ?_) (fun c_35 => ?_)
      · exact xk_vret hx hb hr X2_ok hK hX hP hS hlk dX7_follow_104 (⟨by rw [oth, if_pos (by rw [← cta_6 hp0 hp6, ← hv, show 6 - k = 0 by omega]; rfl : cta p d e h (dl g th x) p 1 = 0)]; exact h920, by rw [dwn, if_pos (by rw [← cta_6 hp0 hp6, ← hv, show 6 - k = 0 by omega]; rfl : cta p d e h (dl g th x) p 1 = 0)]; exact h921, by rw [ups, if_pos (by rw [← cta_6 hp0 hp6, ← hv, show 6 - k = 0 by omega]; rfl : cta p d e h (dl g th x) p 1 = 0)]; exact h922, hF9⟩)
      · have hky0 := Nat.mul_le_mul (show k ≤ 6 by omega) hdlx
        refine lv_aload_n hx hb dX7_follow_38 rfl (lv_at hl 0 rfl) ?_
        refine xk_get hx hb hts (inX7_follow_X7) hown hK hP 0 (by omega) (ci := 7) e2_obj rfl 20 (by decide) (flX7_follow_138 hts) rfl (.int (τ9 0 20)) rfl dX7_follow_39 ?_
        refine xn_eqi (y := (-9)) h920 ?_
        refine lv_bipush (v := (-9)) hx hb dX7_follow_42 (by decide) ?_
        refine lv_icmp_ne (tgt := 104) hx hb dX7_follow_44 (by decide) (fun c_44 => absurd rfl c_44) (fun c_44 => ?_)
        refine lv_iload hx hb dX7_follow_47 (lv_at hl 4 rfl) ?_
        refine lv_iload hx hb dX7_follow_49 (lv_at hl 3 rfl) ?_
        refine xn_iadd hx hb dX7_follow_51 ?_
        refine lv_istore (lv' := [(5, .int (nI ((h + k * dl g th x) + (dl g th x)))), (0, .ref (ad 0)), (1, .int (nI x)), (2, .int (nI e)), (4, .int (nI (dl g th x))), (6, .int (nI (k + 1)))]) hx hb dX7_follow_52 hl (by decide) rfl (fun ls hl => ?_)
        rw [show h + k * dl g th x + dl g th x = h + (k + 1) * dl g th x by rw [Nat.succ_mul, Nat.add_assoc]] at hl
        have hky := Nat.mul_le_mul (show k + 1 ≤ 6 by omega) hdlx
        have hmd := Nat.mod_lt (h + (k + 1) * dl g th x) hp0
        have hd5 := (hR.2.2 _ hmd).2
        refine lv_aload_n hx hb dX7_follow_54 rfl (lv_at hl 1 rfl) ?_
        refine xk_get hx hb hts (inX7_follow_X7) hown hK hP 0 (by omega) (ci := 7) e2_obj rfl 8 (by decide) (flX7_follow_19 hts) rfl (.ref (ad 4)) rfl dX7_follow_55 ?_
        refine lv_iload hx hb dX7_follow_58 (lv_at hl 0 rfl) ?_
        refine lv_aload_n hx hb dX7_follow_60 rfl (lv_at hl 1 rfl) ?_
        refine xk_get hx hb hts (inX7_follow_X7) hown hK hP 0 (by omega) (ci := 7) e2_obj rfl 6 (by decide) (flX7_follow_107 hts) rfl (.int (τ9 0 6)) rfl dX7_follow_61 ?_
        refine xn_eqi (y := nI p) hR9.1 ?_
        refine xn_irem hx hb (by omega) (by omega) (by omega) dX7_follow_64 ?_
        refine xk_iald hx hb hK hP 4 (by omega) (n := 6) (e2_row 6 (by decide) rfl) rfl ((h + (k + 1) * dl g th x) % p) (by omega) (by decide) dX7_follow_65 ?_
        refine xn_eqi (y := nI (d ((h + (k + 1) * dl g th x) % p))) ((hR9.2.2 _ (Nat.mod_lt _ hp0)).1) ?_
        refine lv_iload_n hx hb dX7_follow_66 rfl (lv_at hl 3 rfl) ?_
        refine xn_ieq (tgt := 98) hx hb dX7_follow_67 (by decide) (by omega) (by omega) (fun c_67 => ?_) (fun c_67 => ?_)
        · refine lv_iinc (v := nI (k + 1 + 1)) (lv' := [(6, .int (nI (k + 1 + 1))), (5, .int (nI (h + (k + 1) * dl g th x))), (0, .ref (ad 0)), (1, .int (nI x)), (2, .int (nI e)), (4, .int (nI (dl g th x)))]) hx hb dX7_follow_98 hl (k := 5) rfl (xn_inc _ 1) (by decide) rfl (fun ls hl => ?_)
          refine lv_goto (tgt := 31) hx hb dX7_follow_101 (by decide) ?_
          exact ih_31 (k + 1) (by omega) (by rw [← hv, show 6 - k = (6 - (k + 1)) + 1 by omega, cta, if_pos c_67]) (by omega) _ _ _ hP hS (lv_sub hl [2, 3, 4, 5, 1, 0] rfl)
        · refine lv_aload_n hx hb dX7_follow_70 rfl (lv_at hl 1 rfl) ?_
          refine lv_aload_n hx hb dX7_follow_71 rfl (lv_at hl 1 rfl) ?_
          refine xk_get hx hb hts (inX7_follow_X7) hown hK hP 0 (by omega) (ci := 7) e2_obj rfl 8 (by decide) (flX7_follow_19 hts) rfl (.ref (ad 4)) rfl dX7_follow_72 ?_
          refine lv_iload hx hb dX7_follow_75 (lv_at hl 0 rfl) ?_
          refine lv_aload_n hx hb dX7_follow_77 rfl (lv_at hl 1 rfl) ?_
          refine xk_get hx hb hts (inX7_follow_X7) hown hK hP 0 (by omega) (ci := 7) e2_obj rfl 6 (by decide) (flX7_follow_107 hts) rfl (.int (τ9 0 6)) rfl dX7_follow_78 ?_
          refine xn_eqi (y := nI p) hR9.1 ?_
          refine xn_irem hx hb (by omega) (by omega) (by omega) dX7_follow_81 ?_
          refine xk_iald hx hb hK hP 4 (by omega) (n := 6) (e2_row 6 (by decide) rfl) rfl ((h + (k + 1) * dl g th x) % p) (by omega) (by decide) dX7_follow_82 ?_
          refine xn_eqi (y := nI (d ((h + (k + 1) * dl g th x) % p))) ((hR9.2.2 _ (Nat.mod_lt _ hp0)).1) ?_
          refine xk_put hx hb hts (inX7_follow_X7) tyX7 tyX7_ok nmX7 hown hK hI hP hS 0 (by omega) (ci := 7) e2_obj rfl 20 (by decide) (flX7_follow_138 hts) rfl rfl (by decide +kernel) (Nat.le_of_ble_eq_true rfl) e2_loc (by rw [e2_obj]; simp [up]) dX7_follow_83 (fun H locs hP hS => ?_)
          refine lv_aload_n hx hb dX7_follow_86 rfl (lv_at hl 1 rfl) ?_
          refine lv_iload hx hb dX7_follow_87 (lv_at hl 0 rfl) ?_
          refine xk_put hx hb hts (inX7_follow_X7) tyX7 tyX7_ok nmX7 hown hK hI hP hS 0 (by omega) (ci := 7) e2_obj rfl 21 (by decide) (flX7_follow_141 hts) rfl rfl (by decide +kernel) (Nat.le_of_ble_eq_true rfl) e2_loc (by rw [e2_obj]; simp [up]) dX7_follow_89 (fun H locs hP hS => ?_)
          refine lv_aload_n hx hb dX7_follow_92 rfl (lv_at hl 1 rfl) ?_
          refine lv_iload hx hb dX7_follow_93 (lv_at hl 5 rfl) ?_
          refine xk_put hx hb hts (inX7_follow_X7) tyX7 tyX7_ok nmX7 hown hK hI hP hS 0 (by omega) (ci := 7) e2_obj rfl 22 (by decide) (flX7_follow_144 hts) rfl rfl (by decide +kernel) (Nat.le_of_ble_eq_true rfl) e2_loc (by rw [e2_obj]; simp [up]) dX7_follow_95 (fun H locs hP hS => ?_)
          refine lv_iinc (v := nI (k + 1 + 1)) (lv' := [(6, .int (nI (k + 1 + 1))), (5, .int (nI (h + (k + 1) * dl g th x))), (0, .ref (ad 0)), (1, .int (nI x)), (2, .int (nI e)), (4, .int (nI (dl g th x)))]) hx hb dX7_follow_98 hl (k := 5) rfl (xn_inc _ 1) (by decide) rfl (fun ls hl => ?_)
          refine lv_goto (tgt := 31) hx hb dX7_follow_101 (by decide) ?_
          refine lv_iload hx hb dX7_follow_31 (lv_at hl 0 rfl) ?_
          refine lv_bipush (v := nI 6) hx hb dX7_follow_33 (by decide) ?_
          refine xn_igt (tgt := 104) hx hb dX7_follow_35 (by decide) (by omega) (by omega) (fun c_35 => ?_) (fun c_35 => ?_)
          · exact xk_vret hx hb hr X2_ok hK hX hP hS hlk dX7_follow_104 (⟨by rw [oth, (by rw [← cta_6 hp0 hp6, ← hv, show 6 - k = (5 - k) + 1 by omega, cta, if_neg c_67] : cta p d e h (dl g th x) p 1 = k + 1), if_neg (by omega)]; simp [up], by rw [dwn, (by rw [← cta_6 hp0 hp6, ← hv, show 6 - k = (5 - k) + 1 by omega, cta, if_neg c_67] : cta p d e h (dl g th x) p 1 = k + 1), if_neg (by omega)]; simp [up], by rw [ups, (by rw [← cta_6 hp0 hp6, ← hv, show 6 - k = (5 - k) + 1 by omega, cta, if_neg c_67] : cta p d e h (dl g th x) p 1 = k + 1), if_neg (by omega)]; simp [up], hF9.tr ⟨fun j a b c => by rw [up_n (by omega), up_n (by omega), up_n (by omega)], fun i a => by rw [up_r a, up_r a, up_r a]⟩⟩)
          · refine lv_aload_n hx hb dX7_follow_38 rfl (lv_at hl 2 rfl) ?_
            refine xk_get hx hb hts (inX7_follow_X7) hown hK hP 0 (by omega) (ci := 7) e2_obj rfl 20 (by decide) (flX7_follow_138 hts) rfl (.int ((up (up (up τ9 0 20 (nI (d ((h + (k + 1) * dl g th x) % p)))) 0 21 (nI (h + (k + 1) * dl g th x))) 0 22 (nI (k + 1))) 0 20)) rfl dX7_follow_39 ?_
            refine xn_eqi (y := nI (d ((h + (k + 1) * dl g th x) % p))) ((up_n (by omega)).trans ((up_n (by omega)).trans up_s)) ?_
            refine lv_bipush (v := (-9)) hx hb dX7_follow_42 (by decide) ?_
            refine lv_icmp_ne (tgt := 104) hx hb dX7_follow_44 (by decide) (fun c_44 => ?_) (fun c_44 => absurd c_44 (fun q => nI_n9 (by omega) q.symm))
            exact xk_vret hx hb hr X2_ok hK hX hP hS hlk dX7_follow_104 (⟨by rw [oth, (by rw [← cta_6 hp0 hp6, ← hv, show 6 - k = (5 - k) + 1 by omega, cta, if_neg c_67] : cta p d e h (dl g th x) p 1 = k + 1), if_neg (by omega)]; simp [up], by rw [dwn, (by rw [← cta_6 hp0 hp6, ← hv, show 6 - k = (5 - k) + 1 by omega, cta, if_neg c_67] : cta p d e h (dl g th x) p 1 = k + 1), if_neg (by omega)]; simp [up], by rw [ups, (by rw [← cta_6 hp0 hp6, ← hv, show 6 - k = (5 - k) + 1 by omega, cta, if_neg c_67] : cta p d e h (dl g th x) p 1 = k + 1), if_neg (by omega)]; simp [up], hF9.tr ⟨fun j a b c => by rw [up_n (by omega), up_n (by omega), up_n (by omega)], fun i a => by rw [up_r a, up_r a, up_r a]⟩⟩)
  exact LP_31 _ 0 (by omega) rfl (Nat.lt_succ_self _) _ _ _ hP hS (lv_sub hl [3, 4, 5, 2, 1, 0] rfl)
