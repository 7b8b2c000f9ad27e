/-! the reference: a well's text, taking it, least terms -/
section KITX
variable {p : Program} {l : Launch} {e : Env} {R : Room} {s : State} {m : MethodId} {args : Array Value} {below : List Frame} {meth : Method} {c : Code} {H : Heap} {locs : List Loc} {cells slots : Nat} {Q : State → Prop}
variable {cc : ByteArray} {pc : Nat} {ls : Array Slot} {rest : List Value}
theorem xn_eql {x y : Int64} (h : x = y) (k : W p l e R s m args below meth c H locs cells slots Q (F0 m pc ls (.long y :: rest))) : W p l e R s m args below meth c H locs cells slots Q (F0 m pc ls (.long x :: rest)) := h ▸ k
theorem xn_lcmpG (hexec : p.tables.exec = Jvm.exec) (hb : c.code = cc) {x y : Int64} (h1 : y < x) (hdg : decode cc pc = .ok (.lcmp, 1)) (k : W p l e R s m args below meth c H locs cells slots Q (F0 m (pc + 1) ls (.int (nI 1) :: rest))) : W p l e R s m args below meth c H locs cells slots Q (F0 m pc ls (.long y :: .long x :: rest)) := by
  intro T hT X
  obtain ⟨t, a, b⟩ := k T hT X
  refine ⟨t, ?_, b⟩
  jvm_step X.here [X.here.top, hexec, hb, hdg, h1]
  exact a
theorem xn_lcmpE (hexec : p.tables.exec = Jvm.exec) (hb : c.code = cc) {x y : Int64} (h1 : x = y) (hdg : decode cc pc = .ok (.lcmp, 1)) (k : W p l e R s m args below meth c H locs cells slots Q (F0 m (pc + 1) ls (.int (nI 0) :: rest))) : W p l e R s m args below meth c H locs cells slots Q (F0 m pc ls (.long y :: .long x :: rest)) := by
  subst h1
  intro T hT X
  obtain ⟨t, a, b⟩ := k T hT X
  refine ⟨t, ?_, b⟩
  have h2 : ¬ x < x := Int64.lt_irrefl
  jvm_step X.here [X.here.top, hexec, hb, hdg, h2]
  exact a
theorem xn_lrem (hexec : p.tables.exec = Jvm.exec) (hb : c.code = cc) {a b : Nat} (ha : a < 2 ^ 31) (h0 : 0 < b) (h1 : b < 2 ^ 31) (hdg : decode cc pc = .ok (.lrem, 1)) (k : W p l e R s m args below meth c H locs cells slots Q (F0 m (pc + 1) ls (.long (lN (a % b)) :: rest))) : W p l e R s m args below meth c H locs cells slots Q (F0 m pc ls (.long (lN b) :: .long (lN a) :: rest)) := lv_lrem hexec hb hdg (fun z => by have := (lN_eq (b := 0) h1 (by decide)).mp z; omega) (by rw [pk_lRem (by omega) h0 (by omega)]; exact k)
theorem xn_ldiv (hexec : p.tables.exec = Jvm.exec) (hb : c.code = cc) {a b : Nat} (ha : a < 2 ^ 31) (h0 : 0 < b) (h1 : b < 2 ^ 31) (hdg : decode cc pc = .ok (.ldiv, 1)) (k : W p l e R s m args below meth c H locs cells slots Q (F0 m (pc + 1) ls (.long (lN (a / b)) :: rest))) : W p l e R s m args below meth c H locs cells slots Q (F0 m pc ls (.long (lN b) :: .long (lN a) :: rest)) := lv_ldiv hexec hb hdg (fun z => by have := (lN_eq (b := 0) h1 (by decide)).mp z; omega) (by rw [pk_lDiv (by omega) h0 (by omega)]; exact k)
end KITX
theorem gcd_st (u v : Nat) : Nat.gcd v (u % v) = Nat.gcd u v := by
  rw [Nat.gcd_comm u v, Nat.gcd_rec v u, Nat.gcd_comm]

set_option maxHeartbeats 4000000 in
set_option maxRecDepth 100000 in
theorem k2_least_0 (l : Launch) {D : va_G} {ca : Nat → ClassId} {ad : Nat → Nat} (hI : Ij ad 18) {σ : Sg} {A B : Nat} (hA : A < 2 ^ 31) (hB : B < 2 ^ 31) (hB0 : 0 < B) : C2l l D ca ad yX7_inLeastTerms wsX7_inLeastTerms { frames := 0, cells := 0, slots := 0, locals := 0 } [.long (lN A), .long (lN B), .int (nI 0)] σ (xFl (lN (A / Nat.gcd A B)) σ) := by
  refine xk_entry cX7_inLeastTerms 11 (some .long) (by decide) rfl (Nat.le_of_ble_eq_true rfl) ?_
  intro pP eE sS mM below meth cC hx hb hml hr hts hown hlk hP hK hX hS ls hl
  have hl : lv_has ls 11 [(0, .long (lN A)), (2, .long (lN B)), (4, .int (nI 0))] := hl
  refine lv_lload_n hx hb dX7_inLeastTerms_0 rfl (lv_at hl 0 rfl) ?_
  refine lv_lstore (lv' := [(5, .long (lN A)), (0, .long (lN A)), (2, .long (lN B)), (4, .int (nI 0))]) hx hb dX7_inLeastTerms_1 hl (by decide) rfl (fun ls hl => ?_)
  refine lv_lload_n hx hb dX7_inLeastTerms_3 rfl (lv_at hl 2 rfl) ?_
  refine lv_lstore (lv' := [(7, .long (lN B)), (5, .long (lN A)), (0, .long (lN A)), (2, .long (lN B)), (4, .int (nI 0))]) hx hb dX7_inLeastTerms_4 hl (by decide) rfl (fun ls hl => ?_)
  have LP_6 : ∀ (n_6 : Nat) (u : Nat) (v : Nat), (u < 2 ^ 31) → (v < 2 ^ 31) → (Nat.gcd u v = Nat.gcd A B) → v < n_6 → ∀ (H : Heap) (locs : List Loc) (ls : Array Slot), va_P D vwCl (wl ad 18 (en2 ad ca σ)) H → va_S (AA ad 18) sS.heap H locs → lv_has ls 11 [(0, .long (lN A)), (2, .long (lN B)), (4, .int (nI 0)), (5, .long (lN u)), (7, .long (lN v))] → Wwl2 pP l eE { frames := 0, cells := 0, slots := 0, locals := 0 } sS mM [.long (lN A), .long (lN B), .int (nI 0)] below meth cC D ca ad (xFl (lN (A / Nat.gcd A B)) σ) H locs (F0 mM 6 ls []) := by
    intro n_6
    induction n_6 with
    | zero =>
      intro u v hu hv hg hn_6
      exact absurd hn_6 (Nat.not_lt_zero _)
    | succ n_6 ih_6 =>
      intro u v hu hv hg hn_6 H locs ls hP hS hl
      refine lv_lload hx hb dX7_inLeastTerms_6 (lv_at hl 4 rfl) ?_
      refine lv_lconst (v := 0) hx hb dX7_inLeastTerms_8 (by decide) ?_
      by_cases q_9 : v = 0
      · refine xn_lcmpE hx hb (by rw [q_9]; rfl) dX7_inLeastTerms_9 ?_
        have hgu : u = Nat.gcd A B := by rw [← hg, q_9, Nat.gcd_zero_right]
        refine xn_zeq (tgt := 31) hx hb dX7_inLeastTerms_10 (by decide) (by omega) (fun c_10 => ?_) (fun c_10 => absurd c_10 (by omega))
        have hup : 0 < u := by rw [hgu]; exact Nat.gcd_pos_of_pos_right _ hB0
        refine lv_iload hx hb dX7_inLeastTerms_31 (lv_at hl 2 rfl) ?_
        refine xn_zne (tgt := 43) hx hb dX7_inLeastTerms_33 (by decide) (by omega) (fun c_33 => absurd c_33 (by omega)) (fun c_33 => ?_)
        refine lv_lload_n hx hb dX7_inLeastTerms_36 rfl (lv_at hl 0 rfl) ?_
        refine lv_lload hx hb dX7_inLeastTerms_37 (lv_at hl 3 rfl) ?_
        refine xn_ldiv (a := A) (b := u) hx hb (by omega) (by omega) (by omega) dX7_inLeastTerms_39 ?_
        refine lv_goto (tgt := 47) hx hb dX7_inLeastTerms_40 (by decide) ?_
        exact xk_lret hx hb hr X2_ok hK hX hP hS hlk dX7_inLeastTerms_47 (⟨by rw [← hgu], rfl⟩)
      · refine xn_lcmpG hx hb (show lN 0 < lN v from (lN_lt (by decide) (by omega)).mpr (by omega)) dX7_inLeastTerms_9 ?_
        have hmv := Nat.mod_lt u (show 0 < v by omega)
        refine xn_zeq (tgt := 31) hx hb dX7_inLeastTerms_10 (by decide) (by omega) (fun c_10 => absurd c_10 (by omega)) (fun c_10 => ?_)
        refine lv_lload hx hb dX7_inLeastTerms_13 (lv_at hl 3 rfl) ?_
        refine lv_lload hx hb dX7_inLeastTerms_15 (lv_at hl 4 rfl) ?_
        refine xn_lrem hx hb (by omega) (by omega) (by omega) dX7_inLeastTerms_17 ?_
        refine lv_lstore (lv' := [(9, .long (lN (u % v))), (0, .long (lN A)), (2, .long (lN B)), (4, .int (nI 0)), (5, .long (lN u)), (7, .long (lN v))]) hx hb dX7_inLeastTerms_18 hl (by decide) rfl (fun ls hl => ?_)
        refine lv_lload hx hb dX7_inLeastTerms_20 (lv_at hl 5 rfl) ?_
        refine lv_lstore (lv' := [(5, .long (lN v)), (9, .long (lN (u % v))), (0, .long (lN A)), (2, .long (lN B)), (4, .int (nI 0)), (7, .long (lN v))]) hx hb dX7_inLeastTerms_22 hl (by decide) rfl (fun ls hl => ?_)
        refine lv_lload hx hb dX7_inLeastTerms_24 (lv_at hl 1 rfl) ?_
        refine lv_lstore (lv' := [(7, .long (lN (u % v))), (5, .long (lN v)), (9, .long (lN (u % v))), (0, .long (lN A)), (2, .long (lN B)), (4, .int (nI 0))]) hx hb dX7_inLeastTerms_26 hl (by decide) rfl (fun ls hl => ?_)
        refine lv_goto (tgt := 6) hx hb dX7_inLeastTerms_28 (by decide) ?_
        exact ih_6 v (u % v) (by omega) (by have := Nat.mod_lt u (show 0 < v by omega); omega) (by rw [gcd_st]; exact hg) (by omega) _ _ _ hP hS (lv_sub hl [3, 4, 5, 1, 0] rfl)
  exact LP_6 _ A B hA hB rfl (Nat.lt_succ_self _) _ _ _ hP hS (lv_sub hl [2, 3, 4, 1, 0] rfl)

set_option maxHeartbeats 4000000 in
set_option maxRecDepth 100000 in
theorem k2_least_1 (l : Launch) {D : va_G} {ca : Nat → ClassId} {ad : Nat → Nat} (hI : Ij ad 18) {σ : Sg} {A B : Nat} (hA : A < 2 ^ 31) (hB : B < 2 ^ 31) (hB0 : 0 < B) : C2l l D ca ad yX7_inLeastTerms wsX7_inLeastTerms { frames := 0, cells := 0, slots := 0, locals := 0 } [.long (lN A), .long (lN B), .int (nI 1)] σ (xFl (lN (B / Nat.gcd A B)) σ) := by
  refine xk_entry cX7_inLeastTerms 11 (some .long) (by decide) rfl (Nat.le_of_ble_eq_true rfl) ?_
  intro pP eE sS mM below meth cC hx hb hml hr hts hown hlk hP hK hX hS ls hl
  have hl : lv_has ls 11 [(0, .long (lN A)), (2, .long (lN B)), (4, .int (nI 1))] := hl
  refine lv_lload_n hx hb dX7_inLeastTerms_0 rfl (lv_at hl 0 rfl) ?_
  refine lv_lstore (lv' := [(5, .long (lN A)), (0, .long (lN A)), (2, .long (lN B)), (4, .int (nI 1))]) hx hb dX7_inLeastTerms_1 hl (by decide) rfl (fun ls hl => ?_)
  refine lv_lload_n hx hb dX7_inLeastTerms_3 rfl (lv_at hl 2 rfl) ?_
  refine lv_lstore (lv' := [(7, .long (lN B)), (5, .long (lN A)), (0, .long (lN A)), (2, .long (lN B)), (4, .int (nI 1))]) hx hb dX7_inLeastTerms_4 hl (by decide) rfl (fun ls hl => ?_)
  have LP_6 : ∀ (n_6 : Nat) (u : Nat) (v : Nat), (u < 2 ^ 31) → (v < 2 ^ 31) → (Nat.gcd u v = Nat.gcd A B) → v < n_6 → ∀ (H : Heap) (locs : List Loc) (ls : Array Slot), va_P D vwCl (wl ad 18 (en2 ad ca σ)) H → va_S (AA ad 18) sS.heap H locs → lv_has ls 11 [(0, .long (lN A)), (2, .long (lN B)), (4, .int (nI 1)), (5, .long (lN u)), (7, .long (lN v))] → Wwl2 pP l eE { frames := 0, cells := 0, slots := 0, locals := 0 } sS mM [.long (lN A), .long (lN B), .int (nI 1)] below meth cC D ca ad (xFl (lN (B / Nat.gcd A B)) σ) H locs (F0 mM 6 ls []) := by
    intro n_6
    induction n_6 with
    | zero =>
      intro u v hu hv hg hn_6
      exact absurd hn_6 (Nat.not_lt_zero _)
    | succ n_6 ih_6 =>
      intro u v hu hv hg hn_6 H locs ls hP hS hl
      refine lv_lload hx hb dX7_inLeastTerms_6 (lv_at hl 4 rfl) ?_
      refine lv_lconst (v := 0) hx hb dX7_inLeastTerms_8 (by decide) ?_
      by_cases q_9 : v = 0
      · refine xn_lcmpE hx hb (by rw [q_9]; rfl) dX7_inLeastTerms_9 ?_
        have hgu : u = Nat.gcd A B := by rw [← hg, q_9, Nat.gcd_zero_right]
        refine xn_zeq (tgt := 31) hx hb dX7_inLeastTerms_10 (by decide) (by omega) (fun c_10 => ?_) (fun c_10 => absurd c_10 (by omega))
        have hup : 0 < u := by rw [hgu]; exact Nat.gcd_pos_of_pos_right _ hB0
        refine lv_iload hx hb dX7_inLeastTerms_31 (lv_at hl 2 rfl) ?_
        refine xn_zne (tgt := 43) hx hb dX7_inLeastTerms_33 (by decide) (by omega) (fun c_33 => ?_) (fun c_33 => absurd c_33 (by omega))
        refine lv_lload_n hx hb dX7_inLeastTerms_43 rfl (lv_at hl 1 rfl) ?_
        refine lv_lload hx hb dX7_inLeastTerms_44 (lv_at hl 3 rfl) ?_
        refine xn_ldiv (a := B) (b := u) hx hb (by omega) (by omega) (by omega) dX7_inLeastTerms_46 ?_
        exact xk_lret hx hb hr X2_ok hK hX hP hS hlk dX7_inLeastTerms_47 (⟨by rw [← hgu], rfl⟩)
      · refine xn_lcmpG hx hb (show lN 0 < lN v from (lN_lt (by decide) (by omega)).mpr (by omega)) dX7_inLeastTerms_9 ?_
        have hmv := Nat.mod_lt u (show 0 < v by omega)
        refine xn_zeq (tgt := 31) hx hb dX7_inLeastTerms_10 (by decide) (by omega) (fun c_10 => absurd c_10 (by omega)) (fun c_10 => ?_)
        refine lv_lload hx hb dX7_inLeastTerms_13 (lv_at hl 3 rfl) ?_
        refine lv_lload hx hb dX7_inLeastTerms_15 (lv_at hl 4 rfl) ?_
        refine xn_lrem hx hb (by omega) (by omega) (by omega) dX7_inLeastTerms_17 ?_
        refine lv_lstore (lv' := [(9, .long (lN (u % v))), (0, .long (lN A)), (2, .long (lN B)), (4, .int (nI 1)), (5, .long (lN u)), (7, .long (lN v))]) hx hb dX7_inLeastTerms_18 hl (by decide) rfl (fun ls hl => ?_)
        refine lv_lload hx hb dX7_inLeastTerms_20 (lv_at hl 5 rfl) ?_
        refine lv_lstore (lv' := [(5, .long (lN v)), (9, .long (lN (u % v))), (0, .long (lN A)), (2, .long (lN B)), (4, .int (nI 1)), (7, .long (lN v))]) hx hb dX7_inLeastTerms_22 hl (by decide) rfl (fun ls hl => ?_)
        refine lv_lload hx hb dX7_inLeastTerms_24 (lv_at hl 1 rfl) ?_
        refine lv_lstore (lv' := [(7, .long (lN (u % v))), (5, .long (lN v)), (9, .long (lN (u % v))), (0, .long (lN A)), (2, .long (lN B)), (4, .int (nI 1))]) hx hb dX7_inLeastTerms_26 hl (by decide) rfl (fun ls hl => ?_)
        refine lv_goto (tgt := 6) hx hb dX7_inLeastTerms_28 (by decide) ?_
        exact ih_6 v (u % v) (by omega) (by have := Nat.mod_lt u (show 0 < v by omega); omega) (by rw [gcd_st]; exact hg) (by omega) _ _ _ hP hS (lv_sub hl [3, 4, 5, 1, 0] rfl)
  exact LP_6 _ A B hA hB rfl (Nat.lt_succ_self _) _ _ _ hP hS (lv_sub hl [2, 3, 4, 1, 0] rfl)

theorem FrM_up {σ : Sg} {q k : Nat} {v : Int32} (hq : (q = 0 ∧ 14 ≤ k ∧ k ≠ 26) ∨ (10 ≤ q ∧ q ≤ 14)) : FrM σ (up σ q k v) := ⟨fun j _ => up_n (by omega), fun i _ _ => up_r (by omega)⟩
theorem fr3 {σ τ : Sg} {F m : Nat} {t : Nat → Int32} (hC : ∀ j, j < m → σ 3 (F + j) = t j) (h : FrM σ τ) : ∀ j, j < m → τ 3 (F + j) = t j := fun j hj => by rw [h.2 3 (by omega) (by omega)]; exact hC j hj
theorem f6_z {c : Nat → Int32} {s : Nat} (h : c s = nI 59) : f6 c s 6 0 = f6 c s 5 1 := f6_y (c := c) (s := s) (f := 5) (k := 0) h
theorem f6_zn {c : Nat → Int32} {s : Nat} (h : ¬ c s = nI 59) : f6 c s 6 0 = 0 := f6_n (c := c) (s := s) (f := 5) (k := 0) h

set_option maxRecDepth 20000 in
theorem flX7_readWell_74 {s : State} {av : Array Value} (hts : ∀ w ∈ wsX7_readWell, w.before av s = true) : (Cond.fieldLink RX7 74 "WellBackModel" "at" "I").before av s = true := hts _ (by decide +kernel)
set_option maxRecDepth 20000 in
theorem flX7_readWell_98 {s : State} {av : Array Value} (hts : ∀ w ∈ wsX7_readWell, w.before av s = true) : (Cond.fieldLink RX7 98 "WellBackModel" "readDepth" "I").before av s = true := hts _ (by decide +kernel)
set_option maxRecDepth 20000 in
theorem flX7_readWell_104 {s : State} {av : Array Value} (hts : ∀ w ∈ wsX7_readWell, w.before av s = true) : (Cond.fieldLink RX7 104 "WellBackModel" "readPlaces" "I").before av s = true := hts _ (by decide +kernel)
set_option maxRecDepth 20000 in
theorem flX7_readWell_110 {s : State} {av : Array Value} (hts : ∀ w ∈ wsX7_readWell, w.before av s = true) : (Cond.fieldLink RX7 110 "WellBackModel" "readMany" "I").before av s = true := hts _ (by decide +kernel)
set_option maxRecDepth 20000 in
theorem inX7_readWell_X7 : ∀ w ∈ u_ws RX7 TX7 30, w ∈ wsX7_readWell := by decide +kernel
set_option maxHeartbeats 4000000 in
set_option maxRecDepth 100000 in
theorem k2_well (l : Launch) {D : va_G} {ca : Nat → ClassId} {ad : Nat → Nat} (hI : Ij ad 18) {σ : Sg} {F m : Nat} {t : Nat → Int32} (hE : F + m ≤ 240) (hC : ∀ j, j < m → σ 3 (F + j) = t j) (hA : σ 0 14 = nI F) : C2i l D ca ad yX7_readWell wsX7_readWell { frames := 3, cells := 0, slots := 0, locals := 68 } [.ref (ad 0), .int (nI (F + m))] σ (fun r σ' => (∀ f, parse (cd t m) m = .inl f → r = nI 0 ∧ σ' 0 14 = nI (F + f)) ∧ (∀ nn, parse (cd t m) m = .inr nn → r = nI 1 ∧ σ' 0 15 = nI (dv (cd t m 1)) ∧ σ' 0 16 = nI (pls (cd t m) 6 0) ∧ σ' 0 17 = nI nn ∧ (∀ j, j < pls (cd t m) 6 0 → σ' 10 j = nI (dv (cd t m (2 + j)))) ∧ ∀ y, y < nn → ∀ f, f < 5 → σ' 11 (5 * y + f) = nI (pth (cd t m) (pls (cd t m) 6 0) y f)) ∧ FrM σ σ') := by
  refine xk_entry cX7_readWell 2 (some .boolean) (by decide) rfl (Nat.le_of_ble_eq_true rfl) ?_
  intro pP eE sS mM below meth cC hx hb hml hr hts hown hlk hP hK hX hS ls hl
  have hl : lv_has ls 2 [(0, .ref (ad 0)), (1, .int (nI (F + m)))] := hl
  refine lv_aload_n hx hb dX7_readWell_0 rfl (lv_at hl 0 rfl) ?_
  refine lv_iconst (v := nI 0) hx hb dX7_readWell_1 (by decide) ?_
  refine xk_put hx hb hts (inX7_readWell_X7) tyX7 tyX7_ok nmX7 hown hK hI hP hS 0 (by omega) (ci := 7) e2_obj rfl 16 (by decide) (flX7_readWell_104 hts) rfl rfl (by decide +kernel) (Nat.le_of_ble_eq_true rfl) e2_loc (by rw [e2_obj]; simp [up]) dX7_readWell_2 (fun H locs hP hS => ?_)
  refine lv_aload_n hx hb dX7_readWell_5 rfl (lv_at hl 0 rfl) ?_
  refine lv_iconst (v := nI 0) hx hb dX7_readWell_6 (by decide) ?_
  refine xk_put hx hb hts (inX7_readWell_X7) tyX7 tyX7_ok nmX7 hown hK hI hP hS 0 (by omega) (ci := 7) e2_obj rfl 17 (by decide) (flX7_readWell_110 hts) rfl rfl (by decide +kernel) (Nat.le_of_ble_eq_true rfl) e2_loc (by rw [e2_obj]; simp [up]) dX7_readWell_7 (fun H locs hP hS => ?_)
  refine lv_aload_n hx hb dX7_readWell_10 rfl (lv_at hl 0 rfl) ?_
  refine lv_iload_n hx hb dX7_readWell_11 rfl (lv_at hl 1 rfl) ?_
  refine lv_bipush (v := nI 103) hx hb dX7_readWell_12 (by decide) ?_
  have hF0 : FrM σ (up (up σ 0 16 (nI 0)) 0 17 (nI 0)) := (FrM_up (by omega)).tr (FrM_up (by omega))
  by_cases q_14 : cd t m 0 = nI 103
  · refine xk_fi (va_runV (As := [.int (nI (F + m)), .int (nI 103)]) (rest := []) ⟨hx, hb, hml, hown, hts⟩ (k2_sign_t l hI (F := F) (m := m) (k := 0) (t := t) (C := 103) hE (fr3 hC hF0) (by rw [up_n (by omega), up_n (by omega)]; exact hA) (by omega) (by omega) q_14) (cwV 2 hts gX7_readWell_X7_isSign rfl rfl rfl (by decide +kernel) ⟨Nat.le_of_ble_eq_true rfl, Nat.le_of_ble_eq_true rfl⟩) (xk_preV X2_ok hK hX hP (xk_recv hK hP 0 (by omega) (ci := 7) e2_obj rfl)) rfl rfl hl.1 rfl (lv_room (Nat.le_of_ble_eq_true rfl)) dX7_readWell_14 ⟨Nat.le_of_ble_eq_true rfl, Nat.le_of_ble_eq_true rfl⟩) hS (fun H locs hP hS => ?_)
    have hkk := sg_k q_14 (by omega)
    refine xn_zne (tgt := 22) hx hb dX7_readWell_17 (by decide) (by omega) (fun c_17 => ?_) (fun c_17 => absurd c_17 (by omega))
    refine lv_aload_n hx hb dX7_readWell_22 rfl (lv_at hl 0 rfl) ?_
    refine lv_aload_n hx hb dX7_readWell_23 rfl (lv_at hl 0 rfl) ?_
    refine lv_iload_n hx hb dX7_readWell_24 rfl (lv_at hl 1 rfl) ?_
    refine lv_bipush (v := nI 9) hx hb dX7_readWell_25 (by decide) ?_
    have hF1 : FrM σ (up (up (up σ 0 16 (nI 0)) 0 17 (nI 0)) 0 14 (nI (F + 0 + 1))) := hF0.tr (FrM_up (by omega))
    by_cases q_27 : dg (cd t m 1) 9
    · refine xk_fi (va_runV (As := [.int (nI (F + m)), .int (nI 9)]) (rest := [.ref (ad 0)]) ⟨hx, hb, hml, hown, hts⟩ (k2_digit_t l hI (F := F) (m := m) (k := 1) (t := t) (q := 9) hE (fr3 hC hF1) (by rw [up_s]) (by omega) (by omega) q_27) (cwV 2 hts gX7_readWell_X7_digit rfl rfl rfl (by decide +kernel) ⟨Nat.le_of_ble_eq_true rfl, Nat.le_of_ble_eq_true rfl⟩) (xk_preV X2_ok hK hX hP (xk_recv hK hP 0 (by omega) (ci := 7) e2_obj rfl)) rfl rfl hl.1 rfl (lv_room (Nat.le_of_ble_eq_true rfl)) dX7_readWell_27 ⟨Nat.le_of_ble_eq_true rfl, Nat.le_of_ble_eq_true rfl⟩) hS (fun H locs hP hS => ?_)
      have hkk := dg_k q_27
      have hdv := dg_dv q_27 (by omega)
      refine xk_put hx hb hts (inX7_readWell_X7) tyX7 tyX7_ok nmX7 hown hK hI hP hS 0 (by omega) (ci := 7) e2_obj rfl 15 (by decide) (flX7_readWell_98 hts) rfl rfl (by decide +kernel) (Nat.le_of_ble_eq_true rfl) e2_loc (by rw [e2_obj]; simp [up]) dX7_readWell_30 (fun H locs hP hS => ?_)
      refine lv_aload_n hx hb dX7_readWell_33 rfl (lv_at hl 0 rfl) ?_
      refine xk_get hx hb hts (inX7_readWell_X7) hown hK hP 0 (by omega) (ci := 7) e2_obj rfl 15 (by decide) (flX7_readWell_98 hts) rfl (.int ((up (up (up (up (up σ 0 16 (nI 0)) 0 17 (nI 0)) 0 14 (nI (F + 0 + 1))) 0 14 (nI (F + 1 + 1))) 0 15 (nI (dv (cd t m 1)))) 0 15)) rfl dX7_readWell_34 ?_
      refine xn_eqi (y := nI (dv (cd t m 1))) up_s ?_
      refine lv_bipush (v := (-9)) hx hb dX7_readWell_37 (by decide) ?_
      refine lv_icmp_eq (tgt := 50) hx hb dX7_readWell_39 (by decide) (fun c_39 => absurd c_39 (nI_n9' (by omega))) (fun c_39 => ?_)
      refine lv_aload_n hx hb dX7_readWell_42 rfl (lv_at hl 0 rfl) ?_
      refine lv_iload_n hx hb dX7_readWell_43 rfl (lv_at hl 1 rfl) ?_
      have hF2 : FrM σ (up (up (up (up (up σ 0 16 (nI 0)) 0 17 (nI 0)) 0 14 (nI (F + 0 + 1))) 0 14 (nI (F + 1 + 1))) 0 15 (nI (dv (cd t m 1)))) := (hF1.tr (FrM_up (by omega))).tr (FrM_up (by omega))
      refine xk_ci (va_runV (As := [.int (nI (F + m))]) (rest := []) ⟨hx, hb, hml, hown, hts⟩ (k2_rota l hI (F := F) (m := m) (t := t) hE (fr3 hC hF2) (by rw [up_n (by omega), up_s]) (by rw [up_n (by omega), up_n (by omega), up_n (by omega), up_n (by omega), up_s]) (by omega)) (cwV 1 hts gX7_readWell_X7_readTheRota rfl rfl rfl (by decide +kernel) ⟨Nat.le_of_ble_eq_true rfl, Nat.le_of_ble_eq_true rfl⟩) (xk_preV X2_ok hK hX hP (xk_recv hK hP 0 (by omega) (ci := 7) e2_obj rfl)) rfl rfl hl.1 rfl (lv_room (Nat.le_of_ble_eq_true rfl)) dX7_readWell_44 ⟨Nat.le_of_ble_eq_true rfl, Nat.le_of_ble_eq_true rfl⟩) hS (fun r44 τ44 H locs hp hP hS => ?_)
      obtain ⟨rfl, hfr44, hfj44, hat44, h1644, hr44⟩ := hp
      have hF3 : FrM σ τ44 := hF2.tr ⟨fun j a => hfj44 j (by omega) (by omega), fun i a b => hfr44 i a (by omega)⟩
      have hpl := pls_le (cd t m) 6 0
      have hplm : 2 + pls (cd t m) 6 0 ≤ m := by
        rcases Nat.eq_zero_or_pos (pls (cd t m) 6 0) with z | z
        · omega
        · have := dg_k (hpl.2.2 (pls (cd t m) 6 0 - 1) (Nat.zero_le _) (by omega)); omega
      by_cases q_47 : pls (cd t m) 6 0 = 0
      · rw [if_pos q_47]
        refine xn_zne (tgt := 52) hx hb dX7_readWell_47 (by decide) (by omega) (fun c_47 => absurd c_47 (by omega)) (fun c_47 => ?_)
        refine lv_iconst (v := nI 0) hx hb dX7_readWell_50 (by decide) ?_
        exact xk_iret hx hb hr rfl X2_ok hK hX hP hS hlk dX7_readWell_51 (⟨fun f hf => by rw [show parse (cd t m) m = .inl 2 by rw [parse, if_pos q_14, if_pos q_27, if_pos q_47]] at hf; cases hf; exact ⟨rfl, by rw [hat44, q_47]⟩, fun nn hn => (by rw [show parse (cd t m) m = .inl 2 by rw [parse, if_pos q_14, if_pos q_27, if_pos q_47]] at hn; cases hn), hF3⟩)
      · rw [if_neg q_47]
        refine xn_zne (tgt := 52) hx hb dX7_readWell_47 (by decide) (by omega) (fun c_47 => ?_) (fun c_47 => absurd c_47 (by omega))
        have hpa0 : tf (cd t m) m (5 - 0) 0 (2 + pls (cd t m) 6 0 + 6 * 0) = parse (cd t m) m := by rw [parse, if_pos q_14, if_pos q_27, if_neg q_47]; rfl
        have LP_52 : ∀ (n_52 : Nat) (x : Nat) (s : Nat) (τ : Sg), (x ≤ 5) → (s ≤ m) → (s = 2 + pls (cd t m) 6 0 + 6 * x) → (tf (cd t m) m (5 - x) x s = parse (cd t m) m) → (FrM σ τ) → (τ 0 14 = nI (F + s)) → (τ 0 17 = nI x) → (τ 0 15 = nI (dv (cd t m 1))) → (τ 0 16 = nI (pls (cd t m) 6 0)) → (∀ j, j < pls (cd t m) 6 0 → τ 10 j = nI (dv (cd t m (2 + j)))) → (∀ y, y < x → ∀ f, f < 5 → τ 11 (5 * y + f) = nI (pth (cd t m) (pls (cd t m) 6 0) y f)) → (5 - x) < n_52 → ∀ (H : Heap) (locs : List Loc) (ls : Array Slot), va_P D vwCl (wl ad 18 (en2 ad ca τ)) H → va_S (AA ad 18) sS.heap H locs → lv_has ls 2 [(0, .ref (ad 0)), (1, .int (nI (F + m)))] → Wwi2 pP l eE { frames := 3, cells := 0, slots := 0, locals := 68 } sS mM [.ref (ad 0), .int (nI (F + m))] below meth cC D ca ad (fun r σ' => (∀ f, parse (cd t m) m = .inl f → r = nI 0 ∧ σ' 0 14 = nI (F + f)) ∧ (∀ nn, parse (cd t m) m = .inr nn → r = nI 1 ∧ σ' 0 15 = nI (dv (cd t m 1)) ∧ σ' 0 16 = nI (pls (cd t m) 6 0) ∧ σ' 0 17 = nI nn ∧ (∀ j, j < pls (cd t m) 6 0 → σ' 10 j = nI (dv (cd t m (2 + j)))) ∧ ∀ y, y < nn → ∀ f, f < 5 → σ' 11 (5 * y + f) = nI (pth (cd t m) (pls (cd t m) 6 0) y f)) ∧ FrM σ σ') H locs (F0 mM 52 ls []) := by
          intro n_52
          induction n_52 with
          | zero =>
            intro x s τ hx5 hsm hs hv hFr hat hm17 h15 h16 h10 h11 hn_52
            exact absurd hn_52 (Nat.not_lt_zero _)
          | succ n_52 ih_52 =>
            intro x s τ hx5 hsm hs hv hFr hat hm17 h15 h16 h10 h11 hn_52 H locs ls hP hS hl
            refine lv_aload_n hx hb dX7_readWell_52 rfl (lv_at hl 0 rfl) ?_
            refine xk_get hx hb hts (inX7_readWell_X7) hown hK hP 0 (by omega) (ci := 7) e2_obj rfl 17 (by decide) (flX7_readWell_110 hts) rfl (.int (τ 0 17)) rfl dX7_readWell_53 ?_
            refine xn_eqi (y := nI x) hm17 ?_
            refine xn_zeq (tgt := 75) hx hb dX7_readWell_56 (by decide) (by omega) (fun c_56 => ?_) (fun c_56 => ?_)
            · refine lv_aload_n hx hb dX7_readWell_75 rfl (lv_at hl 0 rfl) ?_
              refine lv_iload_n hx hb dX7_readWell_76 rfl (lv_at hl 1 rfl) ?_
              refine lv_bipush (v := nI 59) hx hb dX7_readWell_77 (by decide) ?_
              by_cases q_79 : cd t m s = nI 59
              · refine xk_fi (va_runV (As := [.int (nI (F + m)), .int (nI 59)]) (rest := []) ⟨hx, hb, hml, hown, hts⟩ (k2_sign_t l hI (F := F) (m := m) (k := s) (t := t) (C := 59) hE (fr3 hC hFr) hat (by omega) (by omega) q_79) (cwV 2 hts gX7_readWell_X7_isSign rfl rfl rfl (by decide +kernel) ⟨Nat.le_of_ble_eq_true rfl, Nat.le_of_ble_eq_true rfl⟩) (xk_preV X2_ok hK hX hP (xk_recv hK hP 0 (by omega) (ci := 7) e2_obj rfl)) rfl rfl hl.1 rfl (lv_room (Nat.le_of_ble_eq_true rfl)) dX7_readWell_79 ⟨Nat.le_of_ble_eq_true rfl, Nat.le_of_ble_eq_true rfl⟩) hS (fun H locs hP hS => ?_)
                have hkk := sg_k q_79 (by omega)
                refine xn_zeq (tgt := 93) hx hb dX7_readWell_82 (by decide) (by omega) (fun c_82 => absurd c_82 (by omega)) (fun c_82 => ?_)
                refine lv_aload_n hx hb dX7_readWell_85 rfl (lv_at hl 0 rfl) ?_
                refine lv_iload_n hx hb dX7_readWell_86 rfl (lv_at hl 1 rfl) ?_
                have hF5 : FrM σ (up τ 0 14 (nI (F + s + 1))) := hFr.tr (FrM_up (by omega))
                refine xk_ci (va_runV (As := [.int (nI (F + m))]) (rest := []) ⟨hx, hb, hml, hown, hts⟩ (k2_thing l hI (F := F) (m := m) (x := x) (s := s) (t := t) hE (fr3 hC hF5) (by rw [up_s]; congr 1) (by rw [up_n (by omega)]; exact hm17) (by omega) (by omega)) (cwV 1 hts gX7_readWell_X7_readThing rfl rfl rfl (by decide +kernel) ⟨Nat.le_of_ble_eq_true rfl, Nat.le_of_ble_eq_true rfl⟩) (xk_preV X2_ok hK hX hP (xk_recv hK hP 0 (by omega) (ci := 7) e2_obj rfl)) rfl rfl hl.1 rfl (lv_room (Nat.le_of_ble_eq_true rfl)) dX7_readWell_87 ⟨Nat.le_of_ble_eq_true rfl, Nat.le_of_ble_eq_true rfl⟩) hS (fun r87 τ87 H locs hp hP hS => ?_)
                obtain ⟨hor, hfr87, hfj87, hro87⟩ := hp
                have hF6 : FrM σ τ87 := hF5.tr ⟨fun j a => hfj87 j (by omega) (by omega), fun i a b => hfr87 i a (by omega)⟩
                rcases hor with ⟨h6, rfl, hsm6, hat6, hm6, hk6, hv6⟩ | ⟨h6, rfl, hat6⟩
                · refine xn_zne (tgt := 52) hx hb dX7_readWell_90 (by decide) (by omega) (fun c_90 => ?_) (fun c_90 => absurd c_90 (by omega))
                  exact ih_52 (x + 1) (s + 6) τ87 (by omega) (by omega) (by omega) (by rw [← hv, show 5 - x = (5 - (x + 1)) + 1 by omega, tf, if_neg (by omega), if_pos (by rw [f6_z q_79]; exact h6)]) hF6 (by rw [hat6]) hm6 (by rw [hfj87 15 (by omega) (by omega), up_n (by omega)]; exact h15) (by rw [hfj87 16 (by omega) (by omega), up_n (by omega)]; exact h16) (fun j hj => by rw [hfr87 10 (by omega) (by omega), up_r (by omega)]; exact h10 j hj) (fun y hy f hf => by
            by_cases hyx : y = x
            · rw [hyx]
              by_cases hf0 : f = 0
              · rw [hf0, Nat.add_zero, hk6, pth, if_pos rfl, hs]
              · rw [hv6 f (by omega) (by omega), pth, if_neg hf0, hs]
            · rw [hro87 _ (by omega), up_r (by omega)]; exact h11 y (by omega) f hf) (by omega) _ _ _ hP hS (lv_sub hl [0, 1] rfl)
                · refine xn_zne (tgt := 52) hx hb dX7_readWell_90 (by decide) (by omega) (fun c_90 => absurd c_90 (by omega)) (fun c_90 => ?_)
                  refine lv_iconst (v := nI 0) hx hb dX7_readWell_93 (by decide) ?_
                  exact xk_iret hx hb hr rfl X2_ok hK hX hP hS hlk dX7_readWell_94 (⟨fun f hf => by rw [show parse (cd t m) m = .inl (s + f6 (cd t m) s 5 1) by rw [← hv, show 5 - x = (4 - x) + 1 by omega, tf, if_neg (by omega), if_neg (by rw [f6_z q_79]; exact h6), f6_z q_79]] at hf; cases hf; exact ⟨rfl, hat6⟩, fun nn hn => (by rw [show parse (cd t m) m = .inl (s + f6 (cd t m) s 5 1) by rw [← hv, show 5 - x = (4 - x) + 1 by omega, tf, if_neg (by omega), if_neg (by rw [f6_z q_79]; exact h6), f6_z q_79]] at hn; cases hn), hF6⟩)
              · refine xk_fi (va_runV (As := [.int (nI (F + m)), .int (nI 59)]) (rest := []) ⟨hx, hb, hml, hown, hts⟩ (k2_sign_f l hI (F := F) (m := m) (k := s) (t := t) (C := 59) hE (fr3 hC hFr) hat (by omega) (by omega) q_79) (cwV 2 hts gX7_readWell_X7_isSign rfl rfl rfl (by decide +kernel) ⟨Nat.le_of_ble_eq_true rfl, Nat.le_of_ble_eq_true rfl⟩) (xk_preV X2_ok hK hX hP (xk_recv hK hP 0 (by omega) (ci := 7) e2_obj rfl)) rfl rfl hl.1 rfl (lv_room (Nat.le_of_ble_eq_true rfl)) dX7_readWell_79 ⟨Nat.le_of_ble_eq_true rfl, Nat.le_of_ble_eq_true rfl⟩) hS (fun H locs hP hS => ?_)
                refine xn_zeq (tgt := 93) hx hb dX7_readWell_82 (by decide) (by omega) (fun c_82 => ?_) (fun c_82 => absurd c_82 (by omega))
                refine lv_iconst (v := nI 0) hx hb dX7_readWell_93 (by decide) ?_
                exact xk_iret hx hb hr rfl X2_ok hK hX hP hS hlk dX7_readWell_94 (⟨fun f hf => by rw [show parse (cd t m) m = .inl s by rw [← hv, show 5 - x = (4 - x) + 1 by omega, tf, if_neg (by omega), if_neg (by rw [f6_zn q_79]; omega), f6_zn q_79, Nat.add_zero]] at hf; cases hf; exact ⟨rfl, hat⟩, fun nn hn => (by rw [show parse (cd t m) m = .inl s by rw [← hv, show 5 - x = (4 - x) + 1 by omega, tf, if_neg (by omega), if_neg (by rw [f6_zn q_79]; omega), f6_zn q_79, Nat.add_zero]] at hn; cases hn), hFr⟩)
            · refine lv_aload_n hx hb dX7_readWell_59 rfl (lv_at hl 0 rfl) ?_
              refine xk_get hx hb hts (inX7_readWell_X7) hown hK hP 0 (by omega) (ci := 7) e2_obj rfl 17 (by decide) (flX7_readWell_110 hts) rfl (.int (τ 0 17)) rfl dX7_readWell_60 ?_
              refine xn_eqi (y := nI x) hm17 ?_
              refine lv_iconst (v := nI 5) hx hb dX7_readWell_63 (by decide) ?_
              refine xn_ige (tgt := 95) hx hb dX7_readWell_64 (by decide) (by omega) (by omega) (fun c_64 => ?_) (fun c_64 => ?_)
              · refine lv_aload_n hx hb dX7_readWell_95 rfl (lv_at hl 0 rfl) ?_
                refine xk_get hx hb hts (inX7_readWell_X7) hown hK hP 0 (by omega) (ci := 7) e2_obj rfl 14 (by decide) (flX7_readWell_74 hts) rfl (.int (τ 0 14)) rfl dX7_readWell_96 ?_
                refine xn_eqi (y := nI (F + s)) hat ?_
                refine lv_iload_n hx hb dX7_readWell_99 rfl (lv_at hl 1 rfl) ?_
                refine xn_ine (tgt := 107) hx hb dX7_readWell_100 (by decide) (by omega) (by omega) (fun c_100 => ?_) (fun c_100 => ?_)
                · refine lv_iconst (v := nI 0) hx hb dX7_readWell_107 (by decide) ?_
                  exact xk_iret hx hb hr rfl X2_ok hK hX hP hS hlk dX7_readWell_108 (⟨fun f hf => by rw [show parse (cd t m) m = .inl s by rw [← hv, show 5 - x = 0 by omega, tf, if_neg (by omega)]] at hf; cases hf; exact ⟨rfl, hat⟩, fun nn hn => (by rw [show parse (cd t m) m = .inl s by rw [← hv, show 5 - x = 0 by omega, tf, if_neg (by omega)]] at hn; cases hn), hFr⟩)
                · refine lv_iconst (v := nI 1) hx hb dX7_readWell_103 (by decide) ?_
                  refine lv_goto (tgt := 108) hx hb dX7_readWell_104 (by decide) ?_
                  exact xk_iret hx hb hr rfl X2_ok hK hX hP hS hlk dX7_readWell_108 (⟨fun f hf => (by rw [show parse (cd t m) m = .inr x by rw [← hv, show 5 - x = 0 by omega, tf, if_pos (by omega)]] at hf; cases hf), fun nn hn => (by rw [show parse (cd t m) m = .inr x by rw [← hv, show 5 - x = 0 by omega, tf, if_pos (by omega)]] at hn; cases hn; exact ⟨rfl, h15, h16, hm17, h10, h11⟩), hFr⟩)
              · refine lv_aload_n hx hb dX7_readWell_67 rfl (lv_at hl 0 rfl) ?_
                refine xk_get hx hb hts (inX7_readWell_X7) hown hK hP 0 (by omega) (ci := 7) e2_obj rfl 14 (by decide) (flX7_readWell_74 hts) rfl (.int (τ 0 14)) rfl dX7_readWell_68 ?_
                refine xn_eqi (y := nI (F + s)) hat ?_
                refine lv_iload_n hx hb dX7_readWell_71 rfl (lv_at hl 1 rfl) ?_
                refine xn_ige (tgt := 95) hx hb dX7_readWell_72 (by decide) (by omega) (by omega) (fun c_72 => ?_) (fun c_72 => ?_)
                · refine lv_aload_n hx hb dX7_readWell_95 rfl (lv_at hl 0 rfl) ?_
                  refine xk_get hx hb hts (inX7_readWell_X7) hown hK hP 0 (by omega) (ci := 7) e2_obj rfl 14 (by decide) (flX7_readWell_74 hts) rfl (.int (τ 0 14)) rfl dX7_readWell_96 ?_
                  refine xn_eqi (y := nI (F + s)) hat ?_
                  refine lv_iload_n hx hb dX7_readWell_99 rfl (lv_at hl 1 rfl) ?_
                  refine xn_ine (tgt := 107) hx hb dX7_readWell_100 (by decide) (by omega) (by omega) (fun c_100 => ?_) (fun c_100 => ?_)
                  · refine lv_iconst (v := nI 0) hx hb dX7_readWell_107 (by decide) ?_
                    exact xk_iret hx hb hr rfl X2_ok hK hX hP hS hlk dX7_readWell_108 (⟨fun f hf => by rw [show parse (cd t m) m = .inl s by exact absurd (show s = m by omega) (by omega)] at hf; cases hf; exact ⟨rfl, hat⟩, fun nn hn => (by rw [show parse (cd t m) m = .inl s by exact absurd (show s = m by omega) (by omega)] at hn; cases hn), hFr⟩)
                  · refine lv_iconst (v := nI 1) hx hb dX7_readWell_103 (by decide) ?_
                    refine lv_goto (tgt := 108) hx hb dX7_readWell_104 (by decide) ?_
                    exact xk_iret hx hb hr rfl X2_ok hK hX hP hS hlk dX7_readWell_108 (⟨fun f hf => (by rw [show parse (cd t m) m = .inr x by rw [← hv, show 5 - x = (4 - x) + 1 by omega, tf, if_pos ⟨by omega, by omega⟩]] at hf; cases hf), fun nn hn => (by rw [show parse (cd t m) m = .inr x by rw [← hv, show 5 - x = (4 - x) + 1 by omega, tf, if_pos ⟨by omega, by omega⟩]] at hn; cases hn; exact ⟨rfl, h15, h16, hm17, h10, h11⟩), hFr⟩)
                · refine lv_aload_n hx hb dX7_readWell_75 rfl (lv_at hl 0 rfl) ?_
                  refine lv_iload_n hx hb dX7_readWell_76 rfl (lv_at hl 1 rfl) ?_
                  refine lv_bipush (v := nI 59) hx hb dX7_readWell_77 (by decide) ?_
                  by_cases q_79 : cd t m s = nI 59
                  · refine xk_fi (va_runV (As := [.int (nI (F + m)), .int (nI 59)]) (rest := []) ⟨hx, hb, hml, hown, hts⟩ (k2_sign_t l hI (F := F) (m := m) (k := s) (t := t) (C := 59) hE (fr3 hC hFr) hat (by omega) (by omega) q_79) (cwV 2 hts gX7_readWell_X7_isSign rfl rfl rfl (by decide +kernel) ⟨Nat.le_of_ble_eq_true rfl, Nat.le_of_ble_eq_true rfl⟩) (xk_preV X2_ok hK hX hP (xk_recv hK hP 0 (by omega) (ci := 7) e2_obj rfl)) rfl rfl hl.1 rfl (lv_room (Nat.le_of_ble_eq_true rfl)) dX7_readWell_79 ⟨Nat.le_of_ble_eq_true rfl, Nat.le_of_ble_eq_true rfl⟩) hS (fun H locs hP hS => ?_)
                    have hkk := sg_k q_79 (by omega)
                    refine xn_zeq (tgt := 93) hx hb dX7_readWell_82 (by decide) (by omega) (fun c_82 => absurd c_82 (by omega)) (fun c_82 => ?_)
                    refine lv_aload_n hx hb dX7_readWell_85 rfl (lv_at hl 0 rfl) ?_
                    refine lv_iload_n hx hb dX7_readWell_86 rfl (lv_at hl 1 rfl) ?_
                    have hF5 : FrM σ (up τ 0 14 (nI (F + s + 1))) := hFr.tr (FrM_up (by omega))
                    refine xk_ci (va_runV (As := [.int (nI (F + m))]) (rest := []) ⟨hx, hb, hml, hown, hts⟩ (k2_thing l hI (F := F) (m := m) (x := x) (s := s) (t := t) hE (fr3 hC hF5) (by rw [up_s]; congr 1) (by rw [up_n (by omega)]; exact hm17) (by omega) (by omega)) (cwV 1 hts gX7_readWell_X7_readThing rfl rfl rfl (by decide +kernel) ⟨Nat.le_of_ble_eq_true rfl, Nat.le_of_ble_eq_true rfl⟩) (xk_preV X2_ok hK hX hP (xk_recv hK hP 0 (by omega) (ci := 7) e2_obj rfl)) rfl rfl hl.1 rfl (lv_room (Nat.le_of_ble_eq_true rfl)) dX7_readWell_87 ⟨Nat.le_of_ble_eq_true rfl, Nat.le_of_ble_eq_true rfl⟩) hS (fun r87 τ87 H locs hp hP hS => ?_)
                    obtain ⟨hor, hfr87, hfj87, hro87⟩ := hp
                    have hF6 : FrM σ τ87 := hF5.tr ⟨fun j a => hfj87 j (by omega) (by omega), fun i a b => hfr87 i a (by omega)⟩
                    rcases hor with ⟨h6, rfl, hsm6, hat6, hm6, hk6, hv6⟩ | ⟨h6, rfl, hat6⟩
                    · refine xn_zne (tgt := 52) hx hb dX7_readWell_90 (by decide) (by omega) (fun c_90 => ?_) (fun c_90 => absurd c_90 (by omega))
                      exact ih_52 (x + 1) (s + 6) τ87 (by omega) (by omega) (by omega) (by rw [← hv, show 5 - x = (5 - (x + 1)) + 1 by omega, tf, if_neg (by omega), if_pos (by rw [f6_z q_79]; exact h6)]) hF6 (by rw [hat6]) hm6 (by rw [hfj87 15 (by omega) (by omega), up_n (by omega)]; exact h15) (by rw [hfj87 16 (by omega) (by omega), up_n (by omega)]; exact h16) (fun j hj => by rw [hfr87 10 (by omega) (by omega), up_r (by omega)]; exact h10 j hj) (fun y hy f hf => by
            by_cases hyx : y = x
            · rw [hyx]
              by_cases hf0 : f = 0
              · rw [hf0, Nat.add_zero, hk6, pth, if_pos rfl, hs]
              · rw [hv6 f (by omega) (by omega), pth, if_neg hf0, hs]
            · rw [hro87 _ (by omega), up_r (by omega)]; exact h11 y (by omega) f hf) (by omega) _ _ _ hP hS (lv_sub hl [0, 1] rfl)
                    · refine xn_zne (tgt := 52) hx hb dX7_readWell_90 (by decide) (by omega) (fun c_90 => absurd c_90 (by omega)) (fun c_90 => ?_)
                      refine lv_iconst (v := nI 0) hx hb dX7_readWell_93 (by decide) ?_
                      exact xk_iret hx hb hr rfl X2_ok hK hX hP hS hlk dX7_readWell_94 (⟨fun f hf => by rw [show parse (cd t m) m = .inl (s + f6 (cd t m) s 5 1) by rw [← hv, show 5 - x = (4 - x) + 1 by omega, tf, if_neg (by omega), if_neg (by rw [f6_z q_79]; exact h6), f6_z q_79]] at hf; cases hf; exact ⟨rfl, hat6⟩, fun nn hn => (by rw [show parse (cd t m) m = .inl (s + f6 (cd t m) s 5 1) by rw [← hv, show 5 - x = (4 - x) + 1 by omega, tf, if_neg (by omega), if_neg (by rw [f6_z q_79]; exact h6), f6_z q_79]] at hn; cases hn), hF6⟩)
                  · refine xk_fi (va_runV (As := [.int (nI (F + m)), .int (nI 59)]) (rest := []) ⟨hx, hb, hml, hown, hts⟩ (k2_sign_f l hI (F := F) (m := m) (k := s) (t := t) (C := 59) hE (fr3 hC hFr) hat (by omega) (by omega) q_79) (cwV 2 hts gX7_readWell_X7_isSign rfl rfl rfl (by decide +kernel) ⟨Nat.le_of_ble_eq_true rfl, Nat.le_of_ble_eq_true rfl⟩) (xk_preV X2_ok hK hX hP (xk_recv hK hP 0 (by omega) (ci := 7) e2_obj rfl)) rfl rfl hl.1 rfl (lv_room (Nat.le_of_ble_eq_true rfl)) dX7_readWell_79 ⟨Nat.le_of_ble_eq_true rfl, Nat.le_of_ble_eq_true rfl⟩) hS (fun H locs hP hS => ?_)
                    refine xn_zeq (tgt := 93) hx hb dX7_readWell_82 (by decide) (by omega) (fun c_82 => ?_) (fun c_82 => absurd c_82 (by omega))
                    refine lv_iconst (v := nI 0) hx hb dX7_readWell_93 (by decide) ?_
                    exact xk_iret hx hb hr rfl X2_ok hK hX hP hS hlk dX7_readWell_94 (⟨fun f hf => by rw [show parse (cd t m) m = .inl s by rw [← hv, show 5 - x = (4 - x) + 1 by omega, tf, if_neg (by omega), if_neg (by rw [f6_zn q_79]; omega), f6_zn q_79, Nat.add_zero]] at hf; cases hf; exact ⟨rfl, hat⟩, fun nn hn => (by rw [show parse (cd t m) m = .inl s by rw [← hv, show 5 - x = (4 - x) + 1 by omega, tf, if_neg (by omega), if_neg (by rw [f6_zn q_79]; omega), f6_zn q_79, Nat.add_zero]] at hn; cases hn), hFr⟩)
        exact LP_52 _ 0 (2 + pls (cd t m) 6 0 + 6 * 0) τ44 (by omega) (by omega) (by omega) hpa0 hF3 (by rw [hat44, Nat.mul_zero, Nat.add_zero]) (by rw [hfj44 17 (by omega) (by omega), up_n (by omega), up_n (by omega), up_n (by omega), up_s]) (by rw [hfj44 15 (by omega) (by omega), up_s]) h1644 hr44 (fun y hy => absurd hy (Nat.not_lt_zero _)) (Nat.lt_succ_self _) _ _ _ hP hS (lv_sub hl [0, 1] rfl)
    · refine xk_fi (va_runV (As := [.int (nI (F + m)), .int (nI 9)]) (rest := [.ref (ad 0)]) ⟨hx, hb, hml, hown, hts⟩ (k2_digit_f l hI (F := F) (m := m) (k := 1) (t := t) (q := 9) hE (fr3 hC hF1) (by rw [up_s]) (by omega) (by omega) q_27) (cwV 2 hts gX7_readWell_X7_digit rfl rfl rfl (by decide +kernel) ⟨Nat.le_of_ble_eq_true rfl, Nat.le_of_ble_eq_true rfl⟩) (xk_preV X2_ok hK hX hP (xk_recv hK hP 0 (by omega) (ci := 7) e2_obj rfl)) rfl rfl hl.1 rfl (lv_room (Nat.le_of_ble_eq_true rfl)) dX7_readWell_27 ⟨Nat.le_of_ble_eq_true rfl, Nat.le_of_ble_eq_true rfl⟩) hS (fun H locs hP hS => ?_)
      refine xk_put hx hb hts (inX7_readWell_X7) tyX7 tyX7_ok nmX7 hown hK hI hP hS 0 (by omega) (ci := 7) e2_obj rfl 15 (by decide) (flX7_readWell_98 hts) rfl rfl (by decide +kernel) (Nat.le_of_ble_eq_true rfl) e2_loc (by rw [e2_obj]; simp [up]) dX7_readWell_30 (fun H locs hP hS => ?_)
      refine lv_aload_n hx hb dX7_readWell_33 rfl (lv_at hl 0 rfl) ?_
      refine xk_get hx hb hts (inX7_readWell_X7) hown hK hP 0 (by omega) (ci := 7) e2_obj rfl 15 (by decide) (flX7_readWell_98 hts) rfl (.int ((up (up (up (up σ 0 16 (nI 0)) 0 17 (nI 0)) 0 14 (nI (F + 0 + 1))) 0 15 (-9)) 0 15)) rfl dX7_readWell_34 ?_
      refine xn_eqi (y := -9) up_s ?_
      refine lv_bipush (v := (-9)) hx hb dX7_readWell_37 (by decide) ?_
      refine lv_icmp_eq (tgt := 50) hx hb dX7_readWell_39 (by decide) (fun c_39 => ?_) (fun c_39 => absurd rfl c_39)
      refine lv_iconst (v := nI 0) hx hb dX7_readWell_50 (by decide) ?_
      exact xk_iret hx hb hr rfl X2_ok hK hX hP hS hlk dX7_readWell_51 (⟨fun f hf => by rw [show parse (cd t m) m = .inl 1 by rw [parse, if_pos q_14, if_neg q_27]] at hf; cases hf; exact ⟨rfl, by rw [up_n (by omega), up_s]⟩, fun nn hn => (by rw [show parse (cd t m) m = .inl 1 by rw [parse, if_pos q_14, if_neg q_27]] at hn; cases hn), hF1.tr (FrM_up (by omega))⟩)
  · refine xk_fi (va_runV (As := [.int (nI (F + m)), .int (nI 103)]) (rest := []) ⟨hx, hb, hml, hown, hts⟩ (k2_sign_f l hI (F := F) (m := m) (k := 0) (t := t) (C := 103) hE (fr3 hC hF0) (by rw [up_n (by omega), up_n (by omega)]; exact hA) (by omega) (by omega) q_14) (cwV 2 hts gX7_readWell_X7_isSign rfl rfl rfl (by decide +kernel) ⟨Nat.le_of_ble_eq_true rfl, Nat.le_of_ble_eq_true rfl⟩) (xk_preV X2_ok hK hX hP (xk_recv hK hP 0 (by omega) (ci := 7) e2_obj rfl)) rfl rfl hl.1 rfl (lv_room (Nat.le_of_ble_eq_true rfl)) dX7_readWell_14 ⟨Nat.le_of_ble_eq_true rfl, Nat.le_of_ble_eq_true rfl⟩) hS (fun H locs hP hS => ?_)
    refine xn_zne (tgt := 22) hx hb dX7_readWell_17 (by decide) (by omega) (fun c_17 => absurd c_17 (by omega)) (fun c_17 => ?_)
    refine lv_iconst (v := nI 0) hx hb dX7_readWell_20 (by decide) ?_
    exact xk_iret hx hb hr rfl X2_ok hK hX hP hS hlk dX7_readWell_21 (⟨fun f hf => by rw [show parse (cd t m) m = .inl 0 by rw [parse, if_neg q_14]] at hf; cases hf; exact ⟨rfl, by rw [up_n (by omega), up_n (by omega)]; exact hA⟩, fun nn hn => (by rw [show parse (cd t m) m = .inl 0 by rw [parse, if_neg q_14]] at hn; cases hn), hF0⟩)

set_option maxRecDepth 20000 in
theorem flX7_takeWell_19 {s : State} {av : Array Value} (hts : ∀ w ∈ wsX7_takeWell, w.before av s = true) : (Cond.fieldLink RX7 19 "WellBackModel" "rota" "[I").before av s = true := hts _ (by decide +kernel)
set_option maxRecDepth 20000 in
theorem flX7_takeWell_22 {s : State} {av : Array Value} (hts : ∀ w ∈ wsX7_takeWell, w.before av s = true) : (Cond.fieldLink RX7 22 "WellBackModel" "kind" "[I").before av s = true := hts _ (by decide +kernel)
set_option maxRecDepth 20000 in
theorem flX7_takeWell_25 {s : State} {av : Array Value} (hts : ∀ w ∈ wsX7_takeWell, w.before av s = true) : (Cond.fieldLink RX7 25 "WellBackModel" "weight" "[I").before av s = true := hts _ (by decide +kernel)
set_option maxRecDepth 20000 in
theorem flX7_takeWell_28 {s : State} {av : Array Value} (hts : ∀ w ∈ wsX7_takeWell, w.before av s = true) : (Cond.fieldLink RX7 28 "WellBackModel" "owner" "[I").before av s = true := hts _ (by decide +kernel)
set_option maxRecDepth 20000 in
theorem flX7_takeWell_31 {s : State} {av : Array Value} (hts : ∀ w ∈ wsX7_takeWell, w.before av s = true) : (Cond.fieldLink RX7 31 "WellBackModel" "goal" "[I").before av s = true := hts _ (by decide +kernel)
set_option maxRecDepth 20000 in
theorem flX7_takeWell_34 {s : State} {av : Array Value} (hts : ∀ w ∈ wsX7_takeWell, w.before av s = true) : (Cond.fieldLink RX7 34 "WellBackModel" "hourOf" "[I").before av s = true := hts _ (by decide +kernel)
set_option maxRecDepth 20000 in
theorem flX7_takeWell_37 {s : State} {av : Array Value} (hts : ∀ w ∈ wsX7_takeWell, w.before av s = true) : (Cond.fieldLink RX7 37 "WellBackModel" "readRota" "[I").before av s = true := hts _ (by decide +kernel)
set_option maxRecDepth 20000 in
theorem flX7_takeWell_40 {s : State} {av : Array Value} (hts : ∀ w ∈ wsX7_takeWell, w.before av s = true) : (Cond.fieldLink RX7 40 "WellBackModel" "read" "[I").before av s = true := hts _ (by decide +kernel)
set_option maxRecDepth 20000 in
theorem flX7_takeWell_71 {s : State} {av : Array Value} (hts : ∀ w ∈ wsX7_takeWell, w.before av s = true) : (Cond.fieldLink RX7 71 "WellBackModel" "things" "I").before av s = true := hts _ (by decide +kernel)
set_option maxRecDepth 20000 in
theorem flX7_takeWell_98 {s : State} {av : Array Value} (hts : ∀ w ∈ wsX7_takeWell, w.before av s = true) : (Cond.fieldLink RX7 98 "WellBackModel" "readDepth" "I").before av s = true := hts _ (by decide +kernel)
set_option maxRecDepth 20000 in
theorem flX7_takeWell_101 {s : State} {av : Array Value} (hts : ∀ w ∈ wsX7_takeWell, w.before av s = true) : (Cond.fieldLink RX7 101 "WellBackModel" "depth" "I").before av s = true := hts _ (by decide +kernel)
set_option maxRecDepth 20000 in
theorem flX7_takeWell_104 {s : State} {av : Array Value} (hts : ∀ w ∈ wsX7_takeWell, w.before av s = true) : (Cond.fieldLink RX7 104 "WellBackModel" "readPlaces" "I").before av s = true := hts _ (by decide +kernel)
set_option maxRecDepth 20000 in
theorem flX7_takeWell_107 {s : State} {av : Array Value} (hts : ∀ w ∈ wsX7_takeWell, w.before av s = true) : (Cond.fieldLink RX7 107 "WellBackModel" "places" "I").before av s = true := hts _ (by decide +kernel)
set_option maxRecDepth 20000 in
theorem flX7_takeWell_110 {s : State} {av : Array Value} (hts : ∀ w ∈ wsX7_takeWell, w.before av s = true) : (Cond.fieldLink RX7 110 "WellBackModel" "readMany" "I").before av s = true := hts _ (by decide +kernel)
set_option maxRecDepth 20000 in
theorem flX7_takeWell_113 {s : State} {av : Array Value} (hts : ∀ w ∈ wsX7_takeWell, w.before av s = true) : (Cond.fieldLink RX7 113 "WellBackModel" "readings" "I").before av s = true := hts _ (by decide +kernel)
set_option maxRecDepth 20000 in
theorem inX7_takeWell_X7 : ∀ w ∈ u_ws RX7 TX7 30, w ∈ wsX7_takeWell := by decide +kernel
set_option maxHeartbeats 4000000 in
set_option maxRecDepth 100000 in
theorem k2_take (l : Launch) {D : va_G} {ca : Nat → ClassId} {ad : Nat → Nat} (hI : Ij ad 18) {σ : Sg} {nn P dd : Nat} {d : Nat → Nat} {th : Nat → Nat → Nat} (h15 : σ 0 15 = nI dd) (h16 : σ 0 16 = nI P) (h17 : σ 0 17 = nI nn) (hP6 : P ≤ 6) (hn5 : nn ≤ 5) (hD9 : dd ≤ 9) (h10 : ∀ j, j < P → σ 10 j = nI (d j) ∧ d j < 5) (h11 : ∀ x, x < nn → (∀ f, f < 5 → σ 11 (5 * x + f) = nI (th x f)) ∧ ThOk th x) : C2v l D ca ad yX7_takeWell wsX7_takeWell { frames := 0, cells := 0, slots := 0, locals := 0 } [.ref (ad 0)] σ (fun σ' => ThM σ' nn dd th ∧ RotaM σ' P d ∧ σ' 0 26 = nI 0 ∧ (∀ i, i ≠ 0 → (i < 4 ∨ 9 < i) → σ' i = σ i) ∧ ∀ j, j < 5 → σ' 0 j = σ 0 j) := by
  refine xk_entry cX7_takeWell 2 none (by decide) rfl (Nat.le_of_ble_eq_true rfl) ?_
  intro pP eE sS mM below meth cC hx hb hml hr hts hown hlk hP hK hX hS ls hl
  have hl : lv_has ls 2 [(0, .ref (ad 0))] := hl
  refine lv_aload_n hx hb dX7_takeWell_0 rfl (lv_at hl 0 rfl) ?_
  refine lv_aload_n hx hb dX7_takeWell_1 rfl (lv_at hl 0 rfl) ?_
  refine xk_get hx hb hts (inX7_takeWell_X7) hown hK hP 0 (by omega) (ci := 7) e2_obj rfl 15 (by decide) (flX7_takeWell_98 hts) rfl (.int (σ 0 15)) rfl dX7_takeWell_2 ?_
  refine xn_eqi (y := nI dd) h15 ?_
  refine xk_put hx hb hts (inX7_takeWell_X7) tyX7 tyX7_ok nmX7 hown hK hI hP hS 0 (by omega) (ci := 7) e2_obj rfl 5 (by decide) (flX7_takeWell_101 hts) rfl rfl (by decide +kernel) (Nat.le_of_ble_eq_true rfl) e2_loc (by rw [e2_obj]; simp [up]) dX7_takeWell_5 (fun H locs hP hS => ?_)
  refine lv_aload_n hx hb dX7_takeWell_8 rfl (lv_at hl 0 rfl) ?_
  refine lv_aload_n hx hb dX7_takeWell_9 rfl (lv_at hl 0 rfl) ?_
  refine xk_get hx hb hts (inX7_takeWell_X7) hown hK hP 0 (by omega) (ci := 7) e2_obj rfl 16 (by decide) (flX7_takeWell_104 hts) rfl (.int ((up σ 0 5 (nI dd)) 0 16)) rfl dX7_takeWell_10 ?_
  refine xn_eqi (y := nI P) ((up_n (by omega)).trans h16) ?_
  refine xk_put hx hb hts (inX7_takeWell_X7) tyX7 tyX7_ok nmX7 hown hK hI hP hS 0 (by omega) (ci := 7) e2_obj rfl 6 (by decide) (flX7_takeWell_107 hts) rfl rfl (by decide +kernel) (Nat.le_of_ble_eq_true rfl) e2_loc (by rw [e2_obj]; simp [up]) dX7_takeWell_13 (fun H locs hP hS => ?_)
  refine lv_iconst (v := nI 0) hx hb dX7_takeWell_16 (by decide) ?_
  refine lv_istore_n (lv' := [(1, .int (nI 0)), (0, .ref (ad 0))]) hx hb dX7_takeWell_17 rfl hl (by decide) rfl (fun ls hl => ?_)
  have LP_18 : ∀ (n_18 : Nat) (k : Nat) (τ : Sg), (k ≤ P) → (∀ i, i ≠ 0 → i ≠ 4 → τ i = σ i) → (∀ j, j ≠ 5 → j ≠ 6 → τ 0 j = σ 0 j) → (τ 0 5 = nI dd) → (τ 0 6 = nI P) → (∀ j, j < k → τ 4 j = nI (d j)) → (P - k) < n_18 → ∀ (H : Heap) (locs : List Loc) (ls : Array Slot), va_P D vwCl (wl ad 18 (en2 ad ca τ)) H → va_S (AA ad 18) sS.heap H locs → lv_has ls 2 [(0, .ref (ad 0)), (1, .int (nI k))] → Wwv2 pP l eE { frames := 0, cells := 0, slots := 0, locals := 0 } sS mM [.ref (ad 0)] below meth cC D ca ad (fun σ' => ThM σ' nn dd th ∧ RotaM σ' P d ∧ σ' 0 26 = nI 0 ∧ (∀ i, i ≠ 0 → (i < 4 ∨ 9 < i) → σ' i = σ i) ∧ ∀ j, j < 5 → σ' 0 j = σ 0 j) H locs (F0 mM 18 ls []) := by
    intro n_18
    induction n_18 with
    | zero =>
      intro k τ hk hfr hfj h5 h6 h4 hn_18
      exact absurd hn_18 (Nat.not_lt_zero _)
    | succ n_18 ih_18 =>
      intro k τ hk hfr hfj h5 h6 h4 hn_18 H locs ls hP hS hl
      refine lv_iload_n hx hb dX7_takeWell_18 rfl (lv_at hl 1 rfl) ?_
      refine lv_aload_n hx hb dX7_takeWell_19 rfl (lv_at hl 0 rfl) ?_
      refine xk_get hx hb hts (inX7_takeWell_X7) hown hK hP 0 (by omega) (ci := 7) e2_obj rfl 6 (by decide) (flX7_takeWell_107 hts) rfl (.int (τ 0 6)) rfl dX7_takeWell_20 ?_
      refine xn_eqi (y := nI P) h6 ?_
      refine xn_ige (tgt := 44) hx hb dX7_takeWell_23 (by decide) (by omega) (by omega) (fun c_23 => ?_) (fun c_23 => ?_)
      · refine lv_aload_n hx hb dX7_takeWell_44 rfl (lv_at hl 0 rfl) ?_
        refine lv_aload_n hx hb dX7_takeWell_45 rfl (lv_at hl 0 rfl) ?_
        refine xk_get hx hb hts (inX7_takeWell_X7) hown hK hP 0 (by omega) (ci := 7) e2_obj rfl 17 (by decide) (flX7_takeWell_110 hts) rfl (.int (τ 0 17)) rfl dX7_takeWell_46 ?_
        refine xn_eqi (y := nI nn) ((hfj 17 (by omega) (by omega)).trans h17) ?_
        refine xk_put hx hb hts (inX7_takeWell_X7) tyX7 tyX7_ok nmX7 hown hK hI hP hS 0 (by omega) (ci := 7) e2_obj rfl 7 (by decide) (flX7_takeWell_71 hts) rfl rfl (by decide +kernel) (Nat.le_of_ble_eq_true rfl) e2_loc (by rw [e2_obj]; simp [up]) dX7_takeWell_49 (fun H locs hP hS => ?_)
        refine lv_iconst (v := nI 0) hx hb dX7_takeWell_52 (by decide) ?_
        refine lv_istore_n (lv' := [(1, .int (nI 0)), (0, .ref (ad 0))]) hx hb dX7_takeWell_53 rfl hl (by decide) rfl (fun ls hl => ?_)
        have h4P : ∀ j, j < P → τ 4 j = nI (d j) := fun j hj => h4 j (by omega)
        have LP_54 : ∀ (n_54 : Nat) (y : Nat) (τ2 : Sg), (y ≤ nn) → (∀ i, i ≠ 0 → (i < 5 ∨ 9 < i) → τ2 i = τ i) → (∀ j, j ≠ 7 → τ2 0 j = τ 0 j) → (τ2 0 7 = nI nn) → (∀ x, x < y → ∀ f, f < 5 → τ2 (5 + f) x = nI (th x f)) → (nn - y) < n_54 → ∀ (H : Heap) (locs : List Loc) (ls : Array Slot), va_P D vwCl (wl ad 18 (en2 ad ca τ2)) H → va_S (AA ad 18) sS.heap H locs → lv_has ls 2 [(0, .ref (ad 0)), (1, .int (nI y))] → Wwv2 pP l eE { frames := 0, cells := 0, slots := 0, locals := 0 } sS mM [.ref (ad 0)] below meth cC D ca ad (fun σ' => ThM σ' nn dd th ∧ RotaM σ' P d ∧ σ' 0 26 = nI 0 ∧ (∀ i, i ≠ 0 → (i < 4 ∨ 9 < i) → σ' i = σ i) ∧ ∀ j, j < 5 → σ' 0 j = σ 0 j) H locs (F0 mM 54 ls []) := by
          intro n_54
          induction n_54 with
          | zero =>
            intro y τ2 hy hfs h0 h7 hrow hn_54
            exact absurd hn_54 (Nat.not_lt_zero _)
          | succ n_54 ih_54 =>
            intro y τ2 hy hfs h0 h7 hrow hn_54 H locs ls hP hS hl
            refine lv_iload_n hx hb dX7_takeWell_54 rfl (lv_at hl 1 rfl) ?_
            refine lv_aload_n hx hb dX7_takeWell_55 rfl (lv_at hl 0 rfl) ?_
            refine xk_get hx hb hts (inX7_takeWell_X7) hown hK hP 0 (by omega) (ci := 7) e2_obj rfl 7 (by decide) (flX7_takeWell_71 hts) rfl (.int (τ2 0 7)) rfl dX7_takeWell_56 ?_
            refine xn_eqi (y := nI nn) h7 ?_
            refine xn_ige (tgt := 146) hx hb dX7_takeWell_59 (by decide) (by omega) (by omega) (fun c_59 => ?_) (fun c_59 => ?_)
            · refine lv_aload_n hx hb dX7_takeWell_146 rfl (lv_at hl 0 rfl) ?_
              refine lv_iconst (v := nI 0) hx hb dX7_takeWell_147 (by decide) ?_
              refine xk_put hx hb hts (inX7_takeWell_X7) tyX7 tyX7_ok nmX7 hown hK hI hP hS 0 (by omega) (ci := 7) e2_obj rfl 26 (by decide) (flX7_takeWell_113 hts) rfl rfl (by decide +kernel) (Nat.le_of_ble_eq_true rfl) e2_loc (by rw [e2_obj]; simp [up]) dX7_takeWell_148 (fun H locs hP hS => ?_)
              exact xk_vret hx hb hr X2_ok hK hX hP hS hlk dX7_takeWell_151 (⟨⟨by rw [up_n (by omega), h0 5 (by omega)]; exact h5, by rw [up_n (by omega)]; exact h7, hn5, hD9, fun x hx => ⟨fun f hf => by rw [up_n (by omega)]; exact hrow x (by omega) f hf, (h11 x hx).2⟩⟩, ⟨by rw [up_n (by omega), h0 6 (by omega)]; exact h6, hP6, fun k hk => ⟨by rw [up_n (by omega), hfs 4 (by omega) (by omega)]; exact h4P k hk, (h10 k hk).2⟩⟩, up_s, fun i a b => by rw [up_r a, hfs i a (by omega)]; exact hfr i a (by omega), fun j hj => by rw [up_n (by omega), h0 j (by omega)]; exact hfj j (by omega) (by omega)⟩)
            · have h2t : τ2 11 = σ 11 := (hfs 11 (by omega) (by omega)).trans (hfr 11 (by omega) (by omega))
              have hcy : ∀ f, f < 5 → τ2 11 (5 * y + f) = nI (th y f) := fun f hf => by rw [h2t]; exact (h11 y c_59).1 f hf
              refine lv_aload_n hx hb dX7_takeWell_62 rfl (lv_at hl 0 rfl) ?_
              refine xk_get hx hb hts (inX7_takeWell_X7) hown hK hP 0 (by omega) (ci := 7) e2_obj rfl 9 (by decide) (flX7_takeWell_22 hts) rfl (.ref (ad 5)) rfl dX7_takeWell_63 ?_
              refine lv_iload_n hx hb dX7_takeWell_66 rfl (lv_at hl 1 rfl) ?_
              refine lv_aload_n hx hb dX7_takeWell_67 rfl (lv_at hl 0 rfl) ?_
              refine xk_get hx hb hts (inX7_takeWell_X7) hown hK hP 0 (by omega) (ci := 7) e2_obj rfl 19 (by decide) (flX7_takeWell_40 hts) rfl (.ref (ad 11)) rfl dX7_takeWell_68 ?_
              refine lv_iconst (v := nI 5) hx hb dX7_takeWell_71 (by decide) ?_
              refine lv_iload_n hx hb dX7_takeWell_72 rfl (lv_at hl 1 rfl) ?_
              refine xn_imul hx hb dX7_takeWell_73 ?_
              refine xk_iald hx hb hK hP 11 (by omega) (n := 25) (e2_row 25 (by decide) rfl) rfl (5 * y) (by omega) (by decide) dX7_takeWell_74 ?_
              refine xn_eqi (y := nI (th y 0)) (hcy 0 (by omega)) ?_
              refine xk_iast hx hb hK hI hP hS 5 (by omega) (n := 5) (fun τ => (e2_row 5 (by decide) rfl)) rfl y (by omega) (by decide) e2_loc dX7_takeWell_75 (fun H locs hP hS => ?_)
              refine lv_aload_n hx hb dX7_takeWell_76 rfl (lv_at hl 0 rfl) ?_
              refine xk_get hx hb hts (inX7_takeWell_X7) hown hK hP 0 (by omega) (ci := 7) e2_obj rfl 10 (by decide) (flX7_takeWell_25 hts) rfl (.ref (ad 6)) rfl dX7_takeWell_77 ?_
              refine lv_iload_n hx hb dX7_takeWell_80 rfl (lv_at hl 1 rfl) ?_
              refine lv_aload_n hx hb dX7_takeWell_81 rfl (lv_at hl 0 rfl) ?_
              refine xk_get hx hb hts (inX7_takeWell_X7) hown hK hP 0 (by omega) (ci := 7) e2_obj rfl 19 (by decide) (flX7_takeWell_40 hts) rfl (.ref (ad 11)) rfl dX7_takeWell_82 ?_
              refine lv_iconst (v := nI 5) hx hb dX7_takeWell_85 (by decide) ?_
              refine lv_iload_n hx hb dX7_takeWell_86 rfl (lv_at hl 1 rfl) ?_
              refine xn_imul hx hb dX7_takeWell_87 ?_
              refine lv_iconst (v := nI 1) hx hb dX7_takeWell_88 (by decide) ?_
              refine xn_iadd hx hb dX7_takeWell_89 ?_
              refine xk_iald hx hb hK hP 11 (by omega) (n := 25) (e2_row 25 (by decide) rfl) rfl ((5 * y) + 1) (by omega) (by decide) dX7_takeWell_90 ?_
              refine xn_eqi (y := nI (th y 1)) ((up_n (by omega)).trans (hcy 1 (by omega))) ?_
              refine xk_iast hx hb hK hI hP hS 6 (by omega) (n := 5) (fun τ => (e2_row 5 (by decide) rfl)) rfl y (by omega) (by decide) e2_loc dX7_takeWell_91 (fun H locs hP hS => ?_)
              refine lv_aload_n hx hb dX7_takeWell_92 rfl (lv_at hl 0 rfl) ?_
              refine xk_get hx hb hts (inX7_takeWell_X7) hown hK hP 0 (by omega) (ci := 7) e2_obj rfl 11 (by decide) (flX7_takeWell_28 hts) rfl (.ref (ad 7)) rfl dX7_takeWell_93 ?_
              refine lv_iload_n hx hb dX7_takeWell_96 rfl (lv_at hl 1 rfl) ?_
              refine lv_aload_n hx hb dX7_takeWell_97 rfl (lv_at hl 0 rfl) ?_
              refine xk_get hx hb hts (inX7_takeWell_X7) hown hK hP 0 (by omega) (ci := 7) e2_obj rfl 19 (by decide) (flX7_takeWell_40 hts) rfl (.ref (ad 11)) rfl dX7_takeWell_98 ?_
              refine lv_iconst (v := nI 5) hx hb dX7_takeWell_101 (by decide) ?_
              refine lv_iload_n hx hb dX7_takeWell_102 rfl (lv_at hl 1 rfl) ?_
              refine xn_imul hx hb dX7_takeWell_103 ?_
              refine lv_iconst (v := nI 2) hx hb dX7_takeWell_104 (by decide) ?_
              refine xn_iadd hx hb dX7_takeWell_105 ?_
              refine xk_iald hx hb hK hP 11 (by omega) (n := 25) (e2_row 25 (by decide) rfl) rfl ((5 * y) + 2) (by omega) (by decide) dX7_takeWell_106 ?_
              refine xn_eqi (y := nI (th y 2)) ((up_n (by omega)).trans ((up_n (by omega)).trans (hcy 2 (by omega)))) ?_
              refine xk_iast hx hb hK hI hP hS 7 (by omega) (n := 5) (fun τ => (e2_row 5 (by decide) rfl)) rfl y (by omega) (by decide) e2_loc dX7_takeWell_107 (fun H locs hP hS => ?_)
              refine lv_aload_n hx hb dX7_takeWell_108 rfl (lv_at hl 0 rfl) ?_
              refine xk_get hx hb hts (inX7_takeWell_X7) hown hK hP 0 (by omega) (ci := 7) e2_obj rfl 12 (by decide) (flX7_takeWell_31 hts) rfl (.ref (ad 8)) rfl dX7_takeWell_109 ?_
              refine lv_iload_n hx hb dX7_takeWell_112 rfl (lv_at hl 1 rfl) ?_
              refine lv_aload_n hx hb dX7_takeWell_113 rfl (lv_at hl 0 rfl) ?_
              refine xk_get hx hb hts (inX7_takeWell_X7) hown hK hP 0 (by omega) (ci := 7) e2_obj rfl 19 (by decide) (flX7_takeWell_40 hts) rfl (.ref (ad 11)) rfl dX7_takeWell_114 ?_
              refine lv_iconst (v := nI 5) hx hb dX7_takeWell_117 (by decide) ?_
              refine lv_iload_n hx hb dX7_takeWell_118 rfl (lv_at hl 1 rfl) ?_
              refine xn_imul hx hb dX7_takeWell_119 ?_
              refine lv_iconst (v := nI 3) hx hb dX7_takeWell_120 (by decide) ?_
              refine xn_iadd hx hb dX7_takeWell_121 ?_
              refine xk_iald hx hb hK hP 11 (by omega) (n := 25) (e2_row 25 (by decide) rfl) rfl ((5 * y) + 3) (by omega) (by decide) dX7_takeWell_122 ?_
              refine xn_eqi (y := nI (th y 3)) ((up_n (by omega)).trans ((up_n (by omega)).trans ((up_n (by omega)).trans (hcy 3 (by omega))))) ?_
              refine xk_iast hx hb hK hI hP hS 8 (by omega) (n := 5) (fun τ => (e2_row 5 (by decide) rfl)) rfl y (by omega) (by decide) e2_loc dX7_takeWell_123 (fun H locs hP hS => ?_)
              refine lv_aload_n hx hb dX7_takeWell_124 rfl (lv_at hl 0 rfl) ?_
              refine xk_get hx hb hts (inX7_takeWell_X7) hown hK hP 0 (by omega) (ci := 7) e2_obj rfl 13 (by decide) (flX7_takeWell_34 hts) rfl (.ref (ad 9)) rfl dX7_takeWell_125 ?_
              refine lv_iload_n hx hb dX7_takeWell_128 rfl (lv_at hl 1 rfl) ?_
              refine lv_aload_n hx hb dX7_takeWell_129 rfl (lv_at hl 0 rfl) ?_
              refine xk_get hx hb hts (inX7_takeWell_X7) hown hK hP 0 (by omega) (ci := 7) e2_obj rfl 19 (by decide) (flX7_takeWell_40 hts) rfl (.ref (ad 11)) rfl dX7_takeWell_130 ?_
              refine lv_iconst (v := nI 5) hx hb dX7_takeWell_133 (by decide) ?_
              refine lv_iload_n hx hb dX7_takeWell_134 rfl (lv_at hl 1 rfl) ?_
              refine xn_imul hx hb dX7_takeWell_135 ?_
              refine lv_iconst (v := nI 4) hx hb dX7_takeWell_136 (by decide) ?_
              refine xn_iadd hx hb dX7_takeWell_137 ?_
              refine xk_iald hx hb hK hP 11 (by omega) (n := 25) (e2_row 25 (by decide) rfl) rfl ((5 * y) + 4) (by omega) (by decide) dX7_takeWell_138 ?_
              refine xn_eqi (y := nI (th y 4)) ((up_n (by omega)).trans ((up_n (by omega)).trans ((up_n (by omega)).trans ((up_n (by omega)).trans (hcy 4 (by omega)))))) ?_
              refine xk_iast hx hb hK hI hP hS 9 (by omega) (n := 5) (fun τ => (e2_row 5 (by decide) rfl)) rfl y (by omega) (by decide) e2_loc dX7_takeWell_139 (fun H locs hP hS => ?_)
              refine lv_iinc (v := nI (y + 1)) (lv' := [(1, .int (nI (y + 1))), (0, .ref (ad 0))]) hx hb dX7_takeWell_140 hl (k := 1) rfl (xn_inc _ 1) (by decide) rfl (fun ls hl => ?_)
              refine lv_goto (tgt := 54) hx hb dX7_takeWell_143 (by decide) ?_
              exact ih_54 (y + 1) (up (up (up (up (up τ2 5 y (nI (th y 0))) 6 y (nI (th y 1))) 7 y (nI (th y 2))) 8 y (nI (th y 3))) 9 y (nI (th y 4))) (by omega) (fun i a b => by rw [up_r (by omega), up_r (by omega), up_r (by omega), up_r (by omega), up_r (by omega)]; exact hfs i a b) (by rw [up_r (by omega), up_r (by omega), up_r (by omega), up_r (by omega), up_r (by omega)]; exact h0) (by rw [up_r (by omega), up_r (by omega), up_r (by omega), up_r (by omega), up_r (by omega)]; exact h7) (fun x hx f hf => by
          by_cases hxy : x = y
          · rw [hxy]
            rcases (show f = 0 ∨ f = 1 ∨ f = 2 ∨ f = 3 ∨ f = 4 by omega) with e | e | e | e | e <;> subst e <;> simp [up, Nat.add_comm 1, Nat.add_comm 2, Nat.add_comm 3, Nat.add_comm 4]
          · rw [up_n (by omega), up_n (by omega), up_n (by omega), up_n (by omega), up_n (by omega)]; exact hrow x (by omega) f hf) (by omega) _ _ _ hP hS (lv_sub hl [1, 0] rfl)
        exact LP_54 _ 0 (up τ 0 7 (nI nn)) (by omega) (fun i a b => up_r a) (fun j a => up_n (by omega)) up_s (fun x hx => absurd hx (Nat.not_lt_zero _)) (Nat.lt_succ_self _) _ _ _ hP hS (lv_sub hl [1, 0] rfl)
      · refine lv_aload_n hx hb dX7_takeWell_26 rfl (lv_at hl 0 rfl) ?_
        refine xk_get hx hb hts (inX7_takeWell_X7) hown hK hP 0 (by omega) (ci := 7) e2_obj rfl 8 (by decide) (flX7_takeWell_19 hts) rfl (.ref (ad 4)) rfl dX7_takeWell_27 ?_
        refine lv_iload_n hx hb dX7_takeWell_30 rfl (lv_at hl 1 rfl) ?_
        refine lv_aload_n hx hb dX7_takeWell_31 rfl (lv_at hl 0 rfl) ?_
        refine xk_get hx hb hts (inX7_takeWell_X7) hown hK hP 0 (by omega) (ci := 7) e2_obj rfl 18 (by decide) (flX7_takeWell_37 hts) rfl (.ref (ad 10)) rfl dX7_takeWell_32 ?_
        refine lv_iload_n hx hb dX7_takeWell_35 rfl (lv_at hl 1 rfl) ?_
        refine xk_iald hx hb hK hP 10 (by omega) (n := 6) (e2_row 6 (by decide) rfl) rfl k (by omega) (by decide) dX7_takeWell_36 ?_
        refine xn_eqi (y := nI (d k)) (by rw [hfr 10 (by omega) (by omega)]; exact (h10 _ (by omega)).1) ?_
        refine xk_iast hx hb hK hI hP hS 4 (by omega) (n := 6) (fun τ => (e2_row 6 (by decide) rfl)) rfl k (by omega) (by decide) e2_loc dX7_takeWell_37 (fun H locs hP hS => ?_)
        refine lv_iinc (v := nI (k + 1)) (lv' := [(1, .int (nI (k + 1))), (0, .ref (ad 0))]) hx hb dX7_takeWell_38 hl (k := 1) rfl (xn_inc _ 1) (by decide) rfl (fun ls hl => ?_)
        refine lv_goto (tgt := 18) hx hb dX7_takeWell_41 (by decide) ?_
        exact ih_18 (k + 1) (up τ 4 k (nI (d k))) (by omega) (fun i a b => by rw [up_r b]; exact hfr i a b) (fun j a b => by rw [up_n (by omega)]; exact hfj j a b) (by rw [up_n (by omega)]; exact h5) (by rw [up_n (by omega)]; exact h6) (fun j hj => by
          by_cases hjk : j = k
          · rw [hjk, up_s]
          · rw [up_n (by omega)]; exact h4 j (by omega)) (by omega) _ _ _ hP hS (lv_sub hl [1, 0] rfl)
  exact LP_18 _ 0 (up (up σ 0 5 (nI dd)) 0 6 (nI P)) (by omega) (fun i a b => by rw [up_r a, up_r a]) (fun j a b => by rw [up_n (by omega), up_n (by omega)]) (by rw [up_n (by omega), up_s]) up_s (fun j hj => absurd hj (Nat.not_lt_zero _)) (Nat.lt_succ_self _) _ _ _ hP hS (lv_sub hl [1, 0] rfl)
