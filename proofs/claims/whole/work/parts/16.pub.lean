/-! sheets, a new well, hours told, the best rota: the class's calls -/
def us {α : Type} (f : Nat → α) (k : Nat) (v : α) : Nat → α := fun j => if j = k then v else f j
def hv (x : Int32) : Nat := x.toInt.toNat
theorem hv_in {x : Int32} (h : nI 0 ≤ x ∧ x ≤ nI 23) : x = nI (hv x) ∧ hv x ≤ 23 := by
  obtain ⟨w, -, h2, rfl⟩ := xn_rng (by omega) h
  have : hv (nI w) = w := by
    unfold hv
    rw [nI_toInt (by omega)]
    omega
  rw [this]
  exact ⟨rfl, h2⟩
theorem neg_le {m : Int32} {a : Nat} (h : m < 0) (ha : a < 2 ^ 31) : m ≤ nI a := by
  rw [Int32.lt_iff_toInt_lt, Int32.toInt_zero] at h
  rw [Int32.le_iff_toInt_le, nI_toInt ha]
  omega
def upr (σ : Sg) (q : Nat) (f : Nat → Int32) : Sg := fun i j => if i = q then f j else σ i j
theorem upr_n {σ : Sg} {q i : Nat} {f : Nat → Int32} (h : i ≠ q) : upr σ q f i = σ i := by
  funext j
  simp [upr, h]
theorem upr_s {σ : Sg} {q : Nat} {f : Nat → Int32} : upr σ q f q = f := by
  funext j
  simp [upr]
theorem xk_copy {p : Program} {l : Launch} {e : Env} {R : Room} {s : State} {m : MethodId} {args : Array Value} {below : List Frame} {meth : Method} {c : Code} {H H0 : Heap} {locs : List Loc} {cells slots : Nat} {Q : State → Prop} {cc : ByteArray} {pc : Nat} {ls : Array Slot} {rest : List Value} {D : va_G} {tys : List (ClassId × FieldType)} {ad : Nat → Nat} {N : Nat} {eg : Sg → Nat → va_E} {σ : Sg}
    (hexec : p.tables.exec = Jvm.exec) (hb : c.code = cc) (hml : c.maxLocals = ls.size) {own : String} {index : Nat} (hown : s.vm.findClass own = some m.cls) (hlink : (Cond.methodLink own index arraycopyName).before args s = true) (hnat : (Cond.native arraycopyName).before args s = true) (hstat : (Cond.static arraycopyName).before args s = true) (hini : (Cond.initialized "java/lang/System").before args s = true)
    (hK : va_K D vwCl tys s) (hI : Ij ad N) (hP : va_P D vwCl (wl ad N (eg σ)) H) (hS : va_S (AA ad N) H0 H locs) (q0 q1 : Nat) (h0 : q0 < N) (h1 : q1 < N) {c0 c1 : ClassId} {n0 n1 : Nat} (he0 : eg σ q0 = .inl (c0, n0, .inl (σ q0))) (he1 : ∀ τ : Sg, eg τ q1 = .inl (c1, n1, .inl (τ q1))) (ht0 : tys[0]? = some (c0, .int)) (ht1 : tys[0]? = some (c1, .int))
    (hloc : ∀ (τ τ' : Sg) (j : Nat), τ j = τ' j → eg τ j = eg τ' j) {a b n : Nat} (ha : a + n ≤ n0) (hbn : b + n ≤ n1) (hn0 : n0 < 2 ^ 31) (hn1 : n1 < 2 ^ 31)
    (hframes : 1 ≤ R.frames) (hlocals : (rest.map fun v => v.category).sum + (nativeFrameWords "java/lang/System" "arraycopy" 5 + 11) ≤ R.locals) (hdg : decode cc pc = .ok (.invokestatic index, 3))
    (kk : ∀ (H1 : Heap) (locs1 : List Loc), va_P D vwCl (wl ad N (eg (upr σ q1 (va_cpy (σ q0) (σ q1) a b n)))) H1 → va_S (AA ad N) H0 H1 locs1 → W p l e R s m args below meth c H1 locs1 cells slots Q (F0 m (pc + 3) ls rest)) :
    W p l e R s m args below meth c H locs cells slots Q (F0 m pc ls (.int (nI n) :: .int (nI b) :: .ref (ad q1) :: .int (nI a) :: .ref (ad q0) :: rest)) := by
  refine va_copyi hexec hb hml hown hlink hnat hstat hini hK hP (wl_D hI) hS q0 q1 0 0 (wl_at h0 he0) (wl_at h1 (he1 σ)) ht0 ht1 rfl (nI_pos (by omega)) (nI_pos (by omega)) (nI_pos (by omega)) (by rw [nI_clamp (by omega), nI_clamp (by omega)]; exact ha) (by rw [nI_clamp (by omega), nI_clamp (by omega)]; exact hbn) (fun i _ => rfl) hframes hlocals hdg (fun H1 locs1 hP1 _ hS1 => ?_)
  rw [nI_clamp (by omega), nI_clamp (by omega), nI_clamp (by omega), wl_set (en' := eg (upr σ q1 (va_cpy (σ q0) (σ q1) a b n))) (by rw [he1, upr_s]) (fun i hi => hloc _ _ _ (upr_n hi))] at hP1
  exact kk H1 locs1 hP1 hS1
theorem I1_sh {n p g rn : Nat} {d : Nat → Nat} {th rd : Nat → Nat → Nat} {sl sn : Nat → Nat} {sc : Nat → Nat → Int32} {ft tr : Int32} {σ τ : Sg} {k L m : Nat} {cc : Nat → Int32} (h : I1 n p g rn d th rd sl sn sc ft tr σ) (hk : k < 4) (hf : ∀ i, i ≠ 1 + k → i ≠ 1 + k + 4 → τ i = σ i) (hZ : SheetAt τ (1 + k) L m cc) : I1 n p g rn d th rd (us sl k L) (us sn k m) (us sc k cc) ft tr τ := by
  obtain ⟨hT, hR, hRd, hSh, hnp, hft, htr⟩ := h
  obtain ⟨h1, h2, h3, h4, h5⟩ := hT
  have f0 : τ 0 = σ 0 := hf 0 (by omega) (by omega)
  refine ⟨⟨by rw [f0]; exact h1, by rw [f0]; exact h2, h3, h4, fun x hx => by rw [hf (9 + x) (by omega) (by omega)]; exact h5 x hx⟩, RotaAt_fr hR (hf _ (by omega) (by omega)) (hf _ (by omega) (by omega)), ⟨by rw [f0]; exact hRd.1, hRd.2.1, fun j hj => by rw [hf (14 + j) (by omega) (by omega)]; exact hRd.2.2 j hj⟩, fun j hj => ?_, hnp, by rw [f0]; exact hft, by rw [f0]; exact htr⟩
  by_cases hjk : j = k
  · subst hjk
    simp only [us, if_true]
    exact hZ
  · simp only [us, if_neg hjk]
    exact SheetAt_fr (hSh j hj) (hf _ (by omega) (by omega)) (hf _ (by omega) (by omega))
theorem upd_ok {f g : Nat → Int32} {n j : Nat} {v : Int32} (h : ∀ i, i < n → f i = g i) : ∀ i, i < n → upd f j v i = upd g j v i := by
  intro i hi
  unfold upd
  split
  · rfl
  · exact h i hi
theorem cpy_ok {f f' g g' : Nat → Int32} {n n' a b m : Nat} (ha : a + m ≤ n) (h : ∀ i, i < n → f i = f' i) (h' : ∀ i, i < n' → g i = g' i) : ∀ i, i < n' → va_cpy f g a b m i = va_cpy f' g' a b m i := by
  intro i hi
  unfold va_cpy
  split
  · exact h _ (by omega)
  · exact h' i hi
theorem us_id {α : Type} {f : Nat → α} {k : Nat} : us f k (f k) = f := by
  funext j
  simp only [us]
  split
  · rename_i h; rw [h]
  · rfl

theorem m1_le {a : Nat} (ha : a < 2 ^ 31) : (-1 : Int32) ≤ nI a := by
  rw [Int32.le_iff_toInt_le, nI_toInt ha]
  have : (-1 : Int32).toInt = -1 := by decide
  omega
theorem m1_ne {a : Nat} (ha : a < 2 ^ 31) : ¬ nI a = -1 := by
  intro h
  have := congrArg Int32.toInt h
  rw [nI_toInt ha] at this
  have h1 : (-1 : Int32).toInt = -1 := by decide
  omega
theorem m1_lt {p : Nat} (h : p ≤ 6) : (-1 : Int32) < nI p := by
  rw [Int32.lt_iff_toInt_lt, nI_toInt (by omega)]
  have : (-1 : Int32).toInt = -1 := by decide
  omega

set_option maxRecDepth 20000 in
theorem flX6_sheet_59 {s : State} {av : Array Value} (hts : ∀ w ∈ wsX6_sheet, w.before av s = true) : (Cond.fieldLink RX6 59 "WellBack" "latestFault" "I").before av s = true := hts _ (by decide +kernel)
set_option maxRecDepth 20000 in
theorem inX6_sheet_X6 : ∀ w ∈ u_ws RX6 TX6 13, w ∈ wsX6_sheet := by decide +kernel
set_option maxHeartbeats 4000000 in
set_option maxRecDepth 100000 in
theorem a1_sheet_so (l : Launch) {D : va_G} {ca : Nat → ClassId} {ad : Nat → Nat} (hI : Ij ad 34) {σ : Sg} {n p g rn : Nat} {d : Nat → Nat} {th rd : Nat → Nat → Nat} {sl sn : Nat → Nat} {sc : Nat → Nat → Int32} {ft tr : Int32} {k : Int32} {w m : Int32} (hJ : I1 n p g rn d th rd sl sn sc ft tr σ) (hko : ∀ j, j < 4 → k ≠ nI j) : C1i l D ca ad yX6_sheet wsX6_sheet { frames := 1, cells := 0, slots := 0, locals := 23 } [.ref (ad 0), .int k, .int w, .int m] σ (fun r σ' => r = -1 ∧ I1 n p g rn d th rd sl sn sc (nI 0) tr σ') := by
  refine xk_entry cX6_sheet 5 (some .int) (by decide) rfl (Nat.le_of_ble_eq_true rfl) ?_
  intro pP eE sS mM below meth cC hx hb hml hr hts hown hlk hP hK hX hS ls hl
  have hl : lv_has ls 5 [(0, .ref (ad 0)), (1, .int k), (2, .int w), (3, .int m)] := hl
  obtain ⟨hT, hR, hRd, hSh, hnp, hft, htr⟩ := id hJ
  have hn5 := hT.2.2.1
  have hg9 := hT.2.2.2.1
  have hp6 := hR.2.1
  have hrn8 := hRd.2.1
  refine lv_aload_n hx hb dX6_sheet_0 rfl (lv_at hl 0 rfl) ?_
  refine lv_iconst (v := nI 0) hx hb dX6_sheet_1 (by decide) ?_
  refine xk_put hx hb hts (inX6_sheet_X6) tyX6 tyX6_ok nmX6 hown hK hI hP hS 0 (by omega) (ci := 6) e1_well rfl 11 (by decide) (flX6_sheet_59 hts) rfl rfl (by decide +kernel) (Nat.le_of_ble_eq_true rfl) e1_loc (by rw [e1_well]; simp [up]) dX6_sheet_2 (fun H locs hP hS => ?_)
  obtain ⟨σ0, hσ0⟩ : ∃ τ, τ = up σ 0 11 (nI 0) := ⟨_, rfl⟩
  rw [← hσ0] at hP
  have hJ0 : I1 n p g rn d th rd sl sn sc (nI 0) tr σ0 := by rw [hσ0]; exact I1_ft hJ
  obtain ⟨hT, hR, hRd, hSh, -, hft, htr⟩ := id hJ0
  refine lv_aload_n hx hb dX6_sheet_5 rfl (lv_at hl 0 rfl) ?_
  refine lv_iload_n hx hb dX6_sheet_6 rfl (lv_at hl 1 rfl) ?_
  refine xk_fz (va_runV (As := [.int k]) (rest := []) ⟨hx, hb, hml, hown, hts⟩ (k1_sheetAt_out l hI (x := k)  (by assumption)) (cwV 1 hts gX6_sheet_X6_sheetAt rfl rfl rfl (by decide +kernel) ⟨Nat.le_of_ble_eq_true rfl, Nat.le_of_ble_eq_true rfl⟩) (xk_preV X1_ok hK hX hP (xk_recv hK hP 0 (by omega) (ci := 6) e1_well rfl)) rfl rfl hl.1 rfl (lv_room (Nat.le_of_ble_eq_true rfl)) dX6_sheet_7 ⟨Nat.le_of_ble_eq_true rfl, Nat.le_of_ble_eq_true rfl⟩) hS (fun H locs hP hS => ?_)
  refine lv_astoreN (lv' := [(4, .null), (0, .ref (ad 0)), (1, .int k), (2, .int w), (3, .int m)]) hx hb dX6_sheet_10 hl (by decide) rfl (fun ls hl => ?_)
  refine lv_aloadN hx hb dX6_sheet_12 (lv_at hl 0 rfl) ?_
  refine lv_ifnonnullN hx hb dX6_sheet_14 ?_
  refine lv_iconst (v := (-1)) hx hb dX6_sheet_17 (by decide) ?_
  exact xk_iret hx hb hr (vp_nar_int _) X1_ok hK hX hP hS hlk dX6_sheet_18 (⟨rfl, hJ0⟩)

set_option maxHeartbeats 4000000 in
set_option maxRecDepth 100000 in
theorem a1_sheet_lo (l : Launch) {D : va_G} {ca : Nat → ClassId} {ad : Nat → Nat} (hI : Ij ad 34) {σ : Sg} {n p g rn : Nat} {d : Nat → Nat} {th rd : Nat → Nat → Nat} {sl sn : Nat → Nat} {sc : Nat → Nat → Int32} {ft tr : Int32} {k : Nat} {w m : Int32} (hJ : I1 n p g rn d th rd sl sn sc ft tr σ) (hk4 : k < 4) (hwo : ¬ (nI 0 ≤ w ∧ w ≤ nI 2)) : C1i l D ca ad yX6_sheet wsX6_sheet { frames := 1, cells := 0, slots := 0, locals := 23 } [.ref (ad 0), .int (nI k), .int w, .int m] σ (fun r σ' => r = -2 ∧ I1 n p g rn d th rd sl sn sc (nI 0) tr σ') := by
  refine xk_entry cX6_sheet 5 (some .int) (by decide) rfl (Nat.le_of_ble_eq_true rfl) ?_
  intro pP eE sS mM below meth cC hx hb hml hr hts hown hlk hP hK hX hS ls hl
  have hl : lv_has ls 5 [(0, .ref (ad 0)), (1, .int (nI k)), (2, .int w), (3, .int m)] := hl
  obtain ⟨hT, hR, hRd, hSh, hnp, hft, htr⟩ := id hJ
  have hn5 := hT.2.2.1
  have hg9 := hT.2.2.2.1
  have hp6 := hR.2.1
  have hrn8 := hRd.2.1
  refine lv_aload_n hx hb dX6_sheet_0 rfl (lv_at hl 0 rfl) ?_
  refine lv_iconst (v := nI 0) hx hb dX6_sheet_1 (by decide) ?_
  refine xk_put hx hb hts (inX6_sheet_X6) tyX6 tyX6_ok nmX6 hown hK hI hP hS 0 (by omega) (ci := 6) e1_well rfl 11 (by decide) (flX6_sheet_59 hts) rfl rfl (by decide +kernel) (Nat.le_of_ble_eq_true rfl) e1_loc (by rw [e1_well]; simp [up]) dX6_sheet_2 (fun H locs hP hS => ?_)
  obtain ⟨σ0, hσ0⟩ : ∃ τ, τ = up σ 0 11 (nI 0) := ⟨_, rfl⟩
  rw [← hσ0] at hP
  have hJ0 : I1 n p g rn d th rd sl sn sc (nI 0) tr σ0 := by rw [hσ0]; exact I1_ft hJ
  obtain ⟨hT, hR, hRd, hSh, -, hft, htr⟩ := id hJ0
  have hZ := hSh k hk4
  refine lv_aload_n hx hb dX6_sheet_5 rfl (lv_at hl 0 rfl) ?_
  refine lv_iload_n hx hb dX6_sheet_6 rfl (lv_at hl 1 rfl) ?_
  refine xk_fa (va_runV (As := [.int (nI k)]) (rest := []) ⟨hx, hb, hml, hown, hts⟩ (k1_sheetAt_in l hI (x := k)  (by omega)) (cwV 1 hts gX6_sheet_X6_sheetAt rfl rfl rfl (by decide +kernel) ⟨Nat.le_of_ble_eq_true rfl, Nat.le_of_ble_eq_true rfl⟩) (xk_preV X1_ok hK hX hP (xk_recv hK hP 0 (by omega) (ci := 6) e1_well rfl)) rfl rfl hl.1 rfl (lv_room (Nat.le_of_ble_eq_true rfl)) dX6_sheet_7 ⟨Nat.le_of_ble_eq_true rfl, Nat.le_of_ble_eq_true rfl⟩) hS (fun H locs hP hS => ?_)
  refine lv_astore (lv' := [(4, .ref (ad (1 + k))), (0, .ref (ad 0)), (1, .int (nI k)), (2, .int w), (3, .int m)]) hx hb dX6_sheet_10 hl (by decide) rfl (fun ls hl => ?_)
  refine lv_aload hx hb dX6_sheet_12 (lv_at hl 0 rfl) ?_
  refine lv_ifnonnull (tgt := 19) hx hb dX6_sheet_14 (by decide) ?_
  refine lv_iload_n hx hb dX6_sheet_19 rfl (lv_at hl 3 rfl) ?_
  refine lv_iconst (v := nI 0) hx hb dX6_sheet_20 (by decide) ?_
  refine lv_iconst (v := nI 2) hx hb dX6_sheet_21 (by decide) ?_
  refine xk_fi (va_runS (As := [.int w, .int (nI 0), .int (nI 2)]) (rest := []) ⟨hx, hb, hml, hown, hts⟩ (k1_within_f l hI w (nI 0) (nI 2) (by assumption)) (va_cwS 3 hts gX6_sheet_X6_within rfl rfl rfl (by decide +kernel) ⟨Nat.le_of_ble_eq_true rfl, Nat.le_of_ble_eq_true rfl⟩) (xk_preS X1_ok hK hX hP) rfl rfl hl.1 rfl (lv_room (Nat.le_of_ble_eq_true rfl)) dX6_sheet_22 ⟨Nat.le_of_ble_eq_true rfl, Nat.le_of_ble_eq_true rfl⟩) hS (fun H locs hP hS => ?_)
  refine xn_zeq (tgt := 34) hx hb dX6_sheet_25 (by decide) (by omega) (fun c_25 => ?_) (fun c_25 => absurd c_25 (by omega))
  refine lv_bipush (v := (-2)) hx hb dX6_sheet_34 (by decide) ?_
  exact xk_iret hx hb hr (vp_nar_int _) X1_ok hK hX hP hS hlk dX6_sheet_36 (⟨rfl, hJ0⟩)

set_option maxHeartbeats 4000000 in
set_option maxRecDepth 100000 in
theorem a1_sheet_mo (l : Launch) {D : va_G} {ca : Nat → ClassId} {ad : Nat → Nat} (hI : Ij ad 34) {σ : Sg} {n p g rn : Nat} {d : Nat → Nat} {th rd : Nat → Nat → Nat} {sl sn : Nat → Nat} {sc : Nat → Nat → Int32} {ft tr : Int32} {k : Nat} {w : Nat} {m : Int32} (hJ : I1 n p g rn d th rd sl sn sc ft tr σ) (hk4 : k < 4) (hw2 : w ≤ 2) (hmo : nI 60 < m) : C1i l D ca ad yX6_sheet wsX6_sheet { frames := 1, cells := 0, slots := 0, locals := 23 } [.ref (ad 0), .int (nI k), .int (nI w), .int m] σ (fun r σ' => r = -2 ∧ I1 n p g rn d th rd sl sn sc (nI 0) tr σ') := by
  refine xk_entry cX6_sheet 5 (some .int) (by decide) rfl (Nat.le_of_ble_eq_true rfl) ?_
  intro pP eE sS mM below meth cC hx hb hml hr hts hown hlk hP hK hX hS ls hl
  have hl : lv_has ls 5 [(0, .ref (ad 0)), (1, .int (nI k)), (2, .int (nI w)), (3, .int m)] := hl
  obtain ⟨hT, hR, hRd, hSh, hnp, hft, htr⟩ := id hJ
  have hn5 := hT.2.2.1
  have hg9 := hT.2.2.2.1
  have hp6 := hR.2.1
  have hrn8 := hRd.2.1
  refine lv_aload_n hx hb dX6_sheet_0 rfl (lv_at hl 0 rfl) ?_
  refine lv_iconst (v := nI 0) hx hb dX6_sheet_1 (by decide) ?_
  refine xk_put hx hb hts (inX6_sheet_X6) tyX6 tyX6_ok nmX6 hown hK hI hP hS 0 (by omega) (ci := 6) e1_well rfl 11 (by decide) (flX6_sheet_59 hts) rfl rfl (by decide +kernel) (Nat.le_of_ble_eq_true rfl) e1_loc (by rw [e1_well]; simp [up]) dX6_sheet_2 (fun H locs hP hS => ?_)
  obtain ⟨σ0, hσ0⟩ : ∃ τ, τ = up σ 0 11 (nI 0) := ⟨_, rfl⟩
  rw [← hσ0] at hP
  have hJ0 : I1 n p g rn d th rd sl sn sc (nI 0) tr σ0 := by rw [hσ0]; exact I1_ft hJ
  obtain ⟨hT, hR, hRd, hSh, -, hft, htr⟩ := id hJ0
  have hZ := hSh k hk4
  refine lv_aload_n hx hb dX6_sheet_5 rfl (lv_at hl 0 rfl) ?_
  refine lv_iload_n hx hb dX6_sheet_6 rfl (lv_at hl 1 rfl) ?_
  refine xk_fa (va_runV (As := [.int (nI k)]) (rest := []) ⟨hx, hb, hml, hown, hts⟩ (k1_sheetAt_in l hI (x := k)  (by omega)) (cwV 1 hts gX6_sheet_X6_sheetAt rfl rfl rfl (by decide +kernel) ⟨Nat.le_of_ble_eq_true rfl, Nat.le_of_ble_eq_true rfl⟩) (xk_preV X1_ok hK hX hP (xk_recv hK hP 0 (by omega) (ci := 6) e1_well rfl)) rfl rfl hl.1 rfl (lv_room (Nat.le_of_ble_eq_true rfl)) dX6_sheet_7 ⟨Nat.le_of_ble_eq_true rfl, Nat.le_of_ble_eq_true rfl⟩) hS (fun H locs hP hS => ?_)
  refine lv_astore (lv' := [(4, .ref (ad (1 + k))), (0, .ref (ad 0)), (1, .int (nI k)), (2, .int (nI w)), (3, .int m)]) hx hb dX6_sheet_10 hl (by decide) rfl (fun ls hl => ?_)
  refine lv_aload hx hb dX6_sheet_12 (lv_at hl 0 rfl) ?_
  refine lv_ifnonnull (tgt := 19) hx hb dX6_sheet_14 (by decide) ?_
  refine lv_iload_n hx hb dX6_sheet_19 rfl (lv_at hl 3 rfl) ?_
  refine lv_iconst (v := nI 0) hx hb dX6_sheet_20 (by decide) ?_
  refine lv_iconst (v := nI 2) hx hb dX6_sheet_21 (by decide) ?_
  refine xk_fi (va_runS (As := [.int (nI w), .int (nI 0), .int (nI 2)]) (rest := []) ⟨hx, hb, hml, hown, hts⟩ (k1_within_t l hI (nI w) (nI 0) (nI 2) (xn_in (by omega) (by omega) (by omega))) (va_cwS 3 hts gX6_sheet_X6_within rfl rfl rfl (by decide +kernel) ⟨Nat.le_of_ble_eq_true rfl, Nat.le_of_ble_eq_true rfl⟩) (xk_preS X1_ok hK hX hP) rfl rfl hl.1 rfl (lv_room (Nat.le_of_ble_eq_true rfl)) dX6_sheet_22 ⟨Nat.le_of_ble_eq_true rfl, Nat.le_of_ble_eq_true rfl⟩) hS (fun H locs hP hS => ?_)
  refine xn_zeq (tgt := 34) hx hb dX6_sheet_25 (by decide) (by omega) (fun c_25 => absurd c_25 (by omega)) (fun c_25 => ?_)
  refine lv_iload_n hx hb dX6_sheet_28 rfl (lv_at hl 4 rfl) ?_
  refine lv_bipush (v := nI 60) hx hb dX6_sheet_29 (by decide) ?_
  refine lv_icmp_le (tgt := 37) hx hb dX6_sheet_31 (by decide) (fun c_31 => absurd c_31 (fun q => Int32.not_lt.mpr q hmo)) (fun c_31 => ?_)
  refine lv_bipush (v := (-2)) hx hb dX6_sheet_34 (by decide) ?_
  exact xk_iret hx hb hr (vp_nar_int _) X1_ok hK hX hP hS hlk dX6_sheet_36 (⟨rfl, hJ0⟩)

set_option maxHeartbeats 4000000 in
set_option maxRecDepth 100000 in
theorem a1_sheet_ne (l : Launch) {D : va_G} {ca : Nat → ClassId} {ad : Nat → Nat} (hI : Ij ad 34) {σ : Sg} {n p g rn : Nat} {d : Nat → Nat} {th rd : Nat → Nat → Nat} {sl sn : Nat → Nat} {sc : Nat → Nat → Int32} {ft tr : Int32} {k : Nat} {w : Nat} {m : Int32} (hJ : I1 n p g rn d th rd sl sn sc ft tr σ) (hk4 : k < 4) (hw2 : w ≤ 2) (hm0 : m < 0) : C1i l D ca ad yX6_sheet wsX6_sheet { frames := 1, cells := 0, slots := 0, locals := 23 } [.ref (ad 0), .int (nI k), .int (nI w), .int m] σ (fun r σ' => r = (-10) - nI 4 ∧ I1 n p g rn d th rd sl sn sc (nI 4) tr σ') := by
  refine xk_entry cX6_sheet 5 (some .int) (by decide) rfl (Nat.le_of_ble_eq_true rfl) ?_
  intro pP eE sS mM below meth cC hx hb hml hr hts hown hlk hP hK hX hS ls hl
  have hl : lv_has ls 5 [(0, .ref (ad 0)), (1, .int (nI k)), (2, .int (nI w)), (3, .int m)] := hl
  obtain ⟨hT, hR, hRd, hSh, hnp, hft, htr⟩ := id hJ
  have hn5 := hT.2.2.1
  have hg9 := hT.2.2.2.1
  have hp6 := hR.2.1
  have hrn8 := hRd.2.1
  refine lv_aload_n hx hb dX6_sheet_0 rfl (lv_at hl 0 rfl) ?_
  refine lv_iconst (v := nI 0) hx hb dX6_sheet_1 (by decide) ?_
  refine xk_put hx hb hts (inX6_sheet_X6) tyX6 tyX6_ok nmX6 hown hK hI hP hS 0 (by omega) (ci := 6) e1_well rfl 11 (by decide) (flX6_sheet_59 hts) rfl rfl (by decide +kernel) (Nat.le_of_ble_eq_true rfl) e1_loc (by rw [e1_well]; simp [up]) dX6_sheet_2 (fun H locs hP hS => ?_)
  obtain ⟨σ0, hσ0⟩ : ∃ τ, τ = up σ 0 11 (nI 0) := ⟨_, rfl⟩
  rw [← hσ0] at hP
  have hJ0 : I1 n p g rn d th rd sl sn sc (nI 0) tr σ0 := by rw [hσ0]; exact I1_ft hJ
  obtain ⟨hT, hR, hRd, hSh, -, hft, htr⟩ := id hJ0
  have hZ := hSh k hk4
  refine lv_aload_n hx hb dX6_sheet_5 rfl (lv_at hl 0 rfl) ?_
  refine lv_iload_n hx hb dX6_sheet_6 rfl (lv_at hl 1 rfl) ?_
  refine xk_fa (va_runV (As := [.int (nI k)]) (rest := []) ⟨hx, hb, hml, hown, hts⟩ (k1_sheetAt_in l hI (x := k)  (by omega)) (cwV 1 hts gX6_sheet_X6_sheetAt rfl rfl rfl (by decide +kernel) ⟨Nat.le_of_ble_eq_true rfl, Nat.le_of_ble_eq_true rfl⟩) (xk_preV X1_ok hK hX hP (xk_recv hK hP 0 (by omega) (ci := 6) e1_well rfl)) rfl rfl hl.1 rfl (lv_room (Nat.le_of_ble_eq_true rfl)) dX6_sheet_7 ⟨Nat.le_of_ble_eq_true rfl, Nat.le_of_ble_eq_true rfl⟩) hS (fun H locs hP hS => ?_)
  refine lv_astore (lv' := [(4, .ref (ad (1 + k))), (0, .ref (ad 0)), (1, .int (nI k)), (2, .int (nI w)), (3, .int m)]) hx hb dX6_sheet_10 hl (by decide) rfl (fun ls hl => ?_)
  refine lv_aload hx hb dX6_sheet_12 (lv_at hl 0 rfl) ?_
  refine lv_ifnonnull (tgt := 19) hx hb dX6_sheet_14 (by decide) ?_
  refine lv_iload_n hx hb dX6_sheet_19 rfl (lv_at hl 3 rfl) ?_
  refine lv_iconst (v := nI 0) hx hb dX6_sheet_20 (by decide) ?_
  refine lv_iconst (v := nI 2) hx hb dX6_sheet_21 (by decide) ?_
  refine xk_fi (va_runS (As := [.int (nI w), .int (nI 0), .int (nI 2)]) (rest := []) ⟨hx, hb, hml, hown, hts⟩ (k1_within_t l hI (nI w) (nI 0) (nI 2) (xn_in (by omega) (by omega) (by omega))) (va_cwS 3 hts gX6_sheet_X6_within rfl rfl rfl (by decide +kernel) ⟨Nat.le_of_ble_eq_true rfl, Nat.le_of_ble_eq_true rfl⟩) (xk_preS X1_ok hK hX hP) rfl rfl hl.1 rfl (lv_room (Nat.le_of_ble_eq_true rfl)) dX6_sheet_22 ⟨Nat.le_of_ble_eq_true rfl, Nat.le_of_ble_eq_true rfl⟩) hS (fun H locs hP hS => ?_)
  refine xn_zeq (tgt := 34) hx hb dX6_sheet_25 (by decide) (by omega) (fun c_25 => absurd c_25 (by omega)) (fun c_25 => ?_)
  refine lv_iload_n hx hb dX6_sheet_28 rfl (lv_at hl 4 rfl) ?_
  refine lv_bipush (v := nI 60) hx hb dX6_sheet_29 (by decide) ?_
  refine lv_icmp_le (tgt := 37) hx hb dX6_sheet_31 (by decide) (fun c_31 => ?_) (fun c_31 => absurd (neg_le hm0 (by decide)) c_31)
  refine lv_iload_n hx hb dX6_sheet_37 rfl (lv_at hl 4 rfl) ?_
  refine lv_if_ge (tgt := 47) hx hb dX6_sheet_38 (by decide) (fun c_38 => absurd c_38 (fun q => Int32.not_lt.mpr q hm0)) (fun c_38 => ?_)
  refine lv_aload_n hx hb dX6_sheet_41 rfl (lv_at hl 1 rfl) ?_
  refine lv_iconst (v := nI 4) hx hb dX6_sheet_42 (by decide) ?_
  refine xk_fi (va_runV (As := [.int (nI 4)]) (rest := []) ⟨hx, hb, hml, hown, hts⟩ (k1_faulted l hI 4) (cwV 1 hts gX6_sheet_X6_faulted rfl rfl rfl (by decide +kernel) ⟨Nat.le_of_ble_eq_true rfl, Nat.le_of_ble_eq_true rfl⟩) (xk_preV X1_ok hK hX hP (xk_recv hK hP 0 (by omega) (ci := 6) e1_well rfl)) rfl rfl hl.1 rfl (lv_room (Nat.le_of_ble_eq_true rfl)) dX6_sheet_43 ⟨Nat.le_of_ble_eq_true rfl, Nat.le_of_ble_eq_true rfl⟩) hS (fun H locs hP hS => ?_)
  exact xk_iret hx hb hr (vp_nar_int _) X1_ok hK hX hP hS hlk dX6_sheet_46 (⟨rfl, I1_ft hJ0⟩)

set_option maxHeartbeats 4000000 in
set_option maxRecDepth 100000 in
theorem a1_sheet_ok (l : Launch) {D : va_G} {ca : Nat → ClassId} {ad : Nat → Nat} (hI : Ij ad 34) {σ : Sg} {n p g rn : Nat} {d : Nat → Nat} {th rd : Nat → Nat → Nat} {sl sn : Nat → Nat} {sc : Nat → Nat → Int32} {ft tr : Int32} {k : Nat} {w : Nat} {m : Nat} (hJ : I1 n p g rn d th rd sl sn sc ft tr σ) (hk4 : k < 4) (hw2 : w ≤ 2) (hm6 : m ≤ 60) : C1i l D ca ad yX6_sheet wsX6_sheet { frames := 1, cells := 0, slots := 0, locals := 23 } [.ref (ad 0), .int (nI k), .int (nI w), .int (nI m)] σ (fun r σ' => r = nI 1 ∧ I1 n p g rn d th rd (us sl k w) (us sn k m) (us sc k (fun _ => nI 0)) (nI 0) tr σ') := by
  refine xk_entry cX6_sheet 5 (some .int) (by decide) rfl (Nat.le_of_ble_eq_true rfl) ?_
  intro pP eE sS mM below meth cC hx hb hml hr hts hown hlk hP hK hX hS ls hl
  have hl : lv_has ls 5 [(0, .ref (ad 0)), (1, .int (nI k)), (2, .int (nI w)), (3, .int (nI m))] := hl
  obtain ⟨hT, hR, hRd, hSh, hnp, hft, htr⟩ := id hJ
  have hn5 := hT.2.2.1
  have hg9 := hT.2.2.2.1
  have hp6 := hR.2.1
  have hrn8 := hRd.2.1
  refine lv_aload_n hx hb dX6_sheet_0 rfl (lv_at hl 0 rfl) ?_
  refine lv_iconst (v := nI 0) hx hb dX6_sheet_1 (by decide) ?_
  refine xk_put hx hb hts (inX6_sheet_X6) tyX6 tyX6_ok nmX6 hown hK hI hP hS 0 (by omega) (ci := 6) e1_well rfl 11 (by decide) (flX6_sheet_59 hts) rfl rfl (by decide +kernel) (Nat.le_of_ble_eq_true rfl) e1_loc (by rw [e1_well]; simp [up]) dX6_sheet_2 (fun H locs hP hS => ?_)
  obtain ⟨σ0, hσ0⟩ : ∃ τ, τ = up σ 0 11 (nI 0) := ⟨_, rfl⟩
  rw [← hσ0] at hP
  have hJ0 : I1 n p g rn d th rd sl sn sc (nI 0) tr σ0 := by rw [hσ0]; exact I1_ft hJ
  obtain ⟨hT, hR, hRd, hSh, -, hft, htr⟩ := id hJ0
  have hZ := hSh k hk4
  refine lv_aload_n hx hb dX6_sheet_5 rfl (lv_at hl 0 rfl) ?_
  refine lv_iload_n hx hb dX6_sheet_6 rfl (lv_at hl 1 rfl) ?_
  refine xk_fa (va_runV (As := [.int (nI k)]) (rest := []) ⟨hx, hb, hml, hown, hts⟩ (k1_sheetAt_in l hI (x := k)  (by omega)) (cwV 1 hts gX6_sheet_X6_sheetAt rfl rfl rfl (by decide +kernel) ⟨Nat.le_of_ble_eq_true rfl, Nat.le_of_ble_eq_true rfl⟩) (xk_preV X1_ok hK hX hP (xk_recv hK hP 0 (by omega) (ci := 6) e1_well rfl)) rfl rfl hl.1 rfl (lv_room (Nat.le_of_ble_eq_true rfl)) dX6_sheet_7 ⟨Nat.le_of_ble_eq_true rfl, Nat.le_of_ble_eq_true rfl⟩) hS (fun H locs hP hS => ?_)
  refine lv_astore (lv' := [(4, .ref (ad (1 + k))), (0, .ref (ad 0)), (1, .int (nI k)), (2, .int (nI w)), (3, .int (nI m))]) hx hb dX6_sheet_10 hl (by decide) rfl (fun ls hl => ?_)
  refine lv_aload hx hb dX6_sheet_12 (lv_at hl 0 rfl) ?_
  refine lv_ifnonnull (tgt := 19) hx hb dX6_sheet_14 (by decide) ?_
  refine lv_iload_n hx hb dX6_sheet_19 rfl (lv_at hl 3 rfl) ?_
  refine lv_iconst (v := nI 0) hx hb dX6_sheet_20 (by decide) ?_
  refine lv_iconst (v := nI 2) hx hb dX6_sheet_21 (by decide) ?_
  refine xk_fi (va_runS (As := [.int (nI w), .int (nI 0), .int (nI 2)]) (rest := []) ⟨hx, hb, hml, hown, hts⟩ (k1_within_t l hI (nI w) (nI 0) (nI 2) (xn_in (by omega) (by omega) (by omega))) (va_cwS 3 hts gX6_sheet_X6_within rfl rfl rfl (by decide +kernel) ⟨Nat.le_of_ble_eq_true rfl, Nat.le_of_ble_eq_true rfl⟩) (xk_preS X1_ok hK hX hP) rfl rfl hl.1 rfl (lv_room (Nat.le_of_ble_eq_true rfl)) dX6_sheet_22 ⟨Nat.le_of_ble_eq_true rfl, Nat.le_of_ble_eq_true rfl⟩) hS (fun H locs hP hS => ?_)
  refine xn_zeq (tgt := 34) hx hb dX6_sheet_25 (by decide) (by omega) (fun c_25 => absurd c_25 (by omega)) (fun c_25 => ?_)
  refine lv_iload_n hx hb dX6_sheet_28 rfl (lv_at hl 4 rfl) ?_
  refine lv_bipush (v := nI 60) hx hb dX6_sheet_29 (by decide) ?_
  refine xn_ile (tgt := 37) hx hb dX6_sheet_31 (by decide) (by omega) (by omega) (fun c_31 => ?_) (fun c_31 => absurd c_31 (by omega))
  refine lv_iload_n hx hb dX6_sheet_37 rfl (lv_at hl 4 rfl) ?_
  refine xn_zge (tgt := 47) hx hb dX6_sheet_38 (by decide) (by omega) (fun c_38 => ?_) (fun c_38 => absurd c_38 (by omega))
  refine lv_aload hx hb dX6_sheet_47 (lv_at hl 0 rfl) ?_
  refine lv_iload_n hx hb dX6_sheet_49 rfl (lv_at hl 3 rfl) ?_
  refine lv_iload_n hx hb dX6_sheet_50 rfl (lv_at hl 4 rfl) ?_
  refine xk_cv (va_runV (As := [.int (nI w), .int (nI m)]) (rest := []) ⟨hx, hb, hml, hown, hts⟩ (k1_beginS l hI (k := 1 + k) (w := w) (m := m) (by omega) (by omega) (by omega) hm6) (cwV 2 hts gX6_sheet_X2_begin rfl rfl rfl (by decide +kernel) ⟨Nat.le_of_ble_eq_true rfl, Nat.le_of_ble_eq_true rfl⟩) (xk_preV X1_ok hK hX hP (xk_recv hK hP (1 + k) (by omega) (ci := 2) (e1_sheet (by omega) (by omega)) rfl)) rfl rfl hl.1 rfl (lv_room (Nat.le_of_ble_eq_true rfl)) dX6_sheet_51 ⟨Nat.le_of_ble_eq_true rfl, Nat.le_of_ble_eq_true rfl⟩) hS (fun τ H locs hp hP hS => ?_)
  obtain ⟨hfz, hZz⟩ := hp
  refine lv_iconst (v := nI 1) hx hb dX6_sheet_54 (by decide) ?_
  exact xk_iret hx hb hr (vp_nar_int _) X1_ok hK hX hP hS hlk dX6_sheet_55 (⟨rfl, I1_sh hJ0 hk4 (fun i a b => hfz i a b) hZz⟩)

set_option maxHeartbeats 4000000 in
set_option maxRecDepth 100000 in
theorem a1_lose_so (l : Launch) {D : va_G} {ca : Nat → ClassId} {ad : Nat → Nat} (hI : Ij ad 34) {σ : Sg} {n p g rn : Nat} {d : Nat → Nat} {th rd : Nat → Nat → Nat} {sl sn : Nat → Nat} {sc : Nat → Nat → Int32} {ft tr : Int32} {k : Int32} (hJ : I1 n p g rn d th rd sl sn sc ft tr σ) (hko : ∀ j, j < 4 → k ≠ nI j) : C1i l D ca ad yX6_lose wsX6_lose { frames := 1, cells := 0, slots := 0, locals := 21 } [.ref (ad 0), .int k] σ (fun r σ' => r = -1 ∧ I1 n p g rn d th rd sl sn sc ft tr σ') := by
  refine xk_entry cX6_lose 4 (some .int) (by decide) rfl (Nat.le_of_ble_eq_true rfl) ?_
  intro pP eE sS mM below meth cC hx hb hml hr hts hown hlk hP hK hX hS ls hl
  have hl : lv_has ls 4 [(0, .ref (ad 0)), (1, .int k)] := hl
  obtain ⟨hT, hR, hRd, hSh, hnp, hft, htr⟩ := id hJ
  have hn5 := hT.2.2.1
  have hg9 := hT.2.2.2.1
  have hp6 := hR.2.1
  have hrn8 := hRd.2.1
  refine lv_aload_n hx hb dX6_lose_0 rfl (lv_at hl 0 rfl) ?_
  refine lv_iload_n hx hb dX6_lose_1 rfl (lv_at hl 1 rfl) ?_
  refine xk_fz (va_runV (As := [.int k]) (rest := []) ⟨hx, hb, hml, hown, hts⟩ (k1_sheetAt_out l hI (x := k)  (by assumption)) (cwV 1 hts gX6_lose_X6_sheetAt rfl rfl rfl (by decide +kernel) ⟨Nat.le_of_ble_eq_true rfl, Nat.le_of_ble_eq_true rfl⟩) (xk_preV X1_ok hK hX hP (xk_recv hK hP 0 (by omega) (ci := 6) e1_well rfl)) rfl rfl hl.1 rfl (lv_room (Nat.le_of_ble_eq_true rfl)) dX6_lose_2 ⟨Nat.le_of_ble_eq_true rfl, Nat.le_of_ble_eq_true rfl⟩) hS (fun H locs hP hS => ?_)
  refine lv_astore_nN (lv' := [(2, .null), (0, .ref (ad 0)), (1, .int k)]) hx hb dX6_lose_5 rfl hl (by decide) rfl (fun ls hl => ?_)
  refine lv_aload_nN hx hb dX6_lose_6 rfl (lv_at hl 0 rfl) ?_
  refine lv_ifnonnullN hx hb dX6_lose_7 ?_
  refine lv_iconst (v := (-1)) hx hb dX6_lose_10 (by decide) ?_
  exact xk_iret hx hb hr (vp_nar_int _) X1_ok hK hX hP hS hlk dX6_lose_11 (⟨rfl, hJ⟩)

set_option maxHeartbeats 4000000 in
set_option maxRecDepth 100000 in
theorem a1_lose_y (l : Launch) {D : va_G} {ca : Nat → ClassId} {ad : Nat → Nat} (hI : Ij ad 34) {σ : Sg} {n p g rn : Nat} {d : Nat → Nat} {th rd : Nat → Nat → Nat} {sl sn : Nat → Nat} {sc : Nat → Nat → Int32} {ft tr : Int32} {k : Nat} (hJ : I1 n p g rn d th rd sl sn sc ft tr σ) (hk4 : k < 4) (hL : sl k < 3) : C1i l D ca ad yX6_lose wsX6_lose { frames := 1, cells := 0, slots := 0, locals := 21 } [.ref (ad 0), .int (nI k)] σ (fun r σ' => r = nI 1 ∧ I1 n p g rn d th rd (us sl k 3) sn sc ft tr σ') := by
  refine xk_entry cX6_lose 4 (some .int) (by decide) rfl (Nat.le_of_ble_eq_true rfl) ?_
  intro pP eE sS mM below meth cC hx hb hml hr hts hown hlk hP hK hX hS ls hl
  have hl : lv_has ls 4 [(0, .ref (ad 0)), (1, .int (nI k))] := hl
  obtain ⟨hT, hR, hRd, hSh, hnp, hft, htr⟩ := id hJ
  have hn5 := hT.2.2.1
  have hg9 := hT.2.2.2.1
  have hp6 := hR.2.1
  have hrn8 := hRd.2.1
  have hZ := hSh k hk4
  refine lv_aload_n hx hb dX6_lose_0 rfl (lv_at hl 0 rfl) ?_
  refine lv_iload_n hx hb dX6_lose_1 rfl (lv_at hl 1 rfl) ?_
  refine xk_fa (va_runV (As := [.int (nI k)]) (rest := []) ⟨hx, hb, hml, hown, hts⟩ (k1_sheetAt_in l hI (x := k)  (by omega)) (cwV 1 hts gX6_lose_X6_sheetAt rfl rfl rfl (by decide +kernel) ⟨Nat.le_of_ble_eq_true rfl, Nat.le_of_ble_eq_true rfl⟩) (xk_preV X1_ok hK hX hP (xk_recv hK hP 0 (by omega) (ci := 6) e1_well rfl)) rfl rfl hl.1 rfl (lv_room (Nat.le_of_ble_eq_true rfl)) dX6_lose_2 ⟨Nat.le_of_ble_eq_true rfl, Nat.le_of_ble_eq_true rfl⟩) hS (fun H locs hP hS => ?_)
  refine lv_astore_n (lv' := [(2, .ref (ad (1 + k))), (0, .ref (ad 0)), (1, .int (nI k))]) hx hb dX6_lose_5 rfl hl (by decide) rfl (fun ls hl => ?_)
  refine lv_aload_n hx hb dX6_lose_6 rfl (lv_at hl 0 rfl) ?_
  refine lv_ifnonnull (tgt := 12) hx hb dX6_lose_7 (by decide) ?_
  refine lv_aload_n hx hb dX6_lose_12 rfl (lv_at hl 0 rfl) ?_
  refine xk_fi (va_runV (As := []) (rest := []) ⟨hx, hb, hml, hown, hts⟩ (k1_hasRow_t l hI (by omega) (by omega) hZ hL) (cwV 0 hts gX6_lose_X2_hasRow rfl rfl rfl (by decide +kernel) ⟨Nat.le_of_ble_eq_true rfl, Nat.le_of_ble_eq_true rfl⟩) (xk_preV X1_ok hK hX hP (xk_recv hK hP (1 + k) (by omega) (ci := 2) (e1_sheet (by omega) (by omega)) rfl)) rfl rfl hl.1 rfl (lv_room (Nat.le_of_ble_eq_true rfl)) dX6_lose_13 ⟨Nat.le_of_ble_eq_true rfl, Nat.le_of_ble_eq_true rfl⟩) hS (fun H locs hP hS => ?_)
  refine lv_istore_n (lv' := [(3, .int (nI 1)), (2, .ref (ad (1 + k))), (0, .ref (ad 0)), (1, .int (nI k))]) hx hb dX6_lose_16 rfl hl (by decide) rfl (fun ls hl => ?_)
  refine lv_aload_n hx hb dX6_lose_17 rfl (lv_at hl 1 rfl) ?_
  refine xk_fv (va_runV (As := []) (rest := []) ⟨hx, hb, hml, hown, hts⟩ (k1_empty l hI (by omega) (by omega) hZ) (cwV 0 hts gX6_lose_X2_empty rfl rfl rfl (by decide +kernel) ⟨Nat.le_of_ble_eq_true rfl, Nat.le_of_ble_eq_true rfl⟩) (xk_preV X1_ok hK hX hP (xk_recv hK hP (1 + k) (by omega) (ci := 2) (e1_sheet (by omega) (by omega)) rfl)) rfl rfl hl.1 rfl (lv_room (Nat.le_of_ble_eq_true rfl)) dX6_lose_18 ⟨Nat.le_of_ble_eq_true rfl, Nat.le_of_ble_eq_true rfl⟩) hS (fun H locs hP hS => ?_)
  refine lv_iload_n hx hb dX6_lose_21 rfl (lv_at hl 0 rfl) ?_
  refine xn_zeq (tgt := 29) hx hb dX6_lose_22 (by decide) (by omega) (fun c_22 => absurd c_22 (by omega)) (fun c_22 => ?_)
  refine lv_iconst (v := nI 1) hx hb dX6_lose_25 (by decide) ?_
  refine lv_goto (tgt := 30) hx hb dX6_lose_26 (by decide) ?_
  exact xk_iret hx hb hr (vp_nar_int _) X1_ok hK hX hP hS hlk dX6_lose_30 (⟨rfl, by have h := I1_sh (τ := up (up σ (1 + k) 1 (-9)) (1 + k) 2 (nI 0)) (L := 3) (m := sn k) (cc := sc k) hJ hk4 (fun i a b => by rw [up_r a, up_r a]) ⟨by rw [up_n (by omega), up_s]; rfl, by omega, fun q => absurd q (by omega)⟩; rw [us_id, us_id] at h; exact h⟩)

set_option maxHeartbeats 4000000 in
set_option maxRecDepth 100000 in
theorem a1_lose_no (l : Launch) {D : va_G} {ca : Nat → ClassId} {ad : Nat → Nat} (hI : Ij ad 34) {σ : Sg} {n p g rn : Nat} {d : Nat → Nat} {th rd : Nat → Nat → Nat} {sl sn : Nat → Nat} {sc : Nat → Nat → Int32} {ft tr : Int32} {k : Nat} (hJ : I1 n p g rn d th rd sl sn sc ft tr σ) (hk4 : k < 4) (hL3 : sl k = 3) : C1i l D ca ad yX6_lose wsX6_lose { frames := 1, cells := 0, slots := 0, locals := 21 } [.ref (ad 0), .int (nI k)] σ (fun r σ' => r = nI 0 ∧ I1 n p g rn d th rd (us sl k 3) sn sc ft tr σ') := by
  refine xk_entry cX6_lose 4 (some .int) (by decide) rfl (Nat.le_of_ble_eq_true rfl) ?_
  intro pP eE sS mM below meth cC hx hb hml hr hts hown hlk hP hK hX hS ls hl
  have hl : lv_has ls 4 [(0, .ref (ad 0)), (1, .int (nI k))] := hl
  obtain ⟨hT, hR, hRd, hSh, hnp, hft, htr⟩ := id hJ
  have hn5 := hT.2.2.1
  have hg9 := hT.2.2.2.1
  have hp6 := hR.2.1
  have hrn8 := hRd.2.1
  have hZ := hSh k hk4
  refine lv_aload_n hx hb dX6_lose_0 rfl (lv_at hl 0 rfl) ?_
  refine lv_iload_n hx hb dX6_lose_1 rfl (lv_at hl 1 rfl) ?_
  refine xk_fa (va_runV (As := [.int (nI k)]) (rest := []) ⟨hx, hb, hml, hown, hts⟩ (k1_sheetAt_in l hI (x := k)  (by omega)) (cwV 1 hts gX6_lose_X6_sheetAt rfl rfl rfl (by decide +kernel) ⟨Nat.le_of_ble_eq_true rfl, Nat.le_of_ble_eq_true rfl⟩) (xk_preV X1_ok hK hX hP (xk_recv hK hP 0 (by omega) (ci := 6) e1_well rfl)) rfl rfl hl.1 rfl (lv_room (Nat.le_of_ble_eq_true rfl)) dX6_lose_2 ⟨Nat.le_of_ble_eq_true rfl, Nat.le_of_ble_eq_true rfl⟩) hS (fun H locs hP hS => ?_)
  refine lv_astore_n (lv' := [(2, .ref (ad (1 + k))), (0, .ref (ad 0)), (1, .int (nI k))]) hx hb dX6_lose_5 rfl hl (by decide) rfl (fun ls hl => ?_)
  refine lv_aload_n hx hb dX6_lose_6 rfl (lv_at hl 0 rfl) ?_
  refine lv_ifnonnull (tgt := 12) hx hb dX6_lose_7 (by decide) ?_
  refine lv_aload_n hx hb dX6_lose_12 rfl (lv_at hl 0 rfl) ?_
  refine xk_fi (va_runV (As := []) (rest := []) ⟨hx, hb, hml, hown, hts⟩ (k1_hasRow_f l hI (by omega) (by omega) hZ hL3) (cwV 0 hts gX6_lose_X2_hasRow rfl rfl rfl (by decide +kernel) ⟨Nat.le_of_ble_eq_true rfl, Nat.le_of_ble_eq_true rfl⟩) (xk_preV X1_ok hK hX hP (xk_recv hK hP (1 + k) (by omega) (ci := 2) (e1_sheet (by omega) (by omega)) rfl)) rfl rfl hl.1 rfl (lv_room (Nat.le_of_ble_eq_true rfl)) dX6_lose_13 ⟨Nat.le_of_ble_eq_true rfl, Nat.le_of_ble_eq_true rfl⟩) hS (fun H locs hP hS => ?_)
  refine lv_istore_n (lv' := [(3, .int (nI 0)), (2, .ref (ad (1 + k))), (0, .ref (ad 0)), (1, .int (nI k))]) hx hb dX6_lose_16 rfl hl (by decide) rfl (fun ls hl => ?_)
  refine lv_aload_n hx hb dX6_lose_17 rfl (lv_at hl 1 rfl) ?_
  refine xk_fv (va_runV (As := []) (rest := []) ⟨hx, hb, hml, hown, hts⟩ (k1_empty l hI (by omega) (by omega) hZ) (cwV 0 hts gX6_lose_X2_empty rfl rfl rfl (by decide +kernel) ⟨Nat.le_of_ble_eq_true rfl, Nat.le_of_ble_eq_true rfl⟩) (xk_preV X1_ok hK hX hP (xk_recv hK hP (1 + k) (by omega) (ci := 2) (e1_sheet (by omega) (by omega)) rfl)) rfl rfl hl.1 rfl (lv_room (Nat.le_of_ble_eq_true rfl)) dX6_lose_18 ⟨Nat.le_of_ble_eq_true rfl, Nat.le_of_ble_eq_true rfl⟩) hS (fun H locs hP hS => ?_)
  refine lv_iload_n hx hb dX6_lose_21 rfl (lv_at hl 0 rfl) ?_
  refine xn_zeq (tgt := 29) hx hb dX6_lose_22 (by decide) (by omega) (fun c_22 => ?_) (fun c_22 => absurd c_22 (by omega))
  refine lv_iconst (v := nI 0) hx hb dX6_lose_29 (by decide) ?_
  exact xk_iret hx hb hr (vp_nar_int _) X1_ok hK hX hP hS hlk dX6_lose_30 (⟨rfl, by have h := I1_sh (τ := up (up σ (1 + k) 1 (-9)) (1 + k) 2 (nI 0)) (L := 3) (m := sn k) (cc := sc k) hJ hk4 (fun i a b => by rw [up_r a, up_r a]) ⟨by rw [up_n (by omega), up_s]; rfl, by omega, fun q => absurd q (by omega)⟩; rw [us_id, us_id] at h; exact h⟩)

set_option maxRecDepth 20000 in
theorem flX6_put_59 {s : State} {av : Array Value} (hts : ∀ w ∈ wsX6_put, w.before av s = true) : (Cond.fieldLink RX6 59 "WellBack" "latestFault" "I").before av s = true := hts _ (by decide +kernel)
set_option maxRecDepth 20000 in
theorem inX6_put_X6 : ∀ w ∈ u_ws RX6 TX6 13, w ∈ wsX6_put := by decide +kernel
set_option maxHeartbeats 4000000 in
set_option maxRecDepth 100000 in
theorem a1_put_so (l : Launch) {D : va_G} {ca : Nat → ClassId} {ad : Nat → Nat} (hI : Ij ad 34) {σ : Sg} {n p g rn : Nat} {d : Nat → Nat} {th rd : Nat → Nat → Nat} {sl sn : Nat → Nat} {sc : Nat → Nat → Int32} {ft tr : Int32} {k : Int32} {j v : Int32} (hJ : I1 n p g rn d th rd sl sn sc ft tr σ) (hko : ∀ j, j < 4 → k ≠ nI j) : C1i l D ca ad yX6_put wsX6_put { frames := 2, cells := 0, slots := 0, locals := 43 } [.ref (ad 0), .int k, .int j, .int v] σ (fun r σ' => r = -1 ∧ I1 n p g rn d th rd sl sn sc (nI 0) tr σ') := by
  refine xk_entry cX6_put 5 (some .int) (by decide) rfl (Nat.le_of_ble_eq_true rfl) ?_
  intro pP eE sS mM below meth cC hx hb hml hr hts hown hlk hP hK hX hS ls hl
  have hl : lv_has ls 5 [(0, .ref (ad 0)), (1, .int k), (2, .int j), (3, .int v)] := hl
  obtain ⟨hT, hR, hRd, hSh, hnp, hft, htr⟩ := id hJ
  have hn5 := hT.2.2.1
  have hg9 := hT.2.2.2.1
  have hp6 := hR.2.1
  have hrn8 := hRd.2.1
  refine lv_aload_n hx hb dX6_put_0 rfl (lv_at hl 0 rfl) ?_
  refine lv_iconst (v := nI 0) hx hb dX6_put_1 (by decide) ?_
  refine xk_put hx hb hts (inX6_put_X6) tyX6 tyX6_ok nmX6 hown hK hI hP hS 0 (by omega) (ci := 6) e1_well rfl 11 (by decide) (flX6_put_59 hts) rfl rfl (by decide +kernel) (Nat.le_of_ble_eq_true rfl) e1_loc (by rw [e1_well]; simp [up]) dX6_put_2 (fun H locs hP hS => ?_)
  obtain ⟨σ0, hσ0⟩ : ∃ τ, τ = up σ 0 11 (nI 0) := ⟨_, rfl⟩
  rw [← hσ0] at hP
  have hJ0 : I1 n p g rn d th rd sl sn sc (nI 0) tr σ0 := by rw [hσ0]; exact I1_ft hJ
  obtain ⟨hT, hR, hRd, hSh, -, hft, htr⟩ := id hJ0
  refine lv_aload_n hx hb dX6_put_5 rfl (lv_at hl 0 rfl) ?_
  refine lv_iload_n hx hb dX6_put_6 rfl (lv_at hl 1 rfl) ?_
  refine xk_fz (va_runV (As := [.int k]) (rest := []) ⟨hx, hb, hml, hown, hts⟩ (k1_sheetAt_out l hI (x := k)  (by assumption)) (cwV 1 hts gX6_put_X6_sheetAt rfl rfl rfl (by decide +kernel) ⟨Nat.le_of_ble_eq_true rfl, Nat.le_of_ble_eq_true rfl⟩) (xk_preV X1_ok hK hX hP (xk_recv hK hP 0 (by omega) (ci := 6) e1_well rfl)) rfl rfl hl.1 rfl (lv_room (Nat.le_of_ble_eq_true rfl)) dX6_put_7 ⟨Nat.le_of_ble_eq_true rfl, Nat.le_of_ble_eq_true rfl⟩) hS (fun H locs hP hS => ?_)
  refine lv_astoreN (lv' := [(4, .null), (0, .ref (ad 0)), (1, .int k), (2, .int j), (3, .int v)]) hx hb dX6_put_10 hl (by decide) rfl (fun ls hl => ?_)
  refine lv_aloadN hx hb dX6_put_12 (lv_at hl 0 rfl) ?_
  refine lv_ifnonnullN hx hb dX6_put_14 ?_
  refine lv_iconst (v := (-1)) hx hb dX6_put_17 (by decide) ?_
  exact xk_iret hx hb hr (vp_nar_int _) X1_ok hK hX hP hS hlk dX6_put_18 (⟨rfl, hJ0⟩)

set_option maxHeartbeats 4000000 in
set_option maxRecDepth 100000 in
theorem a1_put_nu (l : Launch) {D : va_G} {ca : Nat → ClassId} {ad : Nat → Nat} (hI : Ij ad 34) {σ : Sg} {n p g rn : Nat} {d : Nat → Nat} {th rd : Nat → Nat → Nat} {sl sn : Nat → Nat} {sc : Nat → Nat → Int32} {ft tr : Int32} {k : Nat} {j v : Int32} (hJ : I1 n p g rn d th rd sl sn sc ft tr σ) (hk4 : k < 4) (hL3 : sl k = 3) : C1i l D ca ad yX6_put wsX6_put { frames := 2, cells := 0, slots := 0, locals := 43 } [.ref (ad 0), .int (nI k), .int j, .int v] σ (fun r σ' => r = (-10) - nI 1 ∧ I1 n p g rn d th rd sl sn sc (nI 1) tr σ') := by
  refine xk_entry cX6_put 5 (some .int) (by decide) rfl (Nat.le_of_ble_eq_true rfl) ?_
  intro pP eE sS mM below meth cC hx hb hml hr hts hown hlk hP hK hX hS ls hl
  have hl : lv_has ls 5 [(0, .ref (ad 0)), (1, .int (nI k)), (2, .int j), (3, .int v)] := hl
  obtain ⟨hT, hR, hRd, hSh, hnp, hft, htr⟩ := id hJ
  have hn5 := hT.2.2.1
  have hg9 := hT.2.2.2.1
  have hp6 := hR.2.1
  have hrn8 := hRd.2.1
  refine lv_aload_n hx hb dX6_put_0 rfl (lv_at hl 0 rfl) ?_
  refine lv_iconst (v := nI 0) hx hb dX6_put_1 (by decide) ?_
  refine xk_put hx hb hts (inX6_put_X6) tyX6 tyX6_ok nmX6 hown hK hI hP hS 0 (by omega) (ci := 6) e1_well rfl 11 (by decide) (flX6_put_59 hts) rfl rfl (by decide +kernel) (Nat.le_of_ble_eq_true rfl) e1_loc (by rw [e1_well]; simp [up]) dX6_put_2 (fun H locs hP hS => ?_)
  obtain ⟨σ0, hσ0⟩ : ∃ τ, τ = up σ 0 11 (nI 0) := ⟨_, rfl⟩
  rw [← hσ0] at hP
  have hJ0 : I1 n p g rn d th rd sl sn sc (nI 0) tr σ0 := by rw [hσ0]; exact I1_ft hJ
  obtain ⟨hT, hR, hRd, hSh, -, hft, htr⟩ := id hJ0
  have hZ := hSh k hk4
  refine lv_aload_n hx hb dX6_put_5 rfl (lv_at hl 0 rfl) ?_
  refine lv_iload_n hx hb dX6_put_6 rfl (lv_at hl 1 rfl) ?_
  refine xk_fa (va_runV (As := [.int (nI k)]) (rest := []) ⟨hx, hb, hml, hown, hts⟩ (k1_sheetAt_in l hI (x := k)  (by omega)) (cwV 1 hts gX6_put_X6_sheetAt rfl rfl rfl (by decide +kernel) ⟨Nat.le_of_ble_eq_true rfl, Nat.le_of_ble_eq_true rfl⟩) (xk_preV X1_ok hK hX hP (xk_recv hK hP 0 (by omega) (ci := 6) e1_well rfl)) rfl rfl hl.1 rfl (lv_room (Nat.le_of_ble_eq_true rfl)) dX6_put_7 ⟨Nat.le_of_ble_eq_true rfl, Nat.le_of_ble_eq_true rfl⟩) hS (fun H locs hP hS => ?_)
  refine lv_astore (lv' := [(4, .ref (ad (1 + k))), (0, .ref (ad 0)), (1, .int (nI k)), (2, .int j), (3, .int v)]) hx hb dX6_put_10 hl (by decide) rfl (fun ls hl => ?_)
  refine lv_aload hx hb dX6_put_12 (lv_at hl 0 rfl) ?_
  refine lv_ifnonnull (tgt := 19) hx hb dX6_put_14 (by decide) ?_
  refine lv_aload hx hb dX6_put_19 (lv_at hl 0 rfl) ?_
  refine xk_fi (va_runV (As := []) (rest := []) ⟨hx, hb, hml, hown, hts⟩ (k1_hasRow_f l hI (by omega) (by omega) hZ hL3) (cwV 0 hts gX6_put_X2_hasRow rfl rfl rfl (by decide +kernel) ⟨Nat.le_of_ble_eq_true rfl, Nat.le_of_ble_eq_true rfl⟩) (xk_preV X1_ok hK hX hP (xk_recv hK hP (1 + k) (by omega) (ci := 2) (e1_sheet (by omega) (by omega)) rfl)) rfl rfl hl.1 rfl (lv_room (Nat.le_of_ble_eq_true rfl)) dX6_put_21 ⟨Nat.le_of_ble_eq_true rfl, Nat.le_of_ble_eq_true rfl⟩) hS (fun H locs hP hS => ?_)
  refine xn_zne (tgt := 33) hx hb dX6_put_24 (by decide) (by omega) (fun c_24 => absurd c_24 (by omega)) (fun c_24 => ?_)
  refine lv_aload_n hx hb dX6_put_27 rfl (lv_at hl 1 rfl) ?_
  refine lv_iconst (v := nI 1) hx hb dX6_put_28 (by decide) ?_
  refine xk_fi (va_runV (As := [.int (nI 1)]) (rest := []) ⟨hx, hb, hml, hown, hts⟩ (k1_faulted l hI 1) (cwV 1 hts gX6_put_X6_faulted rfl rfl rfl (by decide +kernel) ⟨Nat.le_of_ble_eq_true rfl, Nat.le_of_ble_eq_true rfl⟩) (xk_preV X1_ok hK hX hP (xk_recv hK hP 0 (by omega) (ci := 6) e1_well rfl)) rfl rfl hl.1 rfl (lv_room (Nat.le_of_ble_eq_true rfl)) dX6_put_29 ⟨Nat.le_of_ble_eq_true rfl, Nat.le_of_ble_eq_true rfl⟩) hS (fun H locs hP hS => ?_)
  exact xk_iret hx hb hr (vp_nar_int _) X1_ok hK hX hP hS hlk dX6_put_32 (⟨rfl, I1_ft hJ0⟩)

set_option maxHeartbeats 4000000 in
set_option maxRecDepth 100000 in
theorem a1_put_io (l : Launch) {D : va_G} {ca : Nat → ClassId} {ad : Nat → Nat} (hI : Ij ad 34) {σ : Sg} {n p g rn : Nat} {d : Nat → Nat} {th rd : Nat → Nat → Nat} {sl sn : Nat → Nat} {sc : Nat → Nat → Int32} {ft tr : Int32} {k : Nat} {j v : Int32} (hJ : I1 n p g rn d th rd sl sn sc ft tr σ) (hk4 : k < 4) (hL : sl k < 3) (hjo : ∀ a, a < sn k → j ≠ nI a) : C1i l D ca ad yX6_put wsX6_put { frames := 2, cells := 0, slots := 0, locals := 43 } [.ref (ad 0), .int (nI k), .int j, .int v] σ (fun r σ' => r = (-10) - nI 3 ∧ I1 n p g rn d th rd sl sn sc (nI 3) tr σ') := by
  refine xk_entry cX6_put 5 (some .int) (by decide) rfl (Nat.le_of_ble_eq_true rfl) ?_
  intro pP eE sS mM below meth cC hx hb hml hr hts hown hlk hP hK hX hS ls hl
  have hl : lv_has ls 5 [(0, .ref (ad 0)), (1, .int (nI k)), (2, .int j), (3, .int v)] := hl
  obtain ⟨hT, hR, hRd, hSh, hnp, hft, htr⟩ := id hJ
  have hn5 := hT.2.2.1
  have hg9 := hT.2.2.2.1
  have hp6 := hR.2.1
  have hrn8 := hRd.2.1
  refine lv_aload_n hx hb dX6_put_0 rfl (lv_at hl 0 rfl) ?_
  refine lv_iconst (v := nI 0) hx hb dX6_put_1 (by decide) ?_
  refine xk_put hx hb hts (inX6_put_X6) tyX6 tyX6_ok nmX6 hown hK hI hP hS 0 (by omega) (ci := 6) e1_well rfl 11 (by decide) (flX6_put_59 hts) rfl rfl (by decide +kernel) (Nat.le_of_ble_eq_true rfl) e1_loc (by rw [e1_well]; simp [up]) dX6_put_2 (fun H locs hP hS => ?_)
  obtain ⟨σ0, hσ0⟩ : ∃ τ, τ = up σ 0 11 (nI 0) := ⟨_, rfl⟩
  rw [← hσ0] at hP
  have hJ0 : I1 n p g rn d th rd sl sn sc (nI 0) tr σ0 := by rw [hσ0]; exact I1_ft hJ
  obtain ⟨hT, hR, hRd, hSh, -, hft, htr⟩ := id hJ0
  have hZ := hSh k hk4
  refine lv_aload_n hx hb dX6_put_5 rfl (lv_at hl 0 rfl) ?_
  refine lv_iload_n hx hb dX6_put_6 rfl (lv_at hl 1 rfl) ?_
  refine xk_fa (va_runV (As := [.int (nI k)]) (rest := []) ⟨hx, hb, hml, hown, hts⟩ (k1_sheetAt_in l hI (x := k)  (by omega)) (cwV 1 hts gX6_put_X6_sheetAt rfl rfl rfl (by decide +kernel) ⟨Nat.le_of_ble_eq_true rfl, Nat.le_of_ble_eq_true rfl⟩) (xk_preV X1_ok hK hX hP (xk_recv hK hP 0 (by omega) (ci := 6) e1_well rfl)) rfl rfl hl.1 rfl (lv_room (Nat.le_of_ble_eq_true rfl)) dX6_put_7 ⟨Nat.le_of_ble_eq_true rfl, Nat.le_of_ble_eq_true rfl⟩) hS (fun H locs hP hS => ?_)
  refine lv_astore (lv' := [(4, .ref (ad (1 + k))), (0, .ref (ad 0)), (1, .int (nI k)), (2, .int j), (3, .int v)]) hx hb dX6_put_10 hl (by decide) rfl (fun ls hl => ?_)
  refine lv_aload hx hb dX6_put_12 (lv_at hl 0 rfl) ?_
  refine lv_ifnonnull (tgt := 19) hx hb dX6_put_14 (by decide) ?_
  refine lv_aload hx hb dX6_put_19 (lv_at hl 0 rfl) ?_
  refine xk_fi (va_runV (As := []) (rest := []) ⟨hx, hb, hml, hown, hts⟩ (k1_hasRow_t l hI (by omega) (by omega) hZ hL) (cwV 0 hts gX6_put_X2_hasRow rfl rfl rfl (by decide +kernel) ⟨Nat.le_of_ble_eq_true rfl, Nat.le_of_ble_eq_true rfl⟩) (xk_preV X1_ok hK hX hP (xk_recv hK hP (1 + k) (by omega) (ci := 2) (e1_sheet (by omega) (by omega)) rfl)) rfl rfl hl.1 rfl (lv_room (Nat.le_of_ble_eq_true rfl)) dX6_put_21 ⟨Nat.le_of_ble_eq_true rfl, Nat.le_of_ble_eq_true rfl⟩) hS (fun H locs hP hS => ?_)
  refine xn_zne (tgt := 33) hx hb dX6_put_24 (by decide) (by omega) (fun c_24 => ?_) (fun c_24 => absurd c_24 (by omega))
  refine lv_aload hx hb dX6_put_33 (lv_at hl 0 rfl) ?_
  refine lv_iload_n hx hb dX6_put_35 rfl (lv_at hl 3 rfl) ?_
  refine xk_fi (va_runV (As := [.int j]) (rest := []) ⟨hx, hb, hml, hown, hts⟩ (k1_hasCell_out l hI (by omega) (by omega) hZ hL hjo) (cwV 1 hts gX6_put_X2_hasCell rfl rfl rfl (by decide +kernel) ⟨Nat.le_of_ble_eq_true rfl, Nat.le_of_ble_eq_true rfl⟩) (xk_preV X1_ok hK hX hP (xk_recv hK hP (1 + k) (by omega) (ci := 2) (e1_sheet (by omega) (by omega)) rfl)) rfl rfl hl.1 rfl (lv_room (Nat.le_of_ble_eq_true rfl)) dX6_put_36 ⟨Nat.le_of_ble_eq_true rfl, Nat.le_of_ble_eq_true rfl⟩) hS (fun H locs hP hS => ?_)
  refine xn_zne (tgt := 48) hx hb dX6_put_39 (by decide) (by omega) (fun c_39 => absurd c_39 (by omega)) (fun c_39 => ?_)
  refine lv_aload_n hx hb dX6_put_42 rfl (lv_at hl 1 rfl) ?_
  refine lv_iconst (v := nI 3) hx hb dX6_put_43 (by decide) ?_
  refine xk_fi (va_runV (As := [.int (nI 3)]) (rest := []) ⟨hx, hb, hml, hown, hts⟩ (k1_faulted l hI 3) (cwV 1 hts gX6_put_X6_faulted rfl rfl rfl (by decide +kernel) ⟨Nat.le_of_ble_eq_true rfl, Nat.le_of_ble_eq_true rfl⟩) (xk_preV X1_ok hK hX hP (xk_recv hK hP 0 (by omega) (ci := 6) e1_well rfl)) rfl rfl hl.1 rfl (lv_room (Nat.le_of_ble_eq_true rfl)) dX6_put_44 ⟨Nat.le_of_ble_eq_true rfl, Nat.le_of_ble_eq_true rfl⟩) hS (fun H locs hP hS => ?_)
  exact xk_iret hx hb hr (vp_nar_int _) X1_ok hK hX hP hS hlk dX6_put_47 (⟨rfl, I1_ft hJ0⟩)

set_option maxHeartbeats 4000000 in
set_option maxRecDepth 100000 in
theorem a1_put_ok (l : Launch) {D : va_G} {ca : Nat → ClassId} {ad : Nat → Nat} (hI : Ij ad 34) {σ : Sg} {n p g rn : Nat} {d : Nat → Nat} {th rd : Nat → Nat → Nat} {sl sn : Nat → Nat} {sc : Nat → Nat → Int32} {ft tr : Int32} {k : Nat} {j : Nat} {v : Int32} (hJ : I1 n p g rn d th rd sl sn sc ft tr σ) (hk4 : k < 4) (hL : sl k < 3) (hjn : j < sn k) : C1i l D ca ad yX6_put wsX6_put { frames := 2, cells := 0, slots := 0, locals := 43 } [.ref (ad 0), .int (nI k), .int (nI j), .int v] σ (fun r σ' => r = nI 1 ∧ I1 n p g rn d th rd sl sn (us sc k (upd (sc k) j (cutI (sl k) v))) (nI 0) tr σ') := by
  refine xk_entry cX6_put 5 (some .int) (by decide) rfl (Nat.le_of_ble_eq_true rfl) ?_
  intro pP eE sS mM below meth cC hx hb hml hr hts hown hlk hP hK hX hS ls hl
  have hl : lv_has ls 5 [(0, .ref (ad 0)), (1, .int (nI k)), (2, .int (nI j)), (3, .int v)] := hl
  obtain ⟨hT, hR, hRd, hSh, hnp, hft, htr⟩ := id hJ
  have hn5 := hT.2.2.1
  have hg9 := hT.2.2.2.1
  have hp6 := hR.2.1
  have hrn8 := hRd.2.1
  refine lv_aload_n hx hb dX6_put_0 rfl (lv_at hl 0 rfl) ?_
  refine lv_iconst (v := nI 0) hx hb dX6_put_1 (by decide) ?_
  refine xk_put hx hb hts (inX6_put_X6) tyX6 tyX6_ok nmX6 hown hK hI hP hS 0 (by omega) (ci := 6) e1_well rfl 11 (by decide) (flX6_put_59 hts) rfl rfl (by decide +kernel) (Nat.le_of_ble_eq_true rfl) e1_loc (by rw [e1_well]; simp [up]) dX6_put_2 (fun H locs hP hS => ?_)
  obtain ⟨σ0, hσ0⟩ : ∃ τ, τ = up σ 0 11 (nI 0) := ⟨_, rfl⟩
  rw [← hσ0] at hP
  have hJ0 : I1 n p g rn d th rd sl sn sc (nI 0) tr σ0 := by rw [hσ0]; exact I1_ft hJ
  obtain ⟨hT, hR, hRd, hSh, -, hft, htr⟩ := id hJ0
  have hZ := hSh k hk4
  refine lv_aload_n hx hb dX6_put_5 rfl (lv_at hl 0 rfl) ?_
  refine lv_iload_n hx hb dX6_put_6 rfl (lv_at hl 1 rfl) ?_
  refine xk_fa (va_runV (As := [.int (nI k)]) (rest := []) ⟨hx, hb, hml, hown, hts⟩ (k1_sheetAt_in l hI (x := k)  (by omega)) (cwV 1 hts gX6_put_X6_sheetAt rfl rfl rfl (by decide +kernel) ⟨Nat.le_of_ble_eq_true rfl, Nat.le_of_ble_eq_true rfl⟩) (xk_preV X1_ok hK hX hP (xk_recv hK hP 0 (by omega) (ci := 6) e1_well rfl)) rfl rfl hl.1 rfl (lv_room (Nat.le_of_ble_eq_true rfl)) dX6_put_7 ⟨Nat.le_of_ble_eq_true rfl, Nat.le_of_ble_eq_true rfl⟩) hS (fun H locs hP hS => ?_)
  refine lv_astore (lv' := [(4, .ref (ad (1 + k))), (0, .ref (ad 0)), (1, .int (nI k)), (2, .int (nI j)), (3, .int v)]) hx hb dX6_put_10 hl (by decide) rfl (fun ls hl => ?_)
  refine lv_aload hx hb dX6_put_12 (lv_at hl 0 rfl) ?_
  refine lv_ifnonnull (tgt := 19) hx hb dX6_put_14 (by decide) ?_
  refine lv_aload hx hb dX6_put_19 (lv_at hl 0 rfl) ?_
  refine xk_fi (va_runV (As := []) (rest := []) ⟨hx, hb, hml, hown, hts⟩ (k1_hasRow_t l hI (by omega) (by omega) hZ hL) (cwV 0 hts gX6_put_X2_hasRow rfl rfl rfl (by decide +kernel) ⟨Nat.le_of_ble_eq_true rfl, Nat.le_of_ble_eq_true rfl⟩) (xk_preV X1_ok hK hX hP (xk_recv hK hP (1 + k) (by omega) (ci := 2) (e1_sheet (by omega) (by omega)) rfl)) rfl rfl hl.1 rfl (lv_room (Nat.le_of_ble_eq_true rfl)) dX6_put_21 ⟨Nat.le_of_ble_eq_true rfl, Nat.le_of_ble_eq_true rfl⟩) hS (fun H locs hP hS => ?_)
  refine xn_zne (tgt := 33) hx hb dX6_put_24 (by decide) (by omega) (fun c_24 => ?_) (fun c_24 => absurd c_24 (by omega))
  refine lv_aload hx hb dX6_put_33 (lv_at hl 0 rfl) ?_
  refine lv_iload_n hx hb dX6_put_35 rfl (lv_at hl 3 rfl) ?_
  refine xk_fi (va_runV (As := [.int (nI j)]) (rest := []) ⟨hx, hb, hml, hown, hts⟩ (k1_hasCell_in l hI (by omega) (by omega) hZ hL hjn) (cwV 1 hts gX6_put_X2_hasCell rfl rfl rfl (by decide +kernel) ⟨Nat.le_of_ble_eq_true rfl, Nat.le_of_ble_eq_true rfl⟩) (xk_preV X1_ok hK hX hP (xk_recv hK hP (1 + k) (by omega) (ci := 2) (e1_sheet (by omega) (by omega)) rfl)) rfl rfl hl.1 rfl (lv_room (Nat.le_of_ble_eq_true rfl)) dX6_put_36 ⟨Nat.le_of_ble_eq_true rfl, Nat.le_of_ble_eq_true rfl⟩) hS (fun H locs hP hS => ?_)
  refine xn_zne (tgt := 48) hx hb dX6_put_39 (by decide) (by omega) (fun c_39 => ?_) (fun c_39 => absurd c_39 (by omega))
  refine lv_aload hx hb dX6_put_48 (lv_at hl 0 rfl) ?_
  refine lv_iload_n hx hb dX6_put_50 rfl (lv_at hl 3 rfl) ?_
  refine lv_iload_n hx hb dX6_put_51 rfl (lv_at hl 4 rfl) ?_
  refine xk_fv (va_runV (As := [.int (nI j), .int v]) (rest := []) ⟨hx, hb, hml, hown, hts⟩ (k1_write l hI (by omega) (by omega) hZ hL hjn) (cwV 2 hts gX6_put_X2_write rfl rfl rfl (by decide +kernel) ⟨Nat.le_of_ble_eq_true rfl, Nat.le_of_ble_eq_true rfl⟩) (xk_preV X1_ok hK hX hP (xk_recv hK hP (1 + k) (by omega) (ci := 2) (e1_sheet (by omega) (by omega)) rfl)) rfl rfl hl.1 rfl (lv_room (Nat.le_of_ble_eq_true rfl)) dX6_put_52 ⟨Nat.le_of_ble_eq_true rfl, Nat.le_of_ble_eq_true rfl⟩) hS (fun H locs hP hS => ?_)
  refine lv_iconst (v := nI 1) hx hb dX6_put_55 (by decide) ?_
  exact xk_iret hx hb hr (vp_nar_int _) X1_ok hK hX hP hS hlk dX6_put_56 (⟨rfl, by have h := I1_sh (τ := up σ0 (1 + k + 4) j (cutI (sl k) v)) (L := sl k) (m := sn k) (cc := upd (sc k) j (cutI (sl k) v)) hJ0 hk4 (fun i a b => up_r b) ⟨(up_n (by omega)).trans hZ.1, hZ.2.1, fun q => ⟨(up_n (by omega)).trans (hZ.2.2 q).1, (hZ.2.2 q).2.1, fun i hi => by rw [up_a]; exact upd_ok (hZ.2.2 q).2.2 i hi⟩⟩; rw [us_id, us_id] at h; exact h⟩)

set_option maxRecDepth 20000 in
theorem flX6_cell_59 {s : State} {av : Array Value} (hts : ∀ w ∈ wsX6_cell, w.before av s = true) : (Cond.fieldLink RX6 59 "WellBack" "latestFault" "I").before av s = true := hts _ (by decide +kernel)
set_option maxRecDepth 20000 in
theorem inX6_cell_X6 : ∀ w ∈ u_ws RX6 TX6 13, w ∈ wsX6_cell := by decide +kernel
set_option maxHeartbeats 4000000 in
set_option maxRecDepth 100000 in
theorem a1_cell_so (l : Launch) {D : va_G} {ca : Nat → ClassId} {ad : Nat → Nat} (hI : Ij ad 34) {σ : Sg} {n p g rn : Nat} {d : Nat → Nat} {th rd : Nat → Nat → Nat} {sl sn : Nat → Nat} {sc : Nat → Nat → Int32} {ft tr : Int32} {k : Int32} {j w : Int32} (hJ : I1 n p g rn d th rd sl sn sc ft tr σ) (hko : ∀ j, j < 4 → k ≠ nI j) : C1l l D ca ad yX6_cell wsX6_cell { frames := 2, cells := 0, slots := 0, locals := 42 } [.ref (ad 0), .int k, .int j, .int w] σ (fun r σ' => r = (-9223372036854775808) ∧ I1 n p g rn d th rd sl sn sc (nI 0) tr σ') := by
  refine xk_entry cX6_cell 5 (some .long) (by decide) rfl (Nat.le_of_ble_eq_true rfl) ?_
  intro pP eE sS mM below meth cC hx hb hml hr hts hown hlk hP hK hX hS ls hl
  have hl : lv_has ls 5 [(0, .ref (ad 0)), (1, .int k), (2, .int j), (3, .int w)] := hl
  obtain ⟨hT, hR, hRd, hSh, hnp, hft, htr⟩ := id hJ
  have hn5 := hT.2.2.1
  have hg9 := hT.2.2.2.1
  have hp6 := hR.2.1
  have hrn8 := hRd.2.1
  refine lv_aload_n hx hb dX6_cell_0 rfl (lv_at hl 0 rfl) ?_
  refine lv_iconst (v := nI 0) hx hb dX6_cell_1 (by decide) ?_
  refine xk_put hx hb hts (inX6_cell_X6) tyX6 tyX6_ok nmX6 hown hK hI hP hS 0 (by omega) (ci := 6) e1_well rfl 11 (by decide) (flX6_cell_59 hts) rfl rfl (by decide +kernel) (Nat.le_of_ble_eq_true rfl) e1_loc (by rw [e1_well]; simp [up]) dX6_cell_2 (fun H locs hP hS => ?_)
  obtain ⟨σ0, hσ0⟩ : ∃ τ, τ = up σ 0 11 (nI 0) := ⟨_, rfl⟩
  rw [← hσ0] at hP
  have hJ0 : I1 n p g rn d th rd sl sn sc (nI 0) tr σ0 := by rw [hσ0]; exact I1_ft hJ
  obtain ⟨hT, hR, hRd, hSh, -, hft, htr⟩ := id hJ0
  refine lv_aload_n hx hb dX6_cell_5 rfl (lv_at hl 0 rfl) ?_
  refine lv_iload_n hx hb dX6_cell_6 rfl (lv_at hl 1 rfl) ?_
  refine xk_fz (va_runV (As := [.int k]) (rest := []) ⟨hx, hb, hml, hown, hts⟩ (k1_sheetAt_out l hI (x := k)  (by assumption)) (cwV 1 hts gX6_cell_X6_sheetAt rfl rfl rfl (by decide +kernel) ⟨Nat.le_of_ble_eq_true rfl, Nat.le_of_ble_eq_true rfl⟩) (xk_preV X1_ok hK hX hP (xk_recv hK hP 0 (by omega) (ci := 6) e1_well rfl)) rfl rfl hl.1 rfl (lv_room (Nat.le_of_ble_eq_true rfl)) dX6_cell_7 ⟨Nat.le_of_ble_eq_true rfl, Nat.le_of_ble_eq_true rfl⟩) hS (fun H locs hP hS => ?_)
  refine lv_astoreN (lv' := [(4, .null), (0, .ref (ad 0)), (1, .int k), (2, .int j), (3, .int w)]) hx hb dX6_cell_10 hl (by decide) rfl (fun ls hl => ?_)
  refine lv_aloadN hx hb dX6_cell_12 (lv_at hl 0 rfl) ?_
  refine lv_ifnullN (tgt := 26) hx hb dX6_cell_14 (by decide) ?_
  refine lv_ldc2 (v := (-9223372036854775808)) hx hb hown (hts (.constantLong RX6 199 (-9223372036854775808)) (by decide +kernel)) dX6_cell_26 ?_
  exact xk_lret hx hb hr X1_ok hK hX hP hS hlk dX6_cell_29 (⟨rfl, hJ0⟩)

set_option maxHeartbeats 4000000 in
set_option maxRecDepth 100000 in
theorem a1_cell_lo (l : Launch) {D : va_G} {ca : Nat → ClassId} {ad : Nat → Nat} (hI : Ij ad 34) {σ : Sg} {n p g rn : Nat} {d : Nat → Nat} {th rd : Nat → Nat → Nat} {sl sn : Nat → Nat} {sc : Nat → Nat → Int32} {ft tr : Int32} {k : Nat} {j w : Int32} (hJ : I1 n p g rn d th rd sl sn sc ft tr σ) (hk4 : k < 4) (hwo : ¬ (nI 0 ≤ w ∧ w ≤ nI 2)) : C1l l D ca ad yX6_cell wsX6_cell { frames := 2, cells := 0, slots := 0, locals := 42 } [.ref (ad 0), .int (nI k), .int j, .int w] σ (fun r σ' => r = (-9223372036854775808) ∧ I1 n p g rn d th rd sl sn sc (nI 0) tr σ') := by
  refine xk_entry cX6_cell 5 (some .long) (by decide) rfl (Nat.le_of_ble_eq_true rfl) ?_
  intro pP eE sS mM below meth cC hx hb hml hr hts hown hlk hP hK hX hS ls hl
  have hl : lv_has ls 5 [(0, .ref (ad 0)), (1, .int (nI k)), (2, .int j), (3, .int w)] := hl
  obtain ⟨hT, hR, hRd, hSh, hnp, hft, htr⟩ := id hJ
  have hn5 := hT.2.2.1
  have hg9 := hT.2.2.2.1
  have hp6 := hR.2.1
  have hrn8 := hRd.2.1
  refine lv_aload_n hx hb dX6_cell_0 rfl (lv_at hl 0 rfl) ?_
  refine lv_iconst (v := nI 0) hx hb dX6_cell_1 (by decide) ?_
  refine xk_put hx hb hts (inX6_cell_X6) tyX6 tyX6_ok nmX6 hown hK hI hP hS 0 (by omega) (ci := 6) e1_well rfl 11 (by decide) (flX6_cell_59 hts) rfl rfl (by decide +kernel) (Nat.le_of_ble_eq_true rfl) e1_loc (by rw [e1_well]; simp [up]) dX6_cell_2 (fun H locs hP hS => ?_)
  obtain ⟨σ0, hσ0⟩ : ∃ τ, τ = up σ 0 11 (nI 0) := ⟨_, rfl⟩
  rw [← hσ0] at hP
  have hJ0 : I1 n p g rn d th rd sl sn sc (nI 0) tr σ0 := by rw [hσ0]; exact I1_ft hJ
  obtain ⟨hT, hR, hRd, hSh, -, hft, htr⟩ := id hJ0
  have hZ := hSh k hk4
  refine lv_aload_n hx hb dX6_cell_5 rfl (lv_at hl 0 rfl) ?_
  refine lv_iload_n hx hb dX6_cell_6 rfl (lv_at hl 1 rfl) ?_
  refine xk_fa (va_runV (As := [.int (nI k)]) (rest := []) ⟨hx, hb, hml, hown, hts⟩ (k1_sheetAt_in l hI (x := k)  (by omega)) (cwV 1 hts gX6_cell_X6_sheetAt rfl rfl rfl (by decide +kernel) ⟨Nat.le_of_ble_eq_true rfl, Nat.le_of_ble_eq_true rfl⟩) (xk_preV X1_ok hK hX hP (xk_recv hK hP 0 (by omega) (ci := 6) e1_well rfl)) rfl rfl hl.1 rfl (lv_room (Nat.le_of_ble_eq_true rfl)) dX6_cell_7 ⟨Nat.le_of_ble_eq_true rfl, Nat.le_of_ble_eq_true rfl⟩) hS (fun H locs hP hS => ?_)
  refine lv_astore (lv' := [(4, .ref (ad (1 + k))), (0, .ref (ad 0)), (1, .int (nI k)), (2, .int j), (3, .int w)]) hx hb dX6_cell_10 hl (by decide) rfl (fun ls hl => ?_)
  refine lv_aload hx hb dX6_cell_12 (lv_at hl 0 rfl) ?_
  refine lv_ifnull hx hb dX6_cell_14 ?_
  refine lv_iload_n hx hb dX6_cell_17 rfl (lv_at hl 4 rfl) ?_
  refine lv_iconst (v := nI 0) hx hb dX6_cell_18 (by decide) ?_
  refine lv_iconst (v := nI 2) hx hb dX6_cell_19 (by decide) ?_
  refine xk_fi (va_runS (As := [.int w, .int (nI 0), .int (nI 2)]) (rest := []) ⟨hx, hb, hml, hown, hts⟩ (k1_within_f l hI w (nI 0) (nI 2) (by assumption)) (va_cwS 3 hts gX6_cell_X6_within rfl rfl rfl (by decide +kernel) ⟨Nat.le_of_ble_eq_true rfl, Nat.le_of_ble_eq_true rfl⟩) (xk_preS X1_ok hK hX hP) rfl rfl hl.1 rfl (lv_room (Nat.le_of_ble_eq_true rfl)) dX6_cell_20 ⟨Nat.le_of_ble_eq_true rfl, Nat.le_of_ble_eq_true rfl⟩) hS (fun H locs hP hS => ?_)
  refine xn_zne (tgt := 30) hx hb dX6_cell_23 (by decide) (by omega) (fun c_23 => absurd c_23 (by omega)) (fun c_23 => ?_)
  refine lv_ldc2 (v := (-9223372036854775808)) hx hb hown (hts (.constantLong RX6 199 (-9223372036854775808)) (by decide +kernel)) dX6_cell_26 ?_
  exact xk_lret hx hb hr X1_ok hK hX hP hS hlk dX6_cell_29 (⟨rfl, hJ0⟩)

set_option maxHeartbeats 4000000 in
set_option maxRecDepth 100000 in
theorem a1_cell_fl (l : Launch) {D : va_G} {ca : Nat → ClassId} {ad : Nat → Nat} (hI : Ij ad 34) {σ : Sg} {n p g rn : Nat} {d : Nat → Nat} {th rd : Nat → Nat → Nat} {sl sn : Nat → Nat} {sc : Nat → Nat → Int32} {ft tr : Int32} {k : Nat} {j : Int32} {w : Nat} (hJ : I1 n p g rn d th rd sl sn sc ft tr σ) (hk4 : k < 4) (hw2 : w ≤ 2) (hf : fL (sl k) w ≠ 0) : C1l l D ca ad yX6_cell wsX6_cell { frames := 2, cells := 0, slots := 0, locals := 42 } [.ref (ad 0), .int (nI k), .int j, .int (nI w)] σ (fun r σ' => r = (-9223372036854775808) ∧ I1 n p g rn d th rd sl sn sc (nI (fL (sl k) w)) tr σ') := by
  refine xk_entry cX6_cell 5 (some .long) (by decide) rfl (Nat.le_of_ble_eq_true rfl) ?_
  intro pP eE sS mM below meth cC hx hb hml hr hts hown hlk hP hK hX hS ls hl
  have hl : lv_has ls 5 [(0, .ref (ad 0)), (1, .int (nI k)), (2, .int j), (3, .int (nI w))] := hl
  obtain ⟨hT, hR, hRd, hSh, hnp, hft, htr⟩ := id hJ
  have hn5 := hT.2.2.1
  have hg9 := hT.2.2.2.1
  have hp6 := hR.2.1
  have hrn8 := hRd.2.1
  refine lv_aload_n hx hb dX6_cell_0 rfl (lv_at hl 0 rfl) ?_
  refine lv_iconst (v := nI 0) hx hb dX6_cell_1 (by decide) ?_
  refine xk_put hx hb hts (inX6_cell_X6) tyX6 tyX6_ok nmX6 hown hK hI hP hS 0 (by omega) (ci := 6) e1_well rfl 11 (by decide) (flX6_cell_59 hts) rfl rfl (by decide +kernel) (Nat.le_of_ble_eq_true rfl) e1_loc (by rw [e1_well]; simp [up]) dX6_cell_2 (fun H locs hP hS => ?_)
  obtain ⟨σ0, hσ0⟩ : ∃ τ, τ = up σ 0 11 (nI 0) := ⟨_, rfl⟩
  rw [← hσ0] at hP
  have hJ0 : I1 n p g rn d th rd sl sn sc (nI 0) tr σ0 := by rw [hσ0]; exact I1_ft hJ
  obtain ⟨hT, hR, hRd, hSh, -, hft, htr⟩ := id hJ0
  have hZ := hSh k hk4
  refine lv_aload_n hx hb dX6_cell_5 rfl (lv_at hl 0 rfl) ?_
  refine lv_iload_n hx hb dX6_cell_6 rfl (lv_at hl 1 rfl) ?_
  refine xk_fa (va_runV (As := [.int (nI k)]) (rest := []) ⟨hx, hb, hml, hown, hts⟩ (k1_sheetAt_in l hI (x := k)  (by omega)) (cwV 1 hts gX6_cell_X6_sheetAt rfl rfl rfl (by decide +kernel) ⟨Nat.le_of_ble_eq_true rfl, Nat.le_of_ble_eq_true rfl⟩) (xk_preV X1_ok hK hX hP (xk_recv hK hP 0 (by omega) (ci := 6) e1_well rfl)) rfl rfl hl.1 rfl (lv_room (Nat.le_of_ble_eq_true rfl)) dX6_cell_7 ⟨Nat.le_of_ble_eq_true rfl, Nat.le_of_ble_eq_true rfl⟩) hS (fun H locs hP hS => ?_)
  refine lv_astore (lv' := [(4, .ref (ad (1 + k))), (0, .ref (ad 0)), (1, .int (nI k)), (2, .int j), (3, .int (nI w))]) hx hb dX6_cell_10 hl (by decide) rfl (fun ls hl => ?_)
  refine lv_aload hx hb dX6_cell_12 (lv_at hl 0 rfl) ?_
  refine lv_ifnull hx hb dX6_cell_14 ?_
  refine lv_iload_n hx hb dX6_cell_17 rfl (lv_at hl 4 rfl) ?_
  refine lv_iconst (v := nI 0) hx hb dX6_cell_18 (by decide) ?_
  refine lv_iconst (v := nI 2) hx hb dX6_cell_19 (by decide) ?_
  refine xk_fi (va_runS (As := [.int (nI w), .int (nI 0), .int (nI 2)]) (rest := []) ⟨hx, hb, hml, hown, hts⟩ (k1_within_t l hI (nI w) (nI 0) (nI 2) (xn_in (by omega) (by omega) (by omega))) (va_cwS 3 hts gX6_cell_X6_within rfl rfl rfl (by decide +kernel) ⟨Nat.le_of_ble_eq_true rfl, Nat.le_of_ble_eq_true rfl⟩) (xk_preS X1_ok hK hX hP) rfl rfl hl.1 rfl (lv_room (Nat.le_of_ble_eq_true rfl)) dX6_cell_20 ⟨Nat.le_of_ble_eq_true rfl, Nat.le_of_ble_eq_true rfl⟩) hS (fun H locs hP hS => ?_)
  refine xn_zne (tgt := 30) hx hb dX6_cell_23 (by decide) (by omega) (fun c_23 => ?_) (fun c_23 => absurd c_23 (by omega))
  refine lv_aload_n hx hb dX6_cell_30 rfl (lv_at hl 1 rfl) ?_
  refine lv_aload hx hb dX6_cell_31 (lv_at hl 0 rfl) ?_
  refine lv_iload_n hx hb dX6_cell_33 rfl (lv_at hl 4 rfl) ?_
  refine xk_fi (va_runV (As := [.int (nI w)]) (rest := [.ref (ad 0)]) ⟨hx, hb, hml, hown, hts⟩ (k1_fol l hI (w := w) (by omega) (by omega) hZ hw2) (cwV 1 hts gX6_cell_X2_faultOfLane rfl rfl rfl (by decide +kernel) ⟨Nat.le_of_ble_eq_true rfl, Nat.le_of_ble_eq_true rfl⟩) (xk_preV X1_ok hK hX hP (xk_recv hK hP (1 + k) (by omega) (ci := 2) (e1_sheet (by omega) (by omega)) rfl)) rfl rfl hl.1 rfl (lv_room (Nat.le_of_ble_eq_true rfl)) dX6_cell_34 ⟨Nat.le_of_ble_eq_true rfl, Nat.le_of_ble_eq_true rfl⟩) hS (fun H locs hP hS => ?_)
  have hfl : fL (sl k) w ≤ 2 := by unfold fL; split <;> (try split) <;> omega
  refine xk_put hx hb hts (inX6_cell_X6) tyX6 tyX6_ok nmX6 hown hK hI hP hS 0 (by omega) (ci := 6) e1_well rfl 11 (by decide) (flX6_cell_59 hts) rfl rfl (by decide +kernel) (Nat.le_of_ble_eq_true rfl) e1_loc (by rw [e1_well]; simp [up]) dX6_cell_37 (fun H locs hP hS => ?_)
  refine lv_aload_n hx hb dX6_cell_40 rfl (lv_at hl 1 rfl) ?_
  refine xk_get hx hb hts (inX6_cell_X6) hown hK hP 0 (by omega) (ci := 6) e1_well rfl 11 (by decide) (flX6_cell_59 hts) rfl (.int ((up σ0 0 11 (nI (fL (sl k) w))) 0 11)) rfl dX6_cell_41 ?_
  refine xn_eqi (y := nI (fL (sl k) w)) up_s ?_
  refine xn_zne (tgt := 61) hx hb dX6_cell_44 (by decide) (by omega) (fun c_44 => ?_) (fun c_44 => absurd c_44 (by omega))
  refine lv_aload_n hx hb dX6_cell_61 rfl (lv_at hl 1 rfl) ?_
  refine xk_get hx hb hts (inX6_cell_X6) hown hK hP 0 (by omega) (ci := 6) e1_well rfl 11 (by decide) (flX6_cell_59 hts) rfl (.int ((up σ0 0 11 (nI (fL (sl k) w))) 0 11)) rfl dX6_cell_62 ?_
  refine xn_eqi (y := nI (fL (sl k) w)) up_s ?_
  refine xn_zne (tgt := 78) hx hb dX6_cell_65 (by decide) (by omega) (fun c_65 => ?_) (fun c_65 => absurd c_65 (by omega))
  refine lv_ldc2 (v := (-9223372036854775808)) hx hb hown (hts (.constantLong RX6 199 (-9223372036854775808)) (by decide +kernel)) dX6_cell_78 ?_
  exact xk_lret hx hb hr X1_ok hK hX hP hS hlk dX6_cell_81 (⟨rfl, I1_ft hJ0⟩)

set_option maxHeartbeats 4000000 in
set_option maxRecDepth 100000 in
theorem a1_cell_io (l : Launch) {D : va_G} {ca : Nat → ClassId} {ad : Nat → Nat} (hI : Ij ad 34) {σ : Sg} {n p g rn : Nat} {d : Nat → Nat} {th rd : Nat → Nat → Nat} {sl sn : Nat → Nat} {sc : Nat → Nat → Int32} {ft tr : Int32} {k : Nat} {j : Int32} {w : Nat} (hJ : I1 n p g rn d th rd sl sn sc ft tr σ) (hk4 : k < 4) (hw2 : w ≤ 2) (hLw : sl k = w) (hjo : ∀ a, a < sn k → j ≠ nI a) : C1l l D ca ad yX6_cell wsX6_cell { frames := 2, cells := 0, slots := 0, locals := 42 } [.ref (ad 0), .int (nI k), .int j, .int (nI w)] σ (fun r σ' => r = (-9223372036854775808) ∧ I1 n p g rn d th rd sl sn sc (nI 3) tr σ') := by
  refine xk_entry cX6_cell 5 (some .long) (by decide) rfl (Nat.le_of_ble_eq_true rfl) ?_
  intro pP eE sS mM below meth cC hx hb hml hr hts hown hlk hP hK hX hS ls hl
  have hl : lv_has ls 5 [(0, .ref (ad 0)), (1, .int (nI k)), (2, .int j), (3, .int (nI w))] := hl
  obtain ⟨hT, hR, hRd, hSh, hnp, hft, htr⟩ := id hJ
  have hn5 := hT.2.2.1
  have hg9 := hT.2.2.2.1
  have hp6 := hR.2.1
  have hrn8 := hRd.2.1
  refine lv_aload_n hx hb dX6_cell_0 rfl (lv_at hl 0 rfl) ?_
  refine lv_iconst (v := nI 0) hx hb dX6_cell_1 (by decide) ?_
  refine xk_put hx hb hts (inX6_cell_X6) tyX6 tyX6_ok nmX6 hown hK hI hP hS 0 (by omega) (ci := 6) e1_well rfl 11 (by decide) (flX6_cell_59 hts) rfl rfl (by decide +kernel) (Nat.le_of_ble_eq_true rfl) e1_loc (by rw [e1_well]; simp [up]) dX6_cell_2 (fun H locs hP hS => ?_)
  obtain ⟨σ0, hσ0⟩ : ∃ τ, τ = up σ 0 11 (nI 0) := ⟨_, rfl⟩
  rw [← hσ0] at hP
  have hJ0 : I1 n p g rn d th rd sl sn sc (nI 0) tr σ0 := by rw [hσ0]; exact I1_ft hJ
  obtain ⟨hT, hR, hRd, hSh, -, hft, htr⟩ := id hJ0
  have hZ := hSh k hk4
  have hL : sl k < 3 := by omega
  have hf0 : fL (sl k) w = 0 := by rw [fL, if_neg (by omega), if_pos hLw]
  refine lv_aload_n hx hb dX6_cell_5 rfl (lv_at hl 0 rfl) ?_
  refine lv_iload_n hx hb dX6_cell_6 rfl (lv_at hl 1 rfl) ?_
  refine xk_fa (va_runV (As := [.int (nI k)]) (rest := []) ⟨hx, hb, hml, hown, hts⟩ (k1_sheetAt_in l hI (x := k)  (by omega)) (cwV 1 hts gX6_cell_X6_sheetAt rfl rfl rfl (by decide +kernel) ⟨Nat.le_of_ble_eq_true rfl, Nat.le_of_ble_eq_true rfl⟩) (xk_preV X1_ok hK hX hP (xk_recv hK hP 0 (by omega) (ci := 6) e1_well rfl)) rfl rfl hl.1 rfl (lv_room (Nat.le_of_ble_eq_true rfl)) dX6_cell_7 ⟨Nat.le_of_ble_eq_true rfl, Nat.le_of_ble_eq_true rfl⟩) hS (fun H locs hP hS => ?_)
  refine lv_astore (lv' := [(4, .ref (ad (1 + k))), (0, .ref (ad 0)), (1, .int (nI k)), (2, .int j), (3, .int (nI w))]) hx hb dX6_cell_10 hl (by decide) rfl (fun ls hl => ?_)
  refine lv_aload hx hb dX6_cell_12 (lv_at hl 0 rfl) ?_
  refine lv_ifnull hx hb dX6_cell_14 ?_
  refine lv_iload_n hx hb dX6_cell_17 rfl (lv_at hl 4 rfl) ?_
  refine lv_iconst (v := nI 0) hx hb dX6_cell_18 (by decide) ?_
  refine lv_iconst (v := nI 2) hx hb dX6_cell_19 (by decide) ?_
  refine xk_fi (va_runS (As := [.int (nI w), .int (nI 0), .int (nI 2)]) (rest := []) ⟨hx, hb, hml, hown, hts⟩ (k1_within_t l hI (nI w) (nI 0) (nI 2) (xn_in (by omega) (by omega) (by omega))) (va_cwS 3 hts gX6_cell_X6_within rfl rfl rfl (by decide +kernel) ⟨Nat.le_of_ble_eq_true rfl, Nat.le_of_ble_eq_true rfl⟩) (xk_preS X1_ok hK hX hP) rfl rfl hl.1 rfl (lv_room (Nat.le_of_ble_eq_true rfl)) dX6_cell_20 ⟨Nat.le_of_ble_eq_true rfl, Nat.le_of_ble_eq_true rfl⟩) hS (fun H locs hP hS => ?_)
  refine xn_zne (tgt := 30) hx hb dX6_cell_23 (by decide) (by omega) (fun c_23 => ?_) (fun c_23 => absurd c_23 (by omega))
  refine lv_aload_n hx hb dX6_cell_30 rfl (lv_at hl 1 rfl) ?_
  refine lv_aload hx hb dX6_cell_31 (lv_at hl 0 rfl) ?_
  refine lv_iload_n hx hb dX6_cell_33 rfl (lv_at hl 4 rfl) ?_
  refine xk_fi (va_runV (As := [.int (nI w)]) (rest := [.ref (ad 0)]) ⟨hx, hb, hml, hown, hts⟩ (k1_fol l hI (w := w) (by omega) (by omega) hZ hw2) (cwV 1 hts gX6_cell_X2_faultOfLane rfl rfl rfl (by decide +kernel) ⟨Nat.le_of_ble_eq_true rfl, Nat.le_of_ble_eq_true rfl⟩) (xk_preV X1_ok hK hX hP (xk_recv hK hP (1 + k) (by omega) (ci := 2) (e1_sheet (by omega) (by omega)) rfl)) rfl rfl hl.1 rfl (lv_room (Nat.le_of_ble_eq_true rfl)) dX6_cell_34 ⟨Nat.le_of_ble_eq_true rfl, Nat.le_of_ble_eq_true rfl⟩) hS (fun H locs hP hS => ?_)
  have hfl : fL (sl k) w ≤ 2 := by unfold fL; split <;> (try split) <;> omega
  refine xn_eqi (y := nI 0) (by rw [hf0]) ?_
  refine xk_put hx hb hts (inX6_cell_X6) tyX6 tyX6_ok nmX6 hown hK hI hP hS 0 (by omega) (ci := 6) e1_well rfl 11 (by decide) (flX6_cell_59 hts) rfl rfl (by decide +kernel) (Nat.le_of_ble_eq_true rfl) e1_loc (by rw [e1_well]; simp [up]) dX6_cell_37 (fun H locs hP hS => ?_)
  obtain ⟨σ1, hσ1⟩ : ∃ τ, τ = up σ0 0 11 (nI 0) := ⟨_, rfl⟩
  rw [← hσ1] at hP
  have hJ1 : I1 n p g rn d th rd sl sn sc (nI 0) tr σ1 := by rw [hσ1]; exact I1_ft hJ0
  obtain ⟨hT, hR, hRd, hSh, -, hft, htr⟩ := id hJ1
  have hZ := hSh k hk4
  refine lv_aload_n hx hb dX6_cell_40 rfl (lv_at hl 1 rfl) ?_
  refine xk_get hx hb hts (inX6_cell_X6) hown hK hP 0 (by omega) (ci := 6) e1_well rfl 11 (by decide) (flX6_cell_59 hts) rfl (.int (σ1 0 11)) rfl dX6_cell_41 ?_
  refine xn_eqi (y := nI 0) hft ?_
  refine xn_zne (tgt := 61) hx hb dX6_cell_44 (by decide) (by omega) (fun c_44 => absurd c_44 (by omega)) (fun c_44 => ?_)
  refine lv_aload hx hb dX6_cell_47 (lv_at hl 0 rfl) ?_
  refine lv_iload_n hx hb dX6_cell_49 rfl (lv_at hl 3 rfl) ?_
  refine xk_fi (va_runV (As := [.int j]) (rest := []) ⟨hx, hb, hml, hown, hts⟩ (k1_hasCell_out l hI (by omega) (by omega) hZ hL hjo) (cwV 1 hts gX6_cell_X2_hasCell rfl rfl rfl (by decide +kernel) ⟨Nat.le_of_ble_eq_true rfl, Nat.le_of_ble_eq_true rfl⟩) (xk_preV X1_ok hK hX hP (xk_recv hK hP (1 + k) (by omega) (ci := 2) (e1_sheet (by omega) (by omega)) rfl)) rfl rfl hl.1 rfl (lv_room (Nat.le_of_ble_eq_true rfl)) dX6_cell_50 ⟨Nat.le_of_ble_eq_true rfl, Nat.le_of_ble_eq_true rfl⟩) hS (fun H locs hP hS => ?_)
  refine xn_zne (tgt := 61) hx hb dX6_cell_53 (by decide) (by omega) (fun c_53 => absurd c_53 (by omega)) (fun c_53 => ?_)
  refine lv_aload_n hx hb dX6_cell_56 rfl (lv_at hl 1 rfl) ?_
  refine lv_iconst (v := nI 3) hx hb dX6_cell_57 (by decide) ?_
  refine xk_put hx hb hts (inX6_cell_X6) tyX6 tyX6_ok nmX6 hown hK hI hP hS 0 (by omega) (ci := 6) e1_well rfl 11 (by decide) (flX6_cell_59 hts) rfl rfl (by decide +kernel) (Nat.le_of_ble_eq_true rfl) e1_loc (by rw [e1_well]; simp [up]) dX6_cell_58 (fun H locs hP hS => ?_)
  refine lv_aload_n hx hb dX6_cell_61 rfl (lv_at hl 1 rfl) ?_
  refine xk_get hx hb hts (inX6_cell_X6) hown hK hP 0 (by omega) (ci := 6) e1_well rfl 11 (by decide) (flX6_cell_59 hts) rfl (.int ((up σ1 0 11 (nI 3)) 0 11)) rfl dX6_cell_62 ?_
  refine xn_eqi (y := nI 3) up_s ?_
  refine xn_zne (tgt := 78) hx hb dX6_cell_65 (by decide) (by omega) (fun c_65 => ?_) (fun c_65 => absurd c_65 (by omega))
  refine lv_ldc2 (v := (-9223372036854775808)) hx hb hown (hts (.constantLong RX6 199 (-9223372036854775808)) (by decide +kernel)) dX6_cell_78 ?_
  exact xk_lret hx hb hr X1_ok hK hX hP hS hlk dX6_cell_81 (⟨rfl, I1_ft hJ1⟩)

set_option maxHeartbeats 4000000 in
set_option maxRecDepth 100000 in
theorem a1_cell_ok (l : Launch) {D : va_G} {ca : Nat → ClassId} {ad : Nat → Nat} (hI : Ij ad 34) {σ : Sg} {n p g rn : Nat} {d : Nat → Nat} {th rd : Nat → Nat → Nat} {sl sn : Nat → Nat} {sc : Nat → Nat → Int32} {ft tr : Int32} {k : Nat} {j : Nat} {w : Nat} (hJ : I1 n p g rn d th rd sl sn sc ft tr σ) (hk4 : k < 4) (hw2 : w ≤ 2) (hLw : sl k = w) (hjn : j < sn k) : C1l l D ca ad yX6_cell wsX6_cell { frames := 2, cells := 0, slots := 0, locals := 42 } [.ref (ad 0), .int (nI k), .int (nI j), .int (nI w)] σ (fun r σ' => r = (sc k j).toInt64 ∧ I1 n p g rn d th rd sl sn sc (nI 0) tr σ') := by
  refine xk_entry cX6_cell 5 (some .long) (by decide) rfl (Nat.le_of_ble_eq_true rfl) ?_
  intro pP eE sS mM below meth cC hx hb hml hr hts hown hlk hP hK hX hS ls hl
  have hl : lv_has ls 5 [(0, .ref (ad 0)), (1, .int (nI k)), (2, .int (nI j)), (3, .int (nI w))] := hl
  obtain ⟨hT, hR, hRd, hSh, hnp, hft, htr⟩ := id hJ
  have hn5 := hT.2.2.1
  have hg9 := hT.2.2.2.1
  have hp6 := hR.2.1
  have hrn8 := hRd.2.1
  refine lv_aload_n hx hb dX6_cell_0 rfl (lv_at hl 0 rfl) ?_
  refine lv_iconst (v := nI 0) hx hb dX6_cell_1 (by decide) ?_
  refine xk_put hx hb hts (inX6_cell_X6) tyX6 tyX6_ok nmX6 hown hK hI hP hS 0 (by omega) (ci := 6) e1_well rfl 11 (by decide) (flX6_cell_59 hts) rfl rfl (by decide +kernel) (Nat.le_of_ble_eq_true rfl) e1_loc (by rw [e1_well]; simp [up]) dX6_cell_2 (fun H locs hP hS => ?_)
  obtain ⟨σ0, hσ0⟩ : ∃ τ, τ = up σ 0 11 (nI 0) := ⟨_, rfl⟩
  rw [← hσ0] at hP
  have hJ0 : I1 n p g rn d th rd sl sn sc (nI 0) tr σ0 := by rw [hσ0]; exact I1_ft hJ
  obtain ⟨hT, hR, hRd, hSh, -, hft, htr⟩ := id hJ0
  have hZ := hSh k hk4
  have hL : sl k < 3 := by omega
  have hf0 : fL (sl k) w = 0 := by rw [fL, if_neg (by omega), if_pos hLw]
  refine lv_aload_n hx hb dX6_cell_5 rfl (lv_at hl 0 rfl) ?_
  refine lv_iload_n hx hb dX6_cell_6 rfl (lv_at hl 1 rfl) ?_
  refine xk_fa (va_runV (As := [.int (nI k)]) (rest := []) ⟨hx, hb, hml, hown, hts⟩ (k1_sheetAt_in l hI (x := k)  (by omega)) (cwV 1 hts gX6_cell_X6_sheetAt rfl rfl rfl (by decide +kernel) ⟨Nat.le_of_ble_eq_true rfl, Nat.le_of_ble_eq_true rfl⟩) (xk_preV X1_ok hK hX hP (xk_recv hK hP 0 (by omega) (ci := 6) e1_well rfl)) rfl rfl hl.1 rfl (lv_room (Nat.le_of_ble_eq_true rfl)) dX6_cell_7 ⟨Nat.le_of_ble_eq_true rfl, Nat.le_of_ble_eq_true rfl⟩) hS (fun H locs hP hS => ?_)
  refine lv_astore (lv' := [(4, .ref (ad (1 + k))), (0, .ref (ad 0)), (1, .int (nI k)), (2, .int (nI j)), (3, .int (nI w))]) hx hb dX6_cell_10 hl (by decide) rfl (fun ls hl => ?_)
  refine lv_aload hx hb dX6_cell_12 (lv_at hl 0 rfl) ?_
  refine lv_ifnull hx hb dX6_cell_14 ?_
  refine lv_iload_n hx hb dX6_cell_17 rfl (lv_at hl 4 rfl) ?_
  refine lv_iconst (v := nI 0) hx hb dX6_cell_18 (by decide) ?_
  refine lv_iconst (v := nI 2) hx hb dX6_cell_19 (by decide) ?_
  refine xk_fi (va_runS (As := [.int (nI w), .int (nI 0), .int (nI 2)]) (rest := []) ⟨hx, hb, hml, hown, hts⟩ (k1_within_t l hI (nI w) (nI 0) (nI 2) (xn_in (by omega) (by omega) (by omega))) (va_cwS 3 hts gX6_cell_X6_within rfl rfl rfl (by decide +kernel) ⟨Nat.le_of_ble_eq_true rfl, Nat.le_of_ble_eq_true rfl⟩) (xk_preS X1_ok hK hX hP) rfl rfl hl.1 rfl (lv_room (Nat.le_of_ble_eq_true rfl)) dX6_cell_20 ⟨Nat.le_of_ble_eq_true rfl, Nat.le_of_ble_eq_true rfl⟩) hS (fun H locs hP hS => ?_)
  refine xn_zne (tgt := 30) hx hb dX6_cell_23 (by decide) (by omega) (fun c_23 => ?_) (fun c_23 => absurd c_23 (by omega))
  refine lv_aload_n hx hb dX6_cell_30 rfl (lv_at hl 1 rfl) ?_
  refine lv_aload hx hb dX6_cell_31 (lv_at hl 0 rfl) ?_
  refine lv_iload_n hx hb dX6_cell_33 rfl (lv_at hl 4 rfl) ?_
  refine xk_fi (va_runV (As := [.int (nI w)]) (rest := [.ref (ad 0)]) ⟨hx, hb, hml, hown, hts⟩ (k1_fol l hI (w := w) (by omega) (by omega) hZ hw2) (cwV 1 hts gX6_cell_X2_faultOfLane rfl rfl rfl (by decide +kernel) ⟨Nat.le_of_ble_eq_true rfl, Nat.le_of_ble_eq_true rfl⟩) (xk_preV X1_ok hK hX hP (xk_recv hK hP (1 + k) (by omega) (ci := 2) (e1_sheet (by omega) (by omega)) rfl)) rfl rfl hl.1 rfl (lv_room (Nat.le_of_ble_eq_true rfl)) dX6_cell_34 ⟨Nat.le_of_ble_eq_true rfl, Nat.le_of_ble_eq_true rfl⟩) hS (fun H locs hP hS => ?_)
  have hfl : fL (sl k) w ≤ 2 := by unfold fL; split <;> (try split) <;> omega
  refine xn_eqi (y := nI 0) (by rw [hf0]) ?_
  refine xk_put hx hb hts (inX6_cell_X6) tyX6 tyX6_ok nmX6 hown hK hI hP hS 0 (by omega) (ci := 6) e1_well rfl 11 (by decide) (flX6_cell_59 hts) rfl rfl (by decide +kernel) (Nat.le_of_ble_eq_true rfl) e1_loc (by rw [e1_well]; simp [up]) dX6_cell_37 (fun H locs hP hS => ?_)
  obtain ⟨σ1, hσ1⟩ : ∃ τ, τ = up σ0 0 11 (nI 0) := ⟨_, rfl⟩
  rw [← hσ1] at hP
  have hJ1 : I1 n p g rn d th rd sl sn sc (nI 0) tr σ1 := by rw [hσ1]; exact I1_ft hJ0
  obtain ⟨hT, hR, hRd, hSh, -, hft, htr⟩ := id hJ1
  have hZ := hSh k hk4
  refine lv_aload_n hx hb dX6_cell_40 rfl (lv_at hl 1 rfl) ?_
  refine xk_get hx hb hts (inX6_cell_X6) hown hK hP 0 (by omega) (ci := 6) e1_well rfl 11 (by decide) (flX6_cell_59 hts) rfl (.int (σ1 0 11)) rfl dX6_cell_41 ?_
  refine xn_eqi (y := nI 0) hft ?_
  refine xn_zne (tgt := 61) hx hb dX6_cell_44 (by decide) (by omega) (fun c_44 => absurd c_44 (by omega)) (fun c_44 => ?_)
  refine lv_aload hx hb dX6_cell_47 (lv_at hl 0 rfl) ?_
  refine lv_iload_n hx hb dX6_cell_49 rfl (lv_at hl 3 rfl) ?_
  refine xk_fi (va_runV (As := [.int (nI j)]) (rest := []) ⟨hx, hb, hml, hown, hts⟩ (k1_hasCell_in l hI (by omega) (by omega) hZ hL hjn) (cwV 1 hts gX6_cell_X2_hasCell rfl rfl rfl (by decide +kernel) ⟨Nat.le_of_ble_eq_true rfl, Nat.le_of_ble_eq_true rfl⟩) (xk_preV X1_ok hK hX hP (xk_recv hK hP (1 + k) (by omega) (ci := 2) (e1_sheet (by omega) (by omega)) rfl)) rfl rfl hl.1 rfl (lv_room (Nat.le_of_ble_eq_true rfl)) dX6_cell_50 ⟨Nat.le_of_ble_eq_true rfl, Nat.le_of_ble_eq_true rfl⟩) hS (fun H locs hP hS => ?_)
  refine xn_zne (tgt := 61) hx hb dX6_cell_53 (by decide) (by omega) (fun c_53 => ?_) (fun c_53 => absurd c_53 (by omega))
  refine lv_aload_n hx hb dX6_cell_61 rfl (lv_at hl 1 rfl) ?_
  refine xk_get hx hb hts (inX6_cell_X6) hown hK hP 0 (by omega) (ci := 6) e1_well rfl 11 (by decide) (flX6_cell_59 hts) rfl (.int (σ1 0 11)) rfl dX6_cell_62 ?_
  refine xn_eqi (y := nI 0) hft ?_
  refine xn_zne (tgt := 78) hx hb dX6_cell_65 (by decide) (by omega) (fun c_65 => absurd c_65 (by omega)) (fun c_65 => ?_)
  refine lv_aload hx hb dX6_cell_68 (lv_at hl 0 rfl) ?_
  refine lv_iload_n hx hb dX6_cell_70 rfl (lv_at hl 3 rfl) ?_
  refine xk_fi (va_runV (As := [.int (nI j)]) (rest := []) ⟨hx, hb, hml, hown, hts⟩ (k1_numberAt l hI (by omega) (by omega) hZ hL hjn) (cwV 1 hts gX6_cell_X2_numberAt rfl rfl rfl (by decide +kernel) ⟨Nat.le_of_ble_eq_true rfl, Nat.le_of_ble_eq_true rfl⟩) (xk_preV X1_ok hK hX hP (xk_recv hK hP (1 + k) (by omega) (ci := 2) (e1_sheet (by omega) (by omega)) rfl)) rfl rfl hl.1 rfl (lv_room (Nat.le_of_ble_eq_true rfl)) dX6_cell_71 ⟨Nat.le_of_ble_eq_true rfl, Nat.le_of_ble_eq_true rfl⟩) hS (fun H locs hP hS => ?_)
  refine lv_i2l hx hb dX6_cell_74 rfl ?_
  refine lv_goto (tgt := 81) hx hb dX6_cell_75 (by decide) ?_
  exact xk_lret hx hb hr X1_ok hK hX hP hS hlk dX6_cell_81 (⟨rfl, hJ1⟩)

set_option maxRecDepth 20000 in
theorem flX6_copy_59 {s : State} {av : Array Value} (hts : ∀ w ∈ wsX6_copy, w.before av s = true) : (Cond.fieldLink RX6 59 "WellBack" "latestFault" "I").before av s = true := hts _ (by decide +kernel)
set_option maxRecDepth 20000 in
theorem inX6_copy_X6 : ∀ w ∈ u_ws RX6 TX6 13, w ∈ wsX6_copy := by decide +kernel
set_option maxHeartbeats 4000000 in
set_option maxRecDepth 100000 in
theorem a1_copy_ko (l : Launch) {D : va_G} {ca : Nat → ClassId} {ad : Nat → Nat} (hI : Ij ad 34) {σ : Sg} {n p g rn : Nat} {d : Nat → Nat} {th rd : Nat → Nat → Nat} {sl sn : Nat → Nat} {sc : Nat → Nat → Int32} {ft tr : Int32} {k : Int32} {o : Int32} {a b m : Int32} (hJ : I1 n p g rn d th rd sl sn sc ft tr σ) (hko : ∀ j, j < 4 → k ≠ nI j) (hoo : ∀ j, j < 4 → o ≠ nI j) : C1i l D ca ad yX6_copy wsX6_copy { frames := 1, cells := 0, slots := 0, locals := 40 } [.ref (ad 0), .int k, .int a, .int o, .int b, .int m] σ (fun r σ' => r = -1 ∧ I1 n p g rn d th rd sl sn sc (nI 0) tr σ') := by
  refine xk_entry cX6_copy 8 (some .int) (by decide) rfl (Nat.le_of_ble_eq_true rfl) ?_
  intro pP eE sS mM below meth cC hx hb hml hr hts hown hlk hP hK hX hS ls hl
  have hl : lv_has ls 8 [(0, .ref (ad 0)), (1, .int k), (2, .int a), (3, .int o), (4, .int b), (5, .int m)] := hl
  obtain ⟨hT, hR, hRd, hSh, hnp, hft, htr⟩ := id hJ
  have hn5 := hT.2.2.1
  have hg9 := hT.2.2.2.1
  have hp6 := hR.2.1
  have hrn8 := hRd.2.1
  refine lv_aload_n hx hb dX6_copy_0 rfl (lv_at hl 0 rfl) ?_
  refine lv_iconst (v := nI 0) hx hb dX6_copy_1 (by decide) ?_
  refine xk_put hx hb hts (inX6_copy_X6) tyX6 tyX6_ok nmX6 hown hK hI hP hS 0 (by omega) (ci := 6) e1_well rfl 11 (by decide) (flX6_copy_59 hts) rfl rfl (by decide +kernel) (Nat.le_of_ble_eq_true rfl) e1_loc (by rw [e1_well]; simp [up]) dX6_copy_2 (fun H locs hP hS => ?_)
  obtain ⟨σ0, hσ0⟩ : ∃ τ, τ = up σ 0 11 (nI 0) := ⟨_, rfl⟩
  rw [← hσ0] at hP
  have hJ0 : I1 n p g rn d th rd sl sn sc (nI 0) tr σ0 := by rw [hσ0]; exact I1_ft hJ
  obtain ⟨hT, hR, hRd, hSh, -, hft, htr⟩ := id hJ0
  refine lv_aload_n hx hb dX6_copy_5 rfl (lv_at hl 0 rfl) ?_
  refine lv_iload_n hx hb dX6_copy_6 rfl (lv_at hl 1 rfl) ?_
  refine xk_fz (va_runV (As := [.int k]) (rest := []) ⟨hx, hb, hml, hown, hts⟩ (k1_sheetAt_out l hI (x := k)  (by assumption)) (cwV 1 hts gX6_copy_X6_sheetAt rfl rfl rfl (by decide +kernel) ⟨Nat.le_of_ble_eq_true rfl, Nat.le_of_ble_eq_true rfl⟩) (xk_preV X1_ok hK hX hP (xk_recv hK hP 0 (by omega) (ci := 6) e1_well rfl)) rfl rfl hl.1 rfl (lv_room (Nat.le_of_ble_eq_true rfl)) dX6_copy_7 ⟨Nat.le_of_ble_eq_true rfl, Nat.le_of_ble_eq_true rfl⟩) hS (fun H locs hP hS => ?_)
  refine lv_astoreN (lv' := [(6, .null), (0, .ref (ad 0)), (1, .int k), (2, .int a), (3, .int o), (4, .int b), (5, .int m)]) hx hb dX6_copy_10 hl (by decide) rfl (fun ls hl => ?_)
  refine lv_aload_n hx hb dX6_copy_12 rfl (lv_at hl 1 rfl) ?_
  refine lv_iload_n hx hb dX6_copy_13 rfl (lv_at hl 4 rfl) ?_
  refine xk_fz (va_runV (As := [.int o]) (rest := []) ⟨hx, hb, hml, hown, hts⟩ (k1_sheetAt_out l hI (x := o)  (by assumption)) (cwV 1 hts gX6_copy_X6_sheetAt rfl rfl rfl (by decide +kernel) ⟨Nat.le_of_ble_eq_true rfl, Nat.le_of_ble_eq_true rfl⟩) (xk_preV X1_ok hK hX hP (xk_recv hK hP 0 (by omega) (ci := 6) e1_well rfl)) rfl rfl hl.1 rfl (lv_room (Nat.le_of_ble_eq_true rfl)) dX6_copy_14 ⟨Nat.le_of_ble_eq_true rfl, Nat.le_of_ble_eq_true rfl⟩) hS (fun H locs hP hS => ?_)
  refine lv_astoreN (lv' := [(7, .null), (6, .null), (0, .ref (ad 0)), (1, .int k), (2, .int a), (3, .int o), (4, .int b), (5, .int m)]) hx hb dX6_copy_17 hl (by decide) rfl (fun ls hl => ?_)
  refine lv_aloadN hx hb dX6_copy_19 (lv_at hl 1 rfl) ?_
  refine lv_ifnullN (tgt := 29) hx hb dX6_copy_21 (by decide) ?_
  refine lv_iconst (v := (-1)) hx hb dX6_copy_29 (by decide) ?_
  exact xk_iret hx hb hr (vp_nar_int _) X1_ok hK hX hP hS hlk dX6_copy_30 (⟨rfl, hJ0⟩)

set_option maxHeartbeats 4000000 in
set_option maxRecDepth 100000 in
theorem a1_copy_ki (l : Launch) {D : va_G} {ca : Nat → ClassId} {ad : Nat → Nat} (hI : Ij ad 34) {σ : Sg} {n p g rn : Nat} {d : Nat → Nat} {th rd : Nat → Nat → Nat} {sl sn : Nat → Nat} {sc : Nat → Nat → Int32} {ft tr : Int32} {k : Int32} {o : Nat} {a b m : Int32} (hJ : I1 n p g rn d th rd sl sn sc ft tr σ) (hko : ∀ j, j < 4 → k ≠ nI j) (ho4 : o < 4) : C1i l D ca ad yX6_copy wsX6_copy { frames := 1, cells := 0, slots := 0, locals := 40 } [.ref (ad 0), .int k, .int a, .int (nI o), .int b, .int m] σ (fun r σ' => r = -1 ∧ I1 n p g rn d th rd sl sn sc (nI 0) tr σ') := by
  refine xk_entry cX6_copy 8 (some .int) (by decide) rfl (Nat.le_of_ble_eq_true rfl) ?_
  intro pP eE sS mM below meth cC hx hb hml hr hts hown hlk hP hK hX hS ls hl
  have hl : lv_has ls 8 [(0, .ref (ad 0)), (1, .int k), (2, .int a), (3, .int (nI o)), (4, .int b), (5, .int m)] := hl
  obtain ⟨hT, hR, hRd, hSh, hnp, hft, htr⟩ := id hJ
  have hn5 := hT.2.2.1
  have hg9 := hT.2.2.2.1
  have hp6 := hR.2.1
  have hrn8 := hRd.2.1
  refine lv_aload_n hx hb dX6_copy_0 rfl (lv_at hl 0 rfl) ?_
  refine lv_iconst (v := nI 0) hx hb dX6_copy_1 (by decide) ?_
  refine xk_put hx hb hts (inX6_copy_X6) tyX6 tyX6_ok nmX6 hown hK hI hP hS 0 (by omega) (ci := 6) e1_well rfl 11 (by decide) (flX6_copy_59 hts) rfl rfl (by decide +kernel) (Nat.le_of_ble_eq_true rfl) e1_loc (by rw [e1_well]; simp [up]) dX6_copy_2 (fun H locs hP hS => ?_)
  obtain ⟨σ0, hσ0⟩ : ∃ τ, τ = up σ 0 11 (nI 0) := ⟨_, rfl⟩
  rw [← hσ0] at hP
  have hJ0 : I1 n p g rn d th rd sl sn sc (nI 0) tr σ0 := by rw [hσ0]; exact I1_ft hJ
  obtain ⟨hT, hR, hRd, hSh, -, hft, htr⟩ := id hJ0
  have hZo := hSh o ho4
  refine lv_aload_n hx hb dX6_copy_5 rfl (lv_at hl 0 rfl) ?_
  refine lv_iload_n hx hb dX6_copy_6 rfl (lv_at hl 1 rfl) ?_
  refine xk_fz (va_runV (As := [.int k]) (rest := []) ⟨hx, hb, hml, hown, hts⟩ (k1_sheetAt_out l hI (x := k)  (by assumption)) (cwV 1 hts gX6_copy_X6_sheetAt rfl rfl rfl (by decide +kernel) ⟨Nat.le_of_ble_eq_true rfl, Nat.le_of_ble_eq_true rfl⟩) (xk_preV X1_ok hK hX hP (xk_recv hK hP 0 (by omega) (ci := 6) e1_well rfl)) rfl rfl hl.1 rfl (lv_room (Nat.le_of_ble_eq_true rfl)) dX6_copy_7 ⟨Nat.le_of_ble_eq_true rfl, Nat.le_of_ble_eq_true rfl⟩) hS (fun H locs hP hS => ?_)
  refine lv_astoreN (lv' := [(6, .null), (0, .ref (ad 0)), (1, .int k), (2, .int a), (3, .int (nI o)), (4, .int b), (5, .int m)]) hx hb dX6_copy_10 hl (by decide) rfl (fun ls hl => ?_)
  refine lv_aload_n hx hb dX6_copy_12 rfl (lv_at hl 1 rfl) ?_
  refine lv_iload_n hx hb dX6_copy_13 rfl (lv_at hl 4 rfl) ?_
  refine xk_fa (va_runV (As := [.int (nI o)]) (rest := []) ⟨hx, hb, hml, hown, hts⟩ (k1_sheetAt_in l hI (x := o)  (by omega)) (cwV 1 hts gX6_copy_X6_sheetAt rfl rfl rfl (by decide +kernel) ⟨Nat.le_of_ble_eq_true rfl, Nat.le_of_ble_eq_true rfl⟩) (xk_preV X1_ok hK hX hP (xk_recv hK hP 0 (by omega) (ci := 6) e1_well rfl)) rfl rfl hl.1 rfl (lv_room (Nat.le_of_ble_eq_true rfl)) dX6_copy_14 ⟨Nat.le_of_ble_eq_true rfl, Nat.le_of_ble_eq_true rfl⟩) hS (fun H locs hP hS => ?_)
  refine lv_astore (lv' := [(7, .ref (ad (1 + o))), (6, .null), (0, .ref (ad 0)), (1, .int k), (2, .int a), (3, .int (nI o)), (4, .int b), (5, .int m)]) hx hb dX6_copy_17 hl (by decide) rfl (fun ls hl => ?_)
  refine lv_aloadN hx hb dX6_copy_19 (lv_at hl 1 rfl) ?_
  refine lv_ifnullN (tgt := 29) hx hb dX6_copy_21 (by decide) ?_
  refine lv_iconst (v := (-1)) hx hb dX6_copy_29 (by decide) ?_
  exact xk_iret hx hb hr (vp_nar_int _) X1_ok hK hX hP hS hlk dX6_copy_30 (⟨rfl, hJ0⟩)

set_option maxHeartbeats 4000000 in
set_option maxRecDepth 100000 in
theorem a1_copy_oo (l : Launch) {D : va_G} {ca : Nat → ClassId} {ad : Nat → Nat} (hI : Ij ad 34) {σ : Sg} {n p g rn : Nat} {d : Nat → Nat} {th rd : Nat → Nat → Nat} {sl sn : Nat → Nat} {sc : Nat → Nat → Int32} {ft tr : Int32} {k : Nat} {o : Int32} {a b m : Int32} (hJ : I1 n p g rn d th rd sl sn sc ft tr σ) (hk4 : k < 4) (hoo : ∀ j, j < 4 → o ≠ nI j) : C1i l D ca ad yX6_copy wsX6_copy { frames := 1, cells := 0, slots := 0, locals := 40 } [.ref (ad 0), .int (nI k), .int a, .int o, .int b, .int m] σ (fun r σ' => r = -1 ∧ I1 n p g rn d th rd sl sn sc (nI 0) tr σ') := by
  refine xk_entry cX6_copy 8 (some .int) (by decide) rfl (Nat.le_of_ble_eq_true rfl) ?_
  intro pP eE sS mM below meth cC hx hb hml hr hts hown hlk hP hK hX hS ls hl
  have hl : lv_has ls 8 [(0, .ref (ad 0)), (1, .int (nI k)), (2, .int a), (3, .int o), (4, .int b), (5, .int m)] := hl
  obtain ⟨hT, hR, hRd, hSh, hnp, hft, htr⟩ := id hJ
  have hn5 := hT.2.2.1
  have hg9 := hT.2.2.2.1
  have hp6 := hR.2.1
  have hrn8 := hRd.2.1
  refine lv_aload_n hx hb dX6_copy_0 rfl (lv_at hl 0 rfl) ?_
  refine lv_iconst (v := nI 0) hx hb dX6_copy_1 (by decide) ?_
  refine xk_put hx hb hts (inX6_copy_X6) tyX6 tyX6_ok nmX6 hown hK hI hP hS 0 (by omega) (ci := 6) e1_well rfl 11 (by decide) (flX6_copy_59 hts) rfl rfl (by decide +kernel) (Nat.le_of_ble_eq_true rfl) e1_loc (by rw [e1_well]; simp [up]) dX6_copy_2 (fun H locs hP hS => ?_)
  obtain ⟨σ0, hσ0⟩ : ∃ τ, τ = up σ 0 11 (nI 0) := ⟨_, rfl⟩
  rw [← hσ0] at hP
  have hJ0 : I1 n p g rn d th rd sl sn sc (nI 0) tr σ0 := by rw [hσ0]; exact I1_ft hJ
  obtain ⟨hT, hR, hRd, hSh, -, hft, htr⟩ := id hJ0
  have hZ := hSh k hk4
  refine lv_aload_n hx hb dX6_copy_5 rfl (lv_at hl 0 rfl) ?_
  refine lv_iload_n hx hb dX6_copy_6 rfl (lv_at hl 1 rfl) ?_
  refine xk_fa (va_runV (As := [.int (nI k)]) (rest := []) ⟨hx, hb, hml, hown, hts⟩ (k1_sheetAt_in l hI (x := k)  (by omega)) (cwV 1 hts gX6_copy_X6_sheetAt rfl rfl rfl (by decide +kernel) ⟨Nat.le_of_ble_eq_true rfl, Nat.le_of_ble_eq_true rfl⟩) (xk_preV X1_ok hK hX hP (xk_recv hK hP 0 (by omega) (ci := 6) e1_well rfl)) rfl rfl hl.1 rfl (lv_room (Nat.le_of_ble_eq_true rfl)) dX6_copy_7 ⟨Nat.le_of_ble_eq_true rfl, Nat.le_of_ble_eq_true rfl⟩) hS (fun H locs hP hS => ?_)
  refine lv_astore (lv' := [(6, .ref (ad (1 + k))), (0, .ref (ad 0)), (1, .int (nI k)), (2, .int a), (3, .int o), (4, .int b), (5, .int m)]) hx hb dX6_copy_10 hl (by decide) rfl (fun ls hl => ?_)
  refine lv_aload_n hx hb dX6_copy_12 rfl (lv_at hl 1 rfl) ?_
  refine lv_iload_n hx hb dX6_copy_13 rfl (lv_at hl 4 rfl) ?_
  refine xk_fz (va_runV (As := [.int o]) (rest := []) ⟨hx, hb, hml, hown, hts⟩ (k1_sheetAt_out l hI (x := o)  (by assumption)) (cwV 1 hts gX6_copy_X6_sheetAt rfl rfl rfl (by decide +kernel) ⟨Nat.le_of_ble_eq_true rfl, Nat.le_of_ble_eq_true rfl⟩) (xk_preV X1_ok hK hX hP (xk_recv hK hP 0 (by omega) (ci := 6) e1_well rfl)) rfl rfl hl.1 rfl (lv_room (Nat.le_of_ble_eq_true rfl)) dX6_copy_14 ⟨Nat.le_of_ble_eq_true rfl, Nat.le_of_ble_eq_true rfl⟩) hS (fun H locs hP hS => ?_)
  refine lv_astoreN (lv' := [(7, .null), (6, .ref (ad (1 + k))), (0, .ref (ad 0)), (1, .int (nI k)), (2, .int a), (3, .int o), (4, .int b), (5, .int m)]) hx hb dX6_copy_17 hl (by decide) rfl (fun ls hl => ?_)
  refine lv_aload hx hb dX6_copy_19 (lv_at hl 1 rfl) ?_
  refine lv_ifnull hx hb dX6_copy_21 ?_
  refine lv_aloadN hx hb dX6_copy_24 (lv_at hl 0 rfl) ?_
  refine lv_ifnonnullN hx hb dX6_copy_26 ?_
  refine lv_iconst (v := (-1)) hx hb dX6_copy_29 (by decide) ?_
  exact xk_iret hx hb hr (vp_nar_int _) X1_ok hK hX hP hS hlk dX6_copy_30 (⟨rfl, hJ0⟩)

set_option maxHeartbeats 4000000 in
set_option maxRecDepth 100000 in
theorem a1_copy_kn (l : Launch) {D : va_G} {ca : Nat → ClassId} {ad : Nat → Nat} (hI : Ij ad 34) {σ : Sg} {n p g rn : Nat} {d : Nat → Nat} {th rd : Nat → Nat → Nat} {sl sn : Nat → Nat} {sc : Nat → Nat → Int32} {ft tr : Int32} {k : Nat} {o : Nat} {a b m : Int32} (hJ : I1 n p g rn d th rd sl sn sc ft tr σ) (hk4 : k < 4) (ho4 : o < 4) (hL3 : sl k = 3) : C1i l D ca ad yX6_copy wsX6_copy { frames := 1, cells := 0, slots := 0, locals := 40 } [.ref (ad 0), .int (nI k), .int a, .int (nI o), .int b, .int m] σ (fun r σ' => r = (-10) - nI 1 ∧ I1 n p g rn d th rd sl sn sc (nI 1) tr σ') := by
  refine xk_entry cX6_copy 8 (some .int) (by decide) rfl (Nat.le_of_ble_eq_true rfl) ?_
  intro pP eE sS mM below meth cC hx hb hml hr hts hown hlk hP hK hX hS ls hl
  have hl : lv_has ls 8 [(0, .ref (ad 0)), (1, .int (nI k)), (2, .int a), (3, .int (nI o)), (4, .int b), (5, .int m)] := hl
  obtain ⟨hT, hR, hRd, hSh, hnp, hft, htr⟩ := id hJ
  have hn5 := hT.2.2.1
  have hg9 := hT.2.2.2.1
  have hp6 := hR.2.1
  have hrn8 := hRd.2.1
  refine lv_aload_n hx hb dX6_copy_0 rfl (lv_at hl 0 rfl) ?_
  refine lv_iconst (v := nI 0) hx hb dX6_copy_1 (by decide) ?_
  refine xk_put hx hb hts (inX6_copy_X6) tyX6 tyX6_ok nmX6 hown hK hI hP hS 0 (by omega) (ci := 6) e1_well rfl 11 (by decide) (flX6_copy_59 hts) rfl rfl (by decide +kernel) (Nat.le_of_ble_eq_true rfl) e1_loc (by rw [e1_well]; simp [up]) dX6_copy_2 (fun H locs hP hS => ?_)
  obtain ⟨σ0, hσ0⟩ : ∃ τ, τ = up σ 0 11 (nI 0) := ⟨_, rfl⟩
  rw [← hσ0] at hP
  have hJ0 : I1 n p g rn d th rd sl sn sc (nI 0) tr σ0 := by rw [hσ0]; exact I1_ft hJ
  obtain ⟨hT, hR, hRd, hSh, -, hft, htr⟩ := id hJ0
  have hZ := hSh k hk4
  have hZo := hSh o ho4
  refine lv_aload_n hx hb dX6_copy_5 rfl (lv_at hl 0 rfl) ?_
  refine lv_iload_n hx hb dX6_copy_6 rfl (lv_at hl 1 rfl) ?_
  refine xk_fa (va_runV (As := [.int (nI k)]) (rest := []) ⟨hx, hb, hml, hown, hts⟩ (k1_sheetAt_in l hI (x := k)  (by omega)) (cwV 1 hts gX6_copy_X6_sheetAt rfl rfl rfl (by decide +kernel) ⟨Nat.le_of_ble_eq_true rfl, Nat.le_of_ble_eq_true rfl⟩) (xk_preV X1_ok hK hX hP (xk_recv hK hP 0 (by omega) (ci := 6) e1_well rfl)) rfl rfl hl.1 rfl (lv_room (Nat.le_of_ble_eq_true rfl)) dX6_copy_7 ⟨Nat.le_of_ble_eq_true rfl, Nat.le_of_ble_eq_true rfl⟩) hS (fun H locs hP hS => ?_)
  refine lv_astore (lv' := [(6, .ref (ad (1 + k))), (0, .ref (ad 0)), (1, .int (nI k)), (2, .int a), (3, .int (nI o)), (4, .int b), (5, .int m)]) hx hb dX6_copy_10 hl (by decide) rfl (fun ls hl => ?_)
  refine lv_aload_n hx hb dX6_copy_12 rfl (lv_at hl 1 rfl) ?_
  refine lv_iload_n hx hb dX6_copy_13 rfl (lv_at hl 4 rfl) ?_
  refine xk_fa (va_runV (As := [.int (nI o)]) (rest := []) ⟨hx, hb, hml, hown, hts⟩ (k1_sheetAt_in l hI (x := o)  (by omega)) (cwV 1 hts gX6_copy_X6_sheetAt rfl rfl rfl (by decide +kernel) ⟨Nat.le_of_ble_eq_true rfl, Nat.le_of_ble_eq_true rfl⟩) (xk_preV X1_ok hK hX hP (xk_recv hK hP 0 (by omega) (ci := 6) e1_well rfl)) rfl rfl hl.1 rfl (lv_room (Nat.le_of_ble_eq_true rfl)) dX6_copy_14 ⟨Nat.le_of_ble_eq_true rfl, Nat.le_of_ble_eq_true rfl⟩) hS (fun H locs hP hS => ?_)
  refine lv_astore (lv' := [(7, .ref (ad (1 + o))), (6, .ref (ad (1 + k))), (0, .ref (ad 0)), (1, .int (nI k)), (2, .int a), (3, .int (nI o)), (4, .int b), (5, .int m)]) hx hb dX6_copy_17 hl (by decide) rfl (fun ls hl => ?_)
  refine lv_aload hx hb dX6_copy_19 (lv_at hl 1 rfl) ?_
  refine lv_ifnull hx hb dX6_copy_21 ?_
  refine lv_aload hx hb dX6_copy_24 (lv_at hl 0 rfl) ?_
  refine lv_ifnonnull (tgt := 31) hx hb dX6_copy_26 (by decide) ?_
  refine lv_aload hx hb dX6_copy_31 (lv_at hl 1 rfl) ?_
  refine xk_fi (va_runV (As := []) (rest := []) ⟨hx, hb, hml, hown, hts⟩ (k1_hasRow_f l hI (by omega) (by omega) hZ hL3) (cwV 0 hts gX6_copy_X2_hasRow rfl rfl rfl (by decide +kernel) ⟨Nat.le_of_ble_eq_true rfl, Nat.le_of_ble_eq_true rfl⟩) (xk_preV X1_ok hK hX hP (xk_recv hK hP (1 + k) (by omega) (ci := 2) (e1_sheet (by omega) (by omega)) rfl)) rfl rfl hl.1 rfl (lv_room (Nat.le_of_ble_eq_true rfl)) dX6_copy_33 ⟨Nat.le_of_ble_eq_true rfl, Nat.le_of_ble_eq_true rfl⟩) hS (fun H locs hP hS => ?_)
  refine xn_zeq (tgt := 47) hx hb dX6_copy_36 (by decide) (by omega) (fun c_36 => ?_) (fun c_36 => absurd c_36 (by omega))
  refine lv_aload_n hx hb dX6_copy_47 rfl (lv_at hl 2 rfl) ?_
  refine lv_iconst (v := nI 1) hx hb dX6_copy_48 (by decide) ?_
  refine xk_fi (va_runV (As := [.int (nI 1)]) (rest := []) ⟨hx, hb, hml, hown, hts⟩ (k1_faulted l hI 1) (cwV 1 hts gX6_copy_X6_faulted rfl rfl rfl (by decide +kernel) ⟨Nat.le_of_ble_eq_true rfl, Nat.le_of_ble_eq_true rfl⟩) (xk_preV X1_ok hK hX hP (xk_recv hK hP 0 (by omega) (ci := 6) e1_well rfl)) rfl rfl hl.1 rfl (lv_room (Nat.le_of_ble_eq_true rfl)) dX6_copy_49 ⟨Nat.le_of_ble_eq_true rfl, Nat.le_of_ble_eq_true rfl⟩) hS (fun H locs hP hS => ?_)
  exact xk_iret hx hb hr (vp_nar_int _) X1_ok hK hX hP hS hlk dX6_copy_52 (⟨rfl, I1_ft hJ0⟩)

set_option maxHeartbeats 4000000 in
set_option maxRecDepth 100000 in
theorem a1_copy_on (l : Launch) {D : va_G} {ca : Nat → ClassId} {ad : Nat → Nat} (hI : Ij ad 34) {σ : Sg} {n p g rn : Nat} {d : Nat → Nat} {th rd : Nat → Nat → Nat} {sl sn : Nat → Nat} {sc : Nat → Nat → Int32} {ft tr : Int32} {k : Nat} {o : Nat} {a b m : Int32} (hJ : I1 n p g rn d th rd sl sn sc ft tr σ) (hk4 : k < 4) (ho4 : o < 4) (hL : sl k < 3) (hM3 : sl o = 3) : C1i l D ca ad yX6_copy wsX6_copy { frames := 1, cells := 0, slots := 0, locals := 40 } [.ref (ad 0), .int (nI k), .int a, .int (nI o), .int b, .int m] σ (fun r σ' => r = (-10) - nI 1 ∧ I1 n p g rn d th rd sl sn sc (nI 1) tr σ') := by
  refine xk_entry cX6_copy 8 (some .int) (by decide) rfl (Nat.le_of_ble_eq_true rfl) ?_
  intro pP eE sS mM below meth cC hx hb hml hr hts hown hlk hP hK hX hS ls hl
  have hl : lv_has ls 8 [(0, .ref (ad 0)), (1, .int (nI k)), (2, .int a), (3, .int (nI o)), (4, .int b), (5, .int m)] := hl
  obtain ⟨hT, hR, hRd, hSh, hnp, hft, htr⟩ := id hJ
  have hn5 := hT.2.2.1
  have hg9 := hT.2.2.2.1
  have hp6 := hR.2.1
  have hrn8 := hRd.2.1
  refine lv_aload_n hx hb dX6_copy_0 rfl (lv_at hl 0 rfl) ?_
  refine lv_iconst (v := nI 0) hx hb dX6_copy_1 (by decide) ?_
  refine xk_put hx hb hts (inX6_copy_X6) tyX6 tyX6_ok nmX6 hown hK hI hP hS 0 (by omega) (ci := 6) e1_well rfl 11 (by decide) (flX6_copy_59 hts) rfl rfl (by decide +kernel) (Nat.le_of_ble_eq_true rfl) e1_loc (by rw [e1_well]; simp [up]) dX6_copy_2 (fun H locs hP hS => ?_)
  obtain ⟨σ0, hσ0⟩ : ∃ τ, τ = up σ 0 11 (nI 0) := ⟨_, rfl⟩
  rw [← hσ0] at hP
  have hJ0 : I1 n p g rn d th rd sl sn sc (nI 0) tr σ0 := by rw [hσ0]; exact I1_ft hJ
  obtain ⟨hT, hR, hRd, hSh, -, hft, htr⟩ := id hJ0
  have hZ := hSh k hk4
  have hZo := hSh o ho4
  refine lv_aload_n hx hb dX6_copy_5 rfl (lv_at hl 0 rfl) ?_
  refine lv_iload_n hx hb dX6_copy_6 rfl (lv_at hl 1 rfl) ?_
  refine xk_fa (va_runV (As := [.int (nI k)]) (rest := []) ⟨hx, hb, hml, hown, hts⟩ (k1_sheetAt_in l hI (x := k)  (by omega)) (cwV 1 hts gX6_copy_X6_sheetAt rfl rfl rfl (by decide +kernel) ⟨Nat.le_of_ble_eq_true rfl, Nat.le_of_ble_eq_true rfl⟩) (xk_preV X1_ok hK hX hP (xk_recv hK hP 0 (by omega) (ci := 6) e1_well rfl)) rfl rfl hl.1 rfl (lv_room (Nat.le_of_ble_eq_true rfl)) dX6_copy_7 ⟨Nat.le_of_ble_eq_true rfl, Nat.le_of_ble_eq_true rfl⟩) hS (fun H locs hP hS => ?_)
  refine lv_astore (lv' := [(6, .ref (ad (1 + k))), (0, .ref (ad 0)), (1, .int (nI k)), (2, .int a), (3, .int (nI o)), (4, .int b), (5, .int m)]) hx hb dX6_copy_10 hl (by decide) rfl (fun ls hl => ?_)
  refine lv_aload_n hx hb dX6_copy_12 rfl (lv_at hl 1 rfl) ?_
  refine lv_iload_n hx hb dX6_copy_13 rfl (lv_at hl 4 rfl) ?_
  refine xk_fa (va_runV (As := [.int (nI o)]) (rest := []) ⟨hx, hb, hml, hown, hts⟩ (k1_sheetAt_in l hI (x := o)  (by omega)) (cwV 1 hts gX6_copy_X6_sheetAt rfl rfl rfl (by decide +kernel) ⟨Nat.le_of_ble_eq_true rfl, Nat.le_of_ble_eq_true rfl⟩) (xk_preV X1_ok hK hX hP (xk_recv hK hP 0 (by omega) (ci := 6) e1_well rfl)) rfl rfl hl.1 rfl (lv_room (Nat.le_of_ble_eq_true rfl)) dX6_copy_14 ⟨Nat.le_of_ble_eq_true rfl, Nat.le_of_ble_eq_true rfl⟩) hS (fun H locs hP hS => ?_)
  refine lv_astore (lv' := [(7, .ref (ad (1 + o))), (6, .ref (ad (1 + k))), (0, .ref (ad 0)), (1, .int (nI k)), (2, .int a), (3, .int (nI o)), (4, .int b), (5, .int m)]) hx hb dX6_copy_17 hl (by decide) rfl (fun ls hl => ?_)
  refine lv_aload hx hb dX6_copy_19 (lv_at hl 1 rfl) ?_
  refine lv_ifnull hx hb dX6_copy_21 ?_
  refine lv_aload hx hb dX6_copy_24 (lv_at hl 0 rfl) ?_
  refine lv_ifnonnull (tgt := 31) hx hb dX6_copy_26 (by decide) ?_
  refine lv_aload hx hb dX6_copy_31 (lv_at hl 1 rfl) ?_
  refine xk_fi (va_runV (As := []) (rest := []) ⟨hx, hb, hml, hown, hts⟩ (k1_hasRow_t l hI (by omega) (by omega) hZ hL) (cwV 0 hts gX6_copy_X2_hasRow rfl rfl rfl (by decide +kernel) ⟨Nat.le_of_ble_eq_true rfl, Nat.le_of_ble_eq_true rfl⟩) (xk_preV X1_ok hK hX hP (xk_recv hK hP (1 + k) (by omega) (ci := 2) (e1_sheet (by omega) (by omega)) rfl)) rfl rfl hl.1 rfl (lv_room (Nat.le_of_ble_eq_true rfl)) dX6_copy_33 ⟨Nat.le_of_ble_eq_true rfl, Nat.le_of_ble_eq_true rfl⟩) hS (fun H locs hP hS => ?_)
  refine xn_zeq (tgt := 47) hx hb dX6_copy_36 (by decide) (by omega) (fun c_36 => absurd c_36 (by omega)) (fun c_36 => ?_)
  refine lv_aload hx hb dX6_copy_39 (lv_at hl 0 rfl) ?_
  refine xk_fi (va_runV (As := []) (rest := []) ⟨hx, hb, hml, hown, hts⟩ (k1_hasRow_f l hI (by omega) (by omega) hZo hM3) (cwV 0 hts gX6_copy_X2_hasRow rfl rfl rfl (by decide +kernel) ⟨Nat.le_of_ble_eq_true rfl, Nat.le_of_ble_eq_true rfl⟩) (xk_preV X1_ok hK hX hP (xk_recv hK hP (1 + o) (by omega) (ci := 2) (e1_sheet (by omega) (by omega)) rfl)) rfl rfl hl.1 rfl (lv_room (Nat.le_of_ble_eq_true rfl)) dX6_copy_41 ⟨Nat.le_of_ble_eq_true rfl, Nat.le_of_ble_eq_true rfl⟩) hS (fun H locs hP hS => ?_)
  refine xn_zne (tgt := 53) hx hb dX6_copy_44 (by decide) (by omega) (fun c_44 => absurd c_44 (by omega)) (fun c_44 => ?_)
  refine lv_aload_n hx hb dX6_copy_47 rfl (lv_at hl 2 rfl) ?_
  refine lv_iconst (v := nI 1) hx hb dX6_copy_48 (by decide) ?_
  refine xk_fi (va_runV (As := [.int (nI 1)]) (rest := []) ⟨hx, hb, hml, hown, hts⟩ (k1_faulted l hI 1) (cwV 1 hts gX6_copy_X6_faulted rfl rfl rfl (by decide +kernel) ⟨Nat.le_of_ble_eq_true rfl, Nat.le_of_ble_eq_true rfl⟩) (xk_preV X1_ok hK hX hP (xk_recv hK hP 0 (by omega) (ci := 6) e1_well rfl)) rfl rfl hl.1 rfl (lv_room (Nat.le_of_ble_eq_true rfl)) dX6_copy_49 ⟨Nat.le_of_ble_eq_true rfl, Nat.le_of_ble_eq_true rfl⟩) hS (fun H locs hP hS => ?_)
  exact xk_iret hx hb hr (vp_nar_int _) X1_ok hK hX hP hS hlk dX6_copy_52 (⟨rfl, I1_ft hJ0⟩)

set_option maxRecDepth 20000 in
theorem flX6_copy_229 {s : State} {av : Array Value} (hts : ∀ w ∈ wsX6_copy, w.before av s = true) : (Cond.fieldLink RX6 229 "WellBack$Sheet" "lane" "I").before av s = true := hts _ (by decide +kernel)
set_option maxRecDepth 20000 in
theorem inX6_copy_X2 : ∀ w ∈ u_ws RX2 TX2 3, w ∈ wsX6_copy := by decide +kernel
set_option maxHeartbeats 4000000 in
set_option maxRecDepth 100000 in
theorem a1_copy_un (l : Launch) {D : va_G} {ca : Nat → ClassId} {ad : Nat → Nat} (hI : Ij ad 34) {σ : Sg} {n p g rn : Nat} {d : Nat → Nat} {th rd : Nat → Nat → Nat} {sl sn : Nat → Nat} {sc : Nat → Nat → Int32} {ft tr : Int32} {k : Nat} {o : Nat} {a b m : Int32} (hJ : I1 n p g rn d th rd sl sn sc ft tr σ) (hk4 : k < 4) (ho4 : o < 4) (hL : sl k < 3) (hM : sl o < 3) (hun : ¬ sl k = sl o) : C1i l D ca ad yX6_copy wsX6_copy { frames := 1, cells := 0, slots := 0, locals := 40 } [.ref (ad 0), .int (nI k), .int a, .int (nI o), .int b, .int m] σ (fun r σ' => r = (-10) - nI 2 ∧ I1 n p g rn d th rd sl sn sc (nI 2) tr σ') := by
  refine xk_entry cX6_copy 8 (some .int) (by decide) rfl (Nat.le_of_ble_eq_true rfl) ?_
  intro pP eE sS mM below meth cC hx hb hml hr hts hown hlk hP hK hX hS ls hl
  have hl : lv_has ls 8 [(0, .ref (ad 0)), (1, .int (nI k)), (2, .int a), (3, .int (nI o)), (4, .int b), (5, .int m)] := hl
  obtain ⟨hT, hR, hRd, hSh, hnp, hft, htr⟩ := id hJ
  have hn5 := hT.2.2.1
  have hg9 := hT.2.2.2.1
  have hp6 := hR.2.1
  have hrn8 := hRd.2.1
  refine lv_aload_n hx hb dX6_copy_0 rfl (lv_at hl 0 rfl) ?_
  refine lv_iconst (v := nI 0) hx hb dX6_copy_1 (by decide) ?_
  refine xk_put hx hb hts (inX6_copy_X6) tyX6 tyX6_ok nmX6 hown hK hI hP hS 0 (by omega) (ci := 6) e1_well rfl 11 (by decide) (flX6_copy_59 hts) rfl rfl (by decide +kernel) (Nat.le_of_ble_eq_true rfl) e1_loc (by rw [e1_well]; simp [up]) dX6_copy_2 (fun H locs hP hS => ?_)
  obtain ⟨σ0, hσ0⟩ : ∃ τ, τ = up σ 0 11 (nI 0) := ⟨_, rfl⟩
  rw [← hσ0] at hP
  have hJ0 : I1 n p g rn d th rd sl sn sc (nI 0) tr σ0 := by rw [hσ0]; exact I1_ft hJ
  obtain ⟨hT, hR, hRd, hSh, -, hft, htr⟩ := id hJ0
  have hZ := hSh k hk4
  have hZo := hSh o ho4
  refine lv_aload_n hx hb dX6_copy_5 rfl (lv_at hl 0 rfl) ?_
  refine lv_iload_n hx hb dX6_copy_6 rfl (lv_at hl 1 rfl) ?_
  refine xk_fa (va_runV (As := [.int (nI k)]) (rest := []) ⟨hx, hb, hml, hown, hts⟩ (k1_sheetAt_in l hI (x := k)  (by omega)) (cwV 1 hts gX6_copy_X6_sheetAt rfl rfl rfl (by decide +kernel) ⟨Nat.le_of_ble_eq_true rfl, Nat.le_of_ble_eq_true rfl⟩) (xk_preV X1_ok hK hX hP (xk_recv hK hP 0 (by omega) (ci := 6) e1_well rfl)) rfl rfl hl.1 rfl (lv_room (Nat.le_of_ble_eq_true rfl)) dX6_copy_7 ⟨Nat.le_of_ble_eq_true rfl, Nat.le_of_ble_eq_true rfl⟩) hS (fun H locs hP hS => ?_)
  refine lv_astore (lv' := [(6, .ref (ad (1 + k))), (0, .ref (ad 0)), (1, .int (nI k)), (2, .int a), (3, .int (nI o)), (4, .int b), (5, .int m)]) hx hb dX6_copy_10 hl (by decide) rfl (fun ls hl => ?_)
  refine lv_aload_n hx hb dX6_copy_12 rfl (lv_at hl 1 rfl) ?_
  refine lv_iload_n hx hb dX6_copy_13 rfl (lv_at hl 4 rfl) ?_
  refine xk_fa (va_runV (As := [.int (nI o)]) (rest := []) ⟨hx, hb, hml, hown, hts⟩ (k1_sheetAt_in l hI (x := o)  (by omega)) (cwV 1 hts gX6_copy_X6_sheetAt rfl rfl rfl (by decide +kernel) ⟨Nat.le_of_ble_eq_true rfl, Nat.le_of_ble_eq_true rfl⟩) (xk_preV X1_ok hK hX hP (xk_recv hK hP 0 (by omega) (ci := 6) e1_well rfl)) rfl rfl hl.1 rfl (lv_room (Nat.le_of_ble_eq_true rfl)) dX6_copy_14 ⟨Nat.le_of_ble_eq_true rfl, Nat.le_of_ble_eq_true rfl⟩) hS (fun H locs hP hS => ?_)
  refine lv_astore (lv' := [(7, .ref (ad (1 + o))), (6, .ref (ad (1 + k))), (0, .ref (ad 0)), (1, .int (nI k)), (2, .int a), (3, .int (nI o)), (4, .int b), (5, .int m)]) hx hb dX6_copy_17 hl (by decide) rfl (fun ls hl => ?_)
  refine lv_aload hx hb dX6_copy_19 (lv_at hl 1 rfl) ?_
  refine lv_ifnull hx hb dX6_copy_21 ?_
  refine lv_aload hx hb dX6_copy_24 (lv_at hl 0 rfl) ?_
  refine lv_ifnonnull (tgt := 31) hx hb dX6_copy_26 (by decide) ?_
  refine lv_aload hx hb dX6_copy_31 (lv_at hl 1 rfl) ?_
  refine xk_fi (va_runV (As := []) (rest := []) ⟨hx, hb, hml, hown, hts⟩ (k1_hasRow_t l hI (by omega) (by omega) hZ hL) (cwV 0 hts gX6_copy_X2_hasRow rfl rfl rfl (by decide +kernel) ⟨Nat.le_of_ble_eq_true rfl, Nat.le_of_ble_eq_true rfl⟩) (xk_preV X1_ok hK hX hP (xk_recv hK hP (1 + k) (by omega) (ci := 2) (e1_sheet (by omega) (by omega)) rfl)) rfl rfl hl.1 rfl (lv_room (Nat.le_of_ble_eq_true rfl)) dX6_copy_33 ⟨Nat.le_of_ble_eq_true rfl, Nat.le_of_ble_eq_true rfl⟩) hS (fun H locs hP hS => ?_)
  refine xn_zeq (tgt := 47) hx hb dX6_copy_36 (by decide) (by omega) (fun c_36 => absurd c_36 (by omega)) (fun c_36 => ?_)
  refine lv_aload hx hb dX6_copy_39 (lv_at hl 0 rfl) ?_
  refine xk_fi (va_runV (As := []) (rest := []) ⟨hx, hb, hml, hown, hts⟩ (k1_hasRow_t l hI (by omega) (by omega) hZo hM) (cwV 0 hts gX6_copy_X2_hasRow rfl rfl rfl (by decide +kernel) ⟨Nat.le_of_ble_eq_true rfl, Nat.le_of_ble_eq_true rfl⟩) (xk_preV X1_ok hK hX hP (xk_recv hK hP (1 + o) (by omega) (ci := 2) (e1_sheet (by omega) (by omega)) rfl)) rfl rfl hl.1 rfl (lv_room (Nat.le_of_ble_eq_true rfl)) dX6_copy_41 ⟨Nat.le_of_ble_eq_true rfl, Nat.le_of_ble_eq_true rfl⟩) hS (fun H locs hP hS => ?_)
  refine xn_zne (tgt := 53) hx hb dX6_copy_44 (by decide) (by omega) (fun c_44 => ?_) (fun c_44 => absurd c_44 (by omega))
  refine lv_aload hx hb dX6_copy_53 (lv_at hl 1 rfl) ?_
  refine xk_get hx hb hts (inX6_copy_X2) hown hK hP (1 + k) (by omega) (ci := 2) (e1_sheet (by omega) (by omega)) rfl 1 (by decide) (flX6_copy_229 hts) rfl (.int (σ0 (1 + k) 1)) rfl dX6_copy_55 ?_
  refine xn_eqi (y := nI (sl k)) (hZ.1.trans (lz_lt hL)) ?_
  refine lv_aload hx hb dX6_copy_58 (lv_at hl 0 rfl) ?_
  refine xk_get hx hb hts (inX6_copy_X2) hown hK hP (1 + o) (by omega) (ci := 2) (e1_sheet (by omega) (by omega)) rfl 1 (by decide) (flX6_copy_229 hts) rfl (.int (σ0 (1 + o) 1)) rfl dX6_copy_60 ?_
  refine xn_eqi (y := nI (sl o)) (hZo.1.trans (lz_lt hM)) ?_
  refine xn_ieq (tgt := 72) hx hb dX6_copy_63 (by decide) (by omega) (by omega) (fun c_63 => absurd c_63 (by omega)) (fun c_63 => ?_)
  refine lv_aload_n hx hb dX6_copy_66 rfl (lv_at hl 2 rfl) ?_
  refine lv_iconst (v := nI 2) hx hb dX6_copy_67 (by decide) ?_
  refine xk_fi (va_runV (As := [.int (nI 2)]) (rest := []) ⟨hx, hb, hml, hown, hts⟩ (k1_faulted l hI 2) (cwV 1 hts gX6_copy_X6_faulted rfl rfl rfl (by decide +kernel) ⟨Nat.le_of_ble_eq_true rfl, Nat.le_of_ble_eq_true rfl⟩) (xk_preV X1_ok hK hX hP (xk_recv hK hP 0 (by omega) (ci := 6) e1_well rfl)) rfl rfl hl.1 rfl (lv_room (Nat.le_of_ble_eq_true rfl)) dX6_copy_68 ⟨Nat.le_of_ble_eq_true rfl, Nat.le_of_ble_eq_true rfl⟩) hS (fun H locs hP hS => ?_)
  exact xk_iret hx hb hr (vp_nar_int _) X1_ok hK hX hP hS hlk dX6_copy_71 (⟨rfl, I1_ft hJ0⟩)

set_option maxHeartbeats 4000000 in
set_option maxRecDepth 100000 in
theorem a1_copy_i1 (l : Launch) {D : va_G} {ca : Nat → ClassId} {ad : Nat → Nat} (hI : Ij ad 34) {σ : Sg} {n p g rn : Nat} {d : Nat → Nat} {th rd : Nat → Nat → Nat} {sl sn : Nat → Nat} {sc : Nat → Nat → Int32} {ft tr : Int32} {k : Nat} {o : Nat} {a b m : Int32} (hJ : I1 n p g rn d th rd sl sn sc ft tr σ) (hk4 : k < 4) (ho4 : o < 4) (hL : sl k < 3) (hM : sl o < 3) (heq : sl k = sl o) (hxy : ∀ u v, u + v ≤ sn k → ¬ (a = nI u ∧ m = nI v)) : C1i l D ca ad yX6_copy wsX6_copy { frames := 1, cells := 0, slots := 0, locals := 40 } [.ref (ad 0), .int (nI k), .int a, .int (nI o), .int b, .int m] σ (fun r σ' => r = (-10) - nI 3 ∧ I1 n p g rn d th rd sl sn sc (nI 3) tr σ') := by
  refine xk_entry cX6_copy 8 (some .int) (by decide) rfl (Nat.le_of_ble_eq_true rfl) ?_
  intro pP eE sS mM below meth cC hx hb hml hr hts hown hlk hP hK hX hS ls hl
  have hl : lv_has ls 8 [(0, .ref (ad 0)), (1, .int (nI k)), (2, .int a), (3, .int (nI o)), (4, .int b), (5, .int m)] := hl
  obtain ⟨hT, hR, hRd, hSh, hnp, hft, htr⟩ := id hJ
  have hn5 := hT.2.2.1
  have hg9 := hT.2.2.2.1
  have hp6 := hR.2.1
  have hrn8 := hRd.2.1
  refine lv_aload_n hx hb dX6_copy_0 rfl (lv_at hl 0 rfl) ?_
  refine lv_iconst (v := nI 0) hx hb dX6_copy_1 (by decide) ?_
  refine xk_put hx hb hts (inX6_copy_X6) tyX6 tyX6_ok nmX6 hown hK hI hP hS 0 (by omega) (ci := 6) e1_well rfl 11 (by decide) (flX6_copy_59 hts) rfl rfl (by decide +kernel) (Nat.le_of_ble_eq_true rfl) e1_loc (by rw [e1_well]; simp [up]) dX6_copy_2 (fun H locs hP hS => ?_)
  obtain ⟨σ0, hσ0⟩ : ∃ τ, τ = up σ 0 11 (nI 0) := ⟨_, rfl⟩
  rw [← hσ0] at hP
  have hJ0 : I1 n p g rn d th rd sl sn sc (nI 0) tr σ0 := by rw [hσ0]; exact I1_ft hJ
  obtain ⟨hT, hR, hRd, hSh, -, hft, htr⟩ := id hJ0
  have hZ := hSh k hk4
  have hZo := hSh o ho4
  refine lv_aload_n hx hb dX6_copy_5 rfl (lv_at hl 0 rfl) ?_
  refine lv_iload_n hx hb dX6_copy_6 rfl (lv_at hl 1 rfl) ?_
  refine xk_fa (va_runV (As := [.int (nI k)]) (rest := []) ⟨hx, hb, hml, hown, hts⟩ (k1_sheetAt_in l hI (x := k)  (by omega)) (cwV 1 hts gX6_copy_X6_sheetAt rfl rfl rfl (by decide +kernel) ⟨Nat.le_of_ble_eq_true rfl, Nat.le_of_ble_eq_true rfl⟩) (xk_preV X1_ok hK hX hP (xk_recv hK hP 0 (by omega) (ci := 6) e1_well rfl)) rfl rfl hl.1 rfl (lv_room (Nat.le_of_ble_eq_true rfl)) dX6_copy_7 ⟨Nat.le_of_ble_eq_true rfl, Nat.le_of_ble_eq_true rfl⟩) hS (fun H locs hP hS => ?_)
  refine lv_astore (lv' := [(6, .ref (ad (1 + k))), (0, .ref (ad 0)), (1, .int (nI k)), (2, .int a), (3, .int (nI o)), (4, .int b), (5, .int m)]) hx hb dX6_copy_10 hl (by decide) rfl (fun ls hl => ?_)
  refine lv_aload_n hx hb dX6_copy_12 rfl (lv_at hl 1 rfl) ?_
  refine lv_iload_n hx hb dX6_copy_13 rfl (lv_at hl 4 rfl) ?_
  refine xk_fa (va_runV (As := [.int (nI o)]) (rest := []) ⟨hx, hb, hml, hown, hts⟩ (k1_sheetAt_in l hI (x := o)  (by omega)) (cwV 1 hts gX6_copy_X6_sheetAt rfl rfl rfl (by decide +kernel) ⟨Nat.le_of_ble_eq_true rfl, Nat.le_of_ble_eq_true rfl⟩) (xk_preV X1_ok hK hX hP (xk_recv hK hP 0 (by omega) (ci := 6) e1_well rfl)) rfl rfl hl.1 rfl (lv_room (Nat.le_of_ble_eq_true rfl)) dX6_copy_14 ⟨Nat.le_of_ble_eq_true rfl, Nat.le_of_ble_eq_true rfl⟩) hS (fun H locs hP hS => ?_)
  refine lv_astore (lv' := [(7, .ref (ad (1 + o))), (6, .ref (ad (1 + k))), (0, .ref (ad 0)), (1, .int (nI k)), (2, .int a), (3, .int (nI o)), (4, .int b), (5, .int m)]) hx hb dX6_copy_17 hl (by decide) rfl (fun ls hl => ?_)
  refine lv_aload hx hb dX6_copy_19 (lv_at hl 1 rfl) ?_
  refine lv_ifnull hx hb dX6_copy_21 ?_
  refine lv_aload hx hb dX6_copy_24 (lv_at hl 0 rfl) ?_
  refine lv_ifnonnull (tgt := 31) hx hb dX6_copy_26 (by decide) ?_
  refine lv_aload hx hb dX6_copy_31 (lv_at hl 1 rfl) ?_
  refine xk_fi (va_runV (As := []) (rest := []) ⟨hx, hb, hml, hown, hts⟩ (k1_hasRow_t l hI (by omega) (by omega) hZ hL) (cwV 0 hts gX6_copy_X2_hasRow rfl rfl rfl (by decide +kernel) ⟨Nat.le_of_ble_eq_true rfl, Nat.le_of_ble_eq_true rfl⟩) (xk_preV X1_ok hK hX hP (xk_recv hK hP (1 + k) (by omega) (ci := 2) (e1_sheet (by omega) (by omega)) rfl)) rfl rfl hl.1 rfl (lv_room (Nat.le_of_ble_eq_true rfl)) dX6_copy_33 ⟨Nat.le_of_ble_eq_true rfl, Nat.le_of_ble_eq_true rfl⟩) hS (fun H locs hP hS => ?_)
  refine xn_zeq (tgt := 47) hx hb dX6_copy_36 (by decide) (by omega) (fun c_36 => absurd c_36 (by omega)) (fun c_36 => ?_)
  refine lv_aload hx hb dX6_copy_39 (lv_at hl 0 rfl) ?_
  refine xk_fi (va_runV (As := []) (rest := []) ⟨hx, hb, hml, hown, hts⟩ (k1_hasRow_t l hI (by omega) (by omega) hZo hM) (cwV 0 hts gX6_copy_X2_hasRow rfl rfl rfl (by decide +kernel) ⟨Nat.le_of_ble_eq_true rfl, Nat.le_of_ble_eq_true rfl⟩) (xk_preV X1_ok hK hX hP (xk_recv hK hP (1 + o) (by omega) (ci := 2) (e1_sheet (by omega) (by omega)) rfl)) rfl rfl hl.1 rfl (lv_room (Nat.le_of_ble_eq_true rfl)) dX6_copy_41 ⟨Nat.le_of_ble_eq_true rfl, Nat.le_of_ble_eq_true rfl⟩) hS (fun H locs hP hS => ?_)
  refine xn_zne (tgt := 53) hx hb dX6_copy_44 (by decide) (by omega) (fun c_44 => ?_) (fun c_44 => absurd c_44 (by omega))
  refine lv_aload hx hb dX6_copy_53 (lv_at hl 1 rfl) ?_
  refine xk_get hx hb hts (inX6_copy_X2) hown hK hP (1 + k) (by omega) (ci := 2) (e1_sheet (by omega) (by omega)) rfl 1 (by decide) (flX6_copy_229 hts) rfl (.int (σ0 (1 + k) 1)) rfl dX6_copy_55 ?_
  refine xn_eqi (y := nI (sl k)) (hZ.1.trans (lz_lt hL)) ?_
  refine lv_aload hx hb dX6_copy_58 (lv_at hl 0 rfl) ?_
  refine xk_get hx hb hts (inX6_copy_X2) hown hK hP (1 + o) (by omega) (ci := 2) (e1_sheet (by omega) (by omega)) rfl 1 (by decide) (flX6_copy_229 hts) rfl (.int (σ0 (1 + o) 1)) rfl dX6_copy_60 ?_
  refine xn_eqi (y := nI (sl o)) (hZo.1.trans (lz_lt hM)) ?_
  refine xn_ieq (tgt := 72) hx hb dX6_copy_63 (by decide) (by omega) (by omega) (fun c_63 => ?_) (fun c_63 => absurd c_63 (by omega))
  refine lv_aload hx hb dX6_copy_72 (lv_at hl 1 rfl) ?_
  refine lv_iload_n hx hb dX6_copy_74 rfl (lv_at hl 4 rfl) ?_
  refine lv_iload hx hb dX6_copy_75 (lv_at hl 7 rfl) ?_
  refine xk_fi (va_runV (As := [.int a, .int m]) (rest := []) ⟨hx, hb, hml, hown, hts⟩ (k1_hasCells_out l hI (by omega) (by omega) hZ hL hxy) (cwV 2 hts gX6_copy_X2_hasCells rfl rfl rfl (by decide +kernel) ⟨Nat.le_of_ble_eq_true rfl, Nat.le_of_ble_eq_true rfl⟩) (xk_preV X1_ok hK hX hP (xk_recv hK hP (1 + k) (by omega) (ci := 2) (e1_sheet (by omega) (by omega)) rfl)) rfl rfl hl.1 rfl (lv_room (Nat.le_of_ble_eq_true rfl)) dX6_copy_77 ⟨Nat.le_of_ble_eq_true rfl, Nat.le_of_ble_eq_true rfl⟩) hS (fun H locs hP hS => ?_)
  refine xn_zeq (tgt := 95) hx hb dX6_copy_80 (by decide) (by omega) (fun c_80 => ?_) (fun c_80 => absurd c_80 (by omega))
  refine lv_aload_n hx hb dX6_copy_95 rfl (lv_at hl 2 rfl) ?_
  refine lv_iconst (v := nI 3) hx hb dX6_copy_96 (by decide) ?_
  refine xk_fi (va_runV (As := [.int (nI 3)]) (rest := []) ⟨hx, hb, hml, hown, hts⟩ (k1_faulted l hI 3) (cwV 1 hts gX6_copy_X6_faulted rfl rfl rfl (by decide +kernel) ⟨Nat.le_of_ble_eq_true rfl, Nat.le_of_ble_eq_true rfl⟩) (xk_preV X1_ok hK hX hP (xk_recv hK hP 0 (by omega) (ci := 6) e1_well rfl)) rfl rfl hl.1 rfl (lv_room (Nat.le_of_ble_eq_true rfl)) dX6_copy_97 ⟨Nat.le_of_ble_eq_true rfl, Nat.le_of_ble_eq_true rfl⟩) hS (fun H locs hP hS => ?_)
  exact xk_iret hx hb hr (vp_nar_int _) X1_ok hK hX hP hS hlk dX6_copy_100 (⟨rfl, I1_ft hJ0⟩)

set_option maxHeartbeats 4000000 in
set_option maxRecDepth 100000 in
theorem a1_copy_i2 (l : Launch) {D : va_G} {ca : Nat → ClassId} {ad : Nat → Nat} (hI : Ij ad 34) {σ : Sg} {n p g rn : Nat} {d : Nat → Nat} {th rd : Nat → Nat → Nat} {sl sn : Nat → Nat} {sc : Nat → Nat → Int32} {ft tr : Int32} {k : Nat} {o : Nat} {a m : Nat} {b : Int32} (hJ : I1 n p g rn d th rd sl sn sc ft tr σ) (hk4 : k < 4) (ho4 : o < 4) (hL : sl k < 3) (hM : sl o < 3) (heq : sl k = sl o) (ham : a + m ≤ sn k) (hxy : ∀ u v, u + v ≤ sn o → ¬ (b = nI u ∧ nI m = nI v)) : C1i l D ca ad yX6_copy wsX6_copy { frames := 1, cells := 0, slots := 0, locals := 40 } [.ref (ad 0), .int (nI k), .int (nI a), .int (nI o), .int b, .int (nI m)] σ (fun r σ' => r = (-10) - nI 3 ∧ I1 n p g rn d th rd sl sn sc (nI 3) tr σ') := by
  refine xk_entry cX6_copy 8 (some .int) (by decide) rfl (Nat.le_of_ble_eq_true rfl) ?_
  intro pP eE sS mM below meth cC hx hb hml hr hts hown hlk hP hK hX hS ls hl
  have hl : lv_has ls 8 [(0, .ref (ad 0)), (1, .int (nI k)), (2, .int (nI a)), (3, .int (nI o)), (4, .int b), (5, .int (nI m))] := hl
  obtain ⟨hT, hR, hRd, hSh, hnp, hft, htr⟩ := id hJ
  have hn5 := hT.2.2.1
  have hg9 := hT.2.2.2.1
  have hp6 := hR.2.1
  have hrn8 := hRd.2.1
  refine lv_aload_n hx hb dX6_copy_0 rfl (lv_at hl 0 rfl) ?_
  refine lv_iconst (v := nI 0) hx hb dX6_copy_1 (by decide) ?_
  refine xk_put hx hb hts (inX6_copy_X6) tyX6 tyX6_ok nmX6 hown hK hI hP hS 0 (by omega) (ci := 6) e1_well rfl 11 (by decide) (flX6_copy_59 hts) rfl rfl (by decide +kernel) (Nat.le_of_ble_eq_true rfl) e1_loc (by rw [e1_well]; simp [up]) dX6_copy_2 (fun H locs hP hS => ?_)
  obtain ⟨σ0, hσ0⟩ : ∃ τ, τ = up σ 0 11 (nI 0) := ⟨_, rfl⟩
  rw [← hσ0] at hP
  have hJ0 : I1 n p g rn d th rd sl sn sc (nI 0) tr σ0 := by rw [hσ0]; exact I1_ft hJ
  obtain ⟨hT, hR, hRd, hSh, -, hft, htr⟩ := id hJ0
  have hZ := hSh k hk4
  have hZo := hSh o ho4
  refine lv_aload_n hx hb dX6_copy_5 rfl (lv_at hl 0 rfl) ?_
  refine lv_iload_n hx hb dX6_copy_6 rfl (lv_at hl 1 rfl) ?_
  refine xk_fa (va_runV (As := [.int (nI k)]) (rest := []) ⟨hx, hb, hml, hown, hts⟩ (k1_sheetAt_in l hI (x := k)  (by omega)) (cwV 1 hts gX6_copy_X6_sheetAt rfl rfl rfl (by decide +kernel) ⟨Nat.le_of_ble_eq_true rfl, Nat.le_of_ble_eq_true rfl⟩) (xk_preV X1_ok hK hX hP (xk_recv hK hP 0 (by omega) (ci := 6) e1_well rfl)) rfl rfl hl.1 rfl (lv_room (Nat.le_of_ble_eq_true rfl)) dX6_copy_7 ⟨Nat.le_of_ble_eq_true rfl, Nat.le_of_ble_eq_true rfl⟩) hS (fun H locs hP hS => ?_)
  refine lv_astore (lv' := [(6, .ref (ad (1 + k))), (0, .ref (ad 0)), (1, .int (nI k)), (2, .int (nI a)), (3, .int (nI o)), (4, .int b), (5, .int (nI m))]) hx hb dX6_copy_10 hl (by decide) rfl (fun ls hl => ?_)
  refine lv_aload_n hx hb dX6_copy_12 rfl (lv_at hl 1 rfl) ?_
  refine lv_iload_n hx hb dX6_copy_13 rfl (lv_at hl 4 rfl) ?_
  refine xk_fa (va_runV (As := [.int (nI o)]) (rest := []) ⟨hx, hb, hml, hown, hts⟩ (k1_sheetAt_in l hI (x := o)  (by omega)) (cwV 1 hts gX6_copy_X6_sheetAt rfl rfl rfl (by decide +kernel) ⟨Nat.le_of_ble_eq_true rfl, Nat.le_of_ble_eq_true rfl⟩) (xk_preV X1_ok hK hX hP (xk_recv hK hP 0 (by omega) (ci := 6) e1_well rfl)) rfl rfl hl.1 rfl (lv_room (Nat.le_of_ble_eq_true rfl)) dX6_copy_14 ⟨Nat.le_of_ble_eq_true rfl, Nat.le_of_ble_eq_true rfl⟩) hS (fun H locs hP hS => ?_)
  refine lv_astore (lv' := [(7, .ref (ad (1 + o))), (6, .ref (ad (1 + k))), (0, .ref (ad 0)), (1, .int (nI k)), (2, .int (nI a)), (3, .int (nI o)), (4, .int b), (5, .int (nI m))]) hx hb dX6_copy_17 hl (by decide) rfl (fun ls hl => ?_)
  refine lv_aload hx hb dX6_copy_19 (lv_at hl 1 rfl) ?_
  refine lv_ifnull hx hb dX6_copy_21 ?_
  refine lv_aload hx hb dX6_copy_24 (lv_at hl 0 rfl) ?_
  refine lv_ifnonnull (tgt := 31) hx hb dX6_copy_26 (by decide) ?_
  refine lv_aload hx hb dX6_copy_31 (lv_at hl 1 rfl) ?_
  refine xk_fi (va_runV (As := []) (rest := []) ⟨hx, hb, hml, hown, hts⟩ (k1_hasRow_t l hI (by omega) (by omega) hZ hL) (cwV 0 hts gX6_copy_X2_hasRow rfl rfl rfl (by decide +kernel) ⟨Nat.le_of_ble_eq_true rfl, Nat.le_of_ble_eq_true rfl⟩) (xk_preV X1_ok hK hX hP (xk_recv hK hP (1 + k) (by omega) (ci := 2) (e1_sheet (by omega) (by omega)) rfl)) rfl rfl hl.1 rfl (lv_room (Nat.le_of_ble_eq_true rfl)) dX6_copy_33 ⟨Nat.le_of_ble_eq_true rfl, Nat.le_of_ble_eq_true rfl⟩) hS (fun H locs hP hS => ?_)
  refine xn_zeq (tgt := 47) hx hb dX6_copy_36 (by decide) (by omega) (fun c_36 => absurd c_36 (by omega)) (fun c_36 => ?_)
  refine lv_aload hx hb dX6_copy_39 (lv_at hl 0 rfl) ?_
  refine xk_fi (va_runV (As := []) (rest := []) ⟨hx, hb, hml, hown, hts⟩ (k1_hasRow_t l hI (by omega) (by omega) hZo hM) (cwV 0 hts gX6_copy_X2_hasRow rfl rfl rfl (by decide +kernel) ⟨Nat.le_of_ble_eq_true rfl, Nat.le_of_ble_eq_true rfl⟩) (xk_preV X1_ok hK hX hP (xk_recv hK hP (1 + o) (by omega) (ci := 2) (e1_sheet (by omega) (by omega)) rfl)) rfl rfl hl.1 rfl (lv_room (Nat.le_of_ble_eq_true rfl)) dX6_copy_41 ⟨Nat.le_of_ble_eq_true rfl, Nat.le_of_ble_eq_true rfl⟩) hS (fun H locs hP hS => ?_)
  refine xn_zne (tgt := 53) hx hb dX6_copy_44 (by decide) (by omega) (fun c_44 => ?_) (fun c_44 => absurd c_44 (by omega))
  refine lv_aload hx hb dX6_copy_53 (lv_at hl 1 rfl) ?_
  refine xk_get hx hb hts (inX6_copy_X2) hown hK hP (1 + k) (by omega) (ci := 2) (e1_sheet (by omega) (by omega)) rfl 1 (by decide) (flX6_copy_229 hts) rfl (.int (σ0 (1 + k) 1)) rfl dX6_copy_55 ?_
  refine xn_eqi (y := nI (sl k)) (hZ.1.trans (lz_lt hL)) ?_
  refine lv_aload hx hb dX6_copy_58 (lv_at hl 0 rfl) ?_
  refine xk_get hx hb hts (inX6_copy_X2) hown hK hP (1 + o) (by omega) (ci := 2) (e1_sheet (by omega) (by omega)) rfl 1 (by decide) (flX6_copy_229 hts) rfl (.int (σ0 (1 + o) 1)) rfl dX6_copy_60 ?_
  refine xn_eqi (y := nI (sl o)) (hZo.1.trans (lz_lt hM)) ?_
  refine xn_ieq (tgt := 72) hx hb dX6_copy_63 (by decide) (by omega) (by omega) (fun c_63 => ?_) (fun c_63 => absurd c_63 (by omega))
  refine lv_aload hx hb dX6_copy_72 (lv_at hl 1 rfl) ?_
  refine lv_iload_n hx hb dX6_copy_74 rfl (lv_at hl 4 rfl) ?_
  refine lv_iload hx hb dX6_copy_75 (lv_at hl 7 rfl) ?_
  refine xk_fi (va_runV (As := [.int (nI a), .int (nI m)]) (rest := []) ⟨hx, hb, hml, hown, hts⟩ (k1_hasCells_in l hI (by omega) (by omega) hZ hL ham) (cwV 2 hts gX6_copy_X2_hasCells rfl rfl rfl (by decide +kernel) ⟨Nat.le_of_ble_eq_true rfl, Nat.le_of_ble_eq_true rfl⟩) (xk_preV X1_ok hK hX hP (xk_recv hK hP (1 + k) (by omega) (ci := 2) (e1_sheet (by omega) (by omega)) rfl)) rfl rfl hl.1 rfl (lv_room (Nat.le_of_ble_eq_true rfl)) dX6_copy_77 ⟨Nat.le_of_ble_eq_true rfl, Nat.le_of_ble_eq_true rfl⟩) hS (fun H locs hP hS => ?_)
  refine xn_zeq (tgt := 95) hx hb dX6_copy_80 (by decide) (by omega) (fun c_80 => absurd c_80 (by omega)) (fun c_80 => ?_)
  refine lv_aload hx hb dX6_copy_83 (lv_at hl 0 rfl) ?_
  refine lv_iload hx hb dX6_copy_85 (lv_at hl 6 rfl) ?_
  refine lv_iload hx hb dX6_copy_87 (lv_at hl 7 rfl) ?_
  refine xk_fi (va_runV (As := [.int b, .int (nI m)]) (rest := []) ⟨hx, hb, hml, hown, hts⟩ (k1_hasCells_out l hI (by omega) (by omega) hZo hM hxy) (cwV 2 hts gX6_copy_X2_hasCells rfl rfl rfl (by decide +kernel) ⟨Nat.le_of_ble_eq_true rfl, Nat.le_of_ble_eq_true rfl⟩) (xk_preV X1_ok hK hX hP (xk_recv hK hP (1 + o) (by omega) (ci := 2) (e1_sheet (by omega) (by omega)) rfl)) rfl rfl hl.1 rfl (lv_room (Nat.le_of_ble_eq_true rfl)) dX6_copy_89 ⟨Nat.le_of_ble_eq_true rfl, Nat.le_of_ble_eq_true rfl⟩) hS (fun H locs hP hS => ?_)
  refine xn_zne (tgt := 101) hx hb dX6_copy_92 (by decide) (by omega) (fun c_92 => absurd c_92 (by omega)) (fun c_92 => ?_)
  refine lv_aload_n hx hb dX6_copy_95 rfl (lv_at hl 2 rfl) ?_
  refine lv_iconst (v := nI 3) hx hb dX6_copy_96 (by decide) ?_
  refine xk_fi (va_runV (As := [.int (nI 3)]) (rest := []) ⟨hx, hb, hml, hown, hts⟩ (k1_faulted l hI 3) (cwV 1 hts gX6_copy_X6_faulted rfl rfl rfl (by decide +kernel) ⟨Nat.le_of_ble_eq_true rfl, Nat.le_of_ble_eq_true rfl⟩) (xk_preV X1_ok hK hX hP (xk_recv hK hP 0 (by omega) (ci := 6) e1_well rfl)) rfl rfl hl.1 rfl (lv_room (Nat.le_of_ble_eq_true rfl)) dX6_copy_97 ⟨Nat.le_of_ble_eq_true rfl, Nat.le_of_ble_eq_true rfl⟩) hS (fun H locs hP hS => ?_)
  exact xk_iret hx hb hr (vp_nar_int _) X1_ok hK hX hP hS hlk dX6_copy_100 (⟨rfl, I1_ft hJ0⟩)

set_option maxRecDepth 20000 in
theorem flX6_copy_235 {s : State} {av : Array Value} (hts : ∀ w ∈ wsX6_copy, w.before av s = true) : (Cond.fieldLink RX6 235 "WellBack$Sheet" "cells" "[I").before av s = true := hts _ (by decide +kernel)
set_option maxHeartbeats 4000000 in
set_option maxRecDepth 100000 in
theorem a1_copy_ok (l : Launch) {D : va_G} {ca : Nat → ClassId} {ad : Nat → Nat} (hI : Ij ad 34) {σ : Sg} {n p g rn : Nat} {d : Nat → Nat} {th rd : Nat → Nat → Nat} {sl sn : Nat → Nat} {sc : Nat → Nat → Int32} {ft tr : Int32} {k : Nat} {o : Nat} {a m b : Nat} (hJ : I1 n p g rn d th rd sl sn sc ft tr σ) (hk4 : k < 4) (ho4 : o < 4) (hL : sl k < 3) (hM : sl o < 3) (heq : sl k = sl o) (ham : a + m ≤ sn k) (hbm : b + m ≤ sn o) : C1i l D ca ad yX6_copy wsX6_copy { frames := 1, cells := 0, slots := 0, locals := 40 } [.ref (ad 0), .int (nI k), .int (nI a), .int (nI o), .int (nI b), .int (nI m)] σ (fun r σ' => r = nI m ∧ I1 n p g rn d th rd sl sn (us sc o (va_cpy (sc k) (sc o) a b m)) (nI 0) tr σ') := by
  refine xk_entry cX6_copy 8 (some .int) (by decide) rfl (Nat.le_of_ble_eq_true rfl) ?_
  intro pP eE sS mM below meth cC hx hb hml hr hts hown hlk hP hK hX hS ls hl
  have hl : lv_has ls 8 [(0, .ref (ad 0)), (1, .int (nI k)), (2, .int (nI a)), (3, .int (nI o)), (4, .int (nI b)), (5, .int (nI m))] := hl
  obtain ⟨hT, hR, hRd, hSh, hnp, hft, htr⟩ := id hJ
  have hn5 := hT.2.2.1
  have hg9 := hT.2.2.2.1
  have hp6 := hR.2.1
  have hrn8 := hRd.2.1
  refine lv_aload_n hx hb dX6_copy_0 rfl (lv_at hl 0 rfl) ?_
  refine lv_iconst (v := nI 0) hx hb dX6_copy_1 (by decide) ?_
  refine xk_put hx hb hts (inX6_copy_X6) tyX6 tyX6_ok nmX6 hown hK hI hP hS 0 (by omega) (ci := 6) e1_well rfl 11 (by decide) (flX6_copy_59 hts) rfl rfl (by decide +kernel) (Nat.le_of_ble_eq_true rfl) e1_loc (by rw [e1_well]; simp [up]) dX6_copy_2 (fun H locs hP hS => ?_)
  obtain ⟨σ0, hσ0⟩ : ∃ τ, τ = up σ 0 11 (nI 0) := ⟨_, rfl⟩
  rw [← hσ0] at hP
  have hJ0 : I1 n p g rn d th rd sl sn sc (nI 0) tr σ0 := by rw [hσ0]; exact I1_ft hJ
  obtain ⟨hT, hR, hRd, hSh, -, hft, htr⟩ := id hJ0
  have hZ := hSh k hk4
  have hZo := hSh o ho4
  refine lv_aload_n hx hb dX6_copy_5 rfl (lv_at hl 0 rfl) ?_
  refine lv_iload_n hx hb dX6_copy_6 rfl (lv_at hl 1 rfl) ?_
  refine xk_fa (va_runV (As := [.int (nI k)]) (rest := []) ⟨hx, hb, hml, hown, hts⟩ (k1_sheetAt_in l hI (x := k)  (by omega)) (cwV 1 hts gX6_copy_X6_sheetAt rfl rfl rfl (by decide +kernel) ⟨Nat.le_of_ble_eq_true rfl, Nat.le_of_ble_eq_true rfl⟩) (xk_preV X1_ok hK hX hP (xk_recv hK hP 0 (by omega) (ci := 6) e1_well rfl)) rfl rfl hl.1 rfl (lv_room (Nat.le_of_ble_eq_true rfl)) dX6_copy_7 ⟨Nat.le_of_ble_eq_true rfl, Nat.le_of_ble_eq_true rfl⟩) hS (fun H locs hP hS => ?_)
  refine lv_astore (lv' := [(6, .ref (ad (1 + k))), (0, .ref (ad 0)), (1, .int (nI k)), (2, .int (nI a)), (3, .int (nI o)), (4, .int (nI b)), (5, .int (nI m))]) hx hb dX6_copy_10 hl (by decide) rfl (fun ls hl => ?_)
  refine lv_aload_n hx hb dX6_copy_12 rfl (lv_at hl 1 rfl) ?_
  refine lv_iload_n hx hb dX6_copy_13 rfl (lv_at hl 4 rfl) ?_
  refine xk_fa (va_runV (As := [.int (nI o)]) (rest := []) ⟨hx, hb, hml, hown, hts⟩ (k1_sheetAt_in l hI (x := o)  (by omega)) (cwV 1 hts gX6_copy_X6_sheetAt rfl rfl rfl (by decide +kernel) ⟨Nat.le_of_ble_eq_true rfl, Nat.le_of_ble_eq_true rfl⟩) (xk_preV X1_ok hK hX hP (xk_recv hK hP 0 (by omega) (ci := 6) e1_well rfl)) rfl rfl hl.1 rfl (lv_room (Nat.le_of_ble_eq_true rfl)) dX6_copy_14 ⟨Nat.le_of_ble_eq_true rfl, Nat.le_of_ble_eq_true rfl⟩) hS (fun H locs hP hS => ?_)
  refine lv_astore (lv' := [(7, .ref (ad (1 + o))), (6, .ref (ad (1 + k))), (0, .ref (ad 0)), (1, .int (nI k)), (2, .int (nI a)), (3, .int (nI o)), (4, .int (nI b)), (5, .int (nI m))]) hx hb dX6_copy_17 hl (by decide) rfl (fun ls hl => ?_)
  refine lv_aload hx hb dX6_copy_19 (lv_at hl 1 rfl) ?_
  refine lv_ifnull hx hb dX6_copy_21 ?_
  refine lv_aload hx hb dX6_copy_24 (lv_at hl 0 rfl) ?_
  refine lv_ifnonnull (tgt := 31) hx hb dX6_copy_26 (by decide) ?_
  refine lv_aload hx hb dX6_copy_31 (lv_at hl 1 rfl) ?_
  refine xk_fi (va_runV (As := []) (rest := []) ⟨hx, hb, hml, hown, hts⟩ (k1_hasRow_t l hI (by omega) (by omega) hZ hL) (cwV 0 hts gX6_copy_X2_hasRow rfl rfl rfl (by decide +kernel) ⟨Nat.le_of_ble_eq_true rfl, Nat.le_of_ble_eq_true rfl⟩) (xk_preV X1_ok hK hX hP (xk_recv hK hP (1 + k) (by omega) (ci := 2) (e1_sheet (by omega) (by omega)) rfl)) rfl rfl hl.1 rfl (lv_room (Nat.le_of_ble_eq_true rfl)) dX6_copy_33 ⟨Nat.le_of_ble_eq_true rfl, Nat.le_of_ble_eq_true rfl⟩) hS (fun H locs hP hS => ?_)
  refine xn_zeq (tgt := 47) hx hb dX6_copy_36 (by decide) (by omega) (fun c_36 => absurd c_36 (by omega)) (fun c_36 => ?_)
  refine lv_aload hx hb dX6_copy_39 (lv_at hl 0 rfl) ?_
  refine xk_fi (va_runV (As := []) (rest := []) ⟨hx, hb, hml, hown, hts⟩ (k1_hasRow_t l hI (by omega) (by omega) hZo hM) (cwV 0 hts gX6_copy_X2_hasRow rfl rfl rfl (by decide +kernel) ⟨Nat.le_of_ble_eq_true rfl, Nat.le_of_ble_eq_true rfl⟩) (xk_preV X1_ok hK hX hP (xk_recv hK hP (1 + o) (by omega) (ci := 2) (e1_sheet (by omega) (by omega)) rfl)) rfl rfl hl.1 rfl (lv_room (Nat.le_of_ble_eq_true rfl)) dX6_copy_41 ⟨Nat.le_of_ble_eq_true rfl, Nat.le_of_ble_eq_true rfl⟩) hS (fun H locs hP hS => ?_)
  refine xn_zne (tgt := 53) hx hb dX6_copy_44 (by decide) (by omega) (fun c_44 => ?_) (fun c_44 => absurd c_44 (by omega))
  refine lv_aload hx hb dX6_copy_53 (lv_at hl 1 rfl) ?_
  refine xk_get hx hb hts (inX6_copy_X2) hown hK hP (1 + k) (by omega) (ci := 2) (e1_sheet (by omega) (by omega)) rfl 1 (by decide) (flX6_copy_229 hts) rfl (.int (σ0 (1 + k) 1)) rfl dX6_copy_55 ?_
  refine xn_eqi (y := nI (sl k)) (hZ.1.trans (lz_lt hL)) ?_
  refine lv_aload hx hb dX6_copy_58 (lv_at hl 0 rfl) ?_
  refine xk_get hx hb hts (inX6_copy_X2) hown hK hP (1 + o) (by omega) (ci := 2) (e1_sheet (by omega) (by omega)) rfl 1 (by decide) (flX6_copy_229 hts) rfl (.int (σ0 (1 + o) 1)) rfl dX6_copy_60 ?_
  refine xn_eqi (y := nI (sl o)) (hZo.1.trans (lz_lt hM)) ?_
  refine xn_ieq (tgt := 72) hx hb dX6_copy_63 (by decide) (by omega) (by omega) (fun c_63 => ?_) (fun c_63 => absurd c_63 (by omega))
  refine lv_aload hx hb dX6_copy_72 (lv_at hl 1 rfl) ?_
  refine lv_iload_n hx hb dX6_copy_74 rfl (lv_at hl 4 rfl) ?_
  refine lv_iload hx hb dX6_copy_75 (lv_at hl 7 rfl) ?_
  refine xk_fi (va_runV (As := [.int (nI a), .int (nI m)]) (rest := []) ⟨hx, hb, hml, hown, hts⟩ (k1_hasCells_in l hI (by omega) (by omega) hZ hL ham) (cwV 2 hts gX6_copy_X2_hasCells rfl rfl rfl (by decide +kernel) ⟨Nat.le_of_ble_eq_true rfl, Nat.le_of_ble_eq_true rfl⟩) (xk_preV X1_ok hK hX hP (xk_recv hK hP (1 + k) (by omega) (ci := 2) (e1_sheet (by omega) (by omega)) rfl)) rfl rfl hl.1 rfl (lv_room (Nat.le_of_ble_eq_true rfl)) dX6_copy_77 ⟨Nat.le_of_ble_eq_true rfl, Nat.le_of_ble_eq_true rfl⟩) hS (fun H locs hP hS => ?_)
  refine xn_zeq (tgt := 95) hx hb dX6_copy_80 (by decide) (by omega) (fun c_80 => absurd c_80 (by omega)) (fun c_80 => ?_)
  refine lv_aload hx hb dX6_copy_83 (lv_at hl 0 rfl) ?_
  refine lv_iload hx hb dX6_copy_85 (lv_at hl 6 rfl) ?_
  refine lv_iload hx hb dX6_copy_87 (lv_at hl 7 rfl) ?_
  refine xk_fi (va_runV (As := [.int (nI b), .int (nI m)]) (rest := []) ⟨hx, hb, hml, hown, hts⟩ (k1_hasCells_in l hI (by omega) (by omega) hZo hM hbm) (cwV 2 hts gX6_copy_X2_hasCells rfl rfl rfl (by decide +kernel) ⟨Nat.le_of_ble_eq_true rfl, Nat.le_of_ble_eq_true rfl⟩) (xk_preV X1_ok hK hX hP (xk_recv hK hP (1 + o) (by omega) (ci := 2) (e1_sheet (by omega) (by omega)) rfl)) rfl rfl hl.1 rfl (lv_room (Nat.le_of_ble_eq_true rfl)) dX6_copy_89 ⟨Nat.le_of_ble_eq_true rfl, Nat.le_of_ble_eq_true rfl⟩) hS (fun H locs hP hS => ?_)
  refine xn_zne (tgt := 101) hx hb dX6_copy_92 (by decide) (by omega) (fun c_92 => ?_) (fun c_92 => absurd c_92 (by omega))
  refine lv_aload hx hb dX6_copy_101 (lv_at hl 1 rfl) ?_
  refine xk_get hx hb hts (inX6_copy_X2) hown hK hP (1 + k) (by omega) (ci := 2) (e1_sheet (by omega) (by omega)) rfl 0 (by decide) (flX6_copy_235 hts) rfl (.ref (ad (1 + k + 4))) rfl dX6_copy_103 ?_
  refine lv_iload_n hx hb dX6_copy_106 rfl (lv_at hl 4 rfl) ?_
  refine lv_aload hx hb dX6_copy_107 (lv_at hl 0 rfl) ?_
  refine xk_get hx hb hts (inX6_copy_X2) hown hK hP (1 + o) (by omega) (ci := 2) (e1_sheet (by omega) (by omega)) rfl 0 (by decide) (flX6_copy_235 hts) rfl (.ref (ad (1 + o + 4))) rfl dX6_copy_109 ?_
  refine lv_iload hx hb dX6_copy_112 (lv_at hl 6 rfl) ?_
  refine lv_iload hx hb dX6_copy_114 (lv_at hl 7 rfl) ?_
  have hk60 := (hZ.2.2 hL).2.1
  have ho60 := (hZo.2.2 hM).2.1
  refine xk_copy hx hb (hml.trans hl.1.symm) (own := RX6) hown (hts (.methodLink RX6 239 arraycopyName) (by decide +kernel)) (hts (.native arraycopyName) (by decide +kernel)) (hts (.static arraycopyName) (by decide +kernel)) (hts (.initialized "java/lang/System") (by decide +kernel)) hK hI hP hS (1 + k + 4) (1 + o + 4) (by omega) (by omega) (n0 := 60) (n1 := 60) (e1_cells (by omega) (by omega)) (fun τ => e1_cells (by omega) (by omega)) rfl rfl e1_loc (by omega) (by omega) (by decide) (by decide) (Nat.le_of_ble_eq_true rfl) (Nat.le_of_ble_eq_true rfl) dX6_copy_116 (fun H locs hP hS => ?_)
  refine lv_iload hx hb dX6_copy_119 (lv_at hl 7 rfl) ?_
  exact xk_iret hx hb hr (vp_nar_int _) X1_ok hK hX hP hS hlk dX6_copy_121 (⟨rfl, by have h := I1_sh (τ := upr σ0 (1 + o + 4) (va_cpy (σ0 (1 + k + 4)) (σ0 (1 + o + 4)) a b m)) (L := sl o) (m := sn o) (cc := va_cpy (sc k) (sc o) a b m) hJ0 ho4 (fun i a b => upr_n b) ⟨by rw [upr_n (by omega)]; exact hZo.1, hZo.2.1, fun q => ⟨by rw [upr_n (by omega)]; exact (hZo.2.2 q).1, (hZo.2.2 q).2.1, fun i hi => by rw [upr_s]; exact cpy_ok ham (hZ.2.2 hL).2.2 (hZo.2.2 q).2.2 i hi⟩⟩; rw [us_id, us_id] at h; exact h⟩)

theorem tf_lt {c : Nat → Int32} {n : Nat} : ∀ f x s v, s ≤ 8 + 6 * x → x + f ≤ 5 → tf c n f x s = .inl v → v < 100 := by
  intro f
  induction f with
  | zero =>
    intro x s v h1 h2 h
    simp only [tf] at h
    split at h
    · cases h
    · cases h; omega
  | succ f ih =>
    intro x s v h1 h2 h
    simp only [tf] at h
    split at h
    · cases h
    · split at h
      · exact ih (x + 1) (s + 6) v (by omega) (by omega) h
      · cases h
        have := (f6_all c s 6 0).2.1
        omega
theorem parse_lt {c : Nat → Int32} {m f : Nat} (h : parse c m = .inl f) (_ : m ≤ 60) : f < 2 ^ 31 := by
  have hp := (pls_le c 6 0).2.1
  unfold parse at h
  split at h
  · split at h
    · split at h
      · cases h; omega
      · have := tf_lt 5 0 _ f (by omega) (by omega) h
        omega
    · cases h; omega
  · cases h; omega

set_option maxRecDepth 20000 in
theorem flX6_well_59 {s : State} {av : Array Value} (hts : ∀ w ∈ wsX6_well, w.before av s = true) : (Cond.fieldLink RX6 59 "WellBack" "latestFault" "I").before av s = true := hts _ (by decide +kernel)
set_option maxRecDepth 20000 in
theorem inX6_well_X6 : ∀ w ∈ u_ws RX6 TX6 13, w ∈ wsX6_well := by decide +kernel
set_option maxHeartbeats 4000000 in
set_option maxRecDepth 100000 in
theorem a1_well_so (l : Launch) {D : va_G} {ca : Nat → ClassId} {ad : Nat → Nat} (hI : Ij ad 34) {σ : Sg} {n p g rn : Nat} {d : Nat → Nat} {th rd : Nat → Nat → Nat} {sl sn : Nat → Nat} {sc : Nat → Nat → Int32} {ft tr : Int32} {k : Int32} {w a m : Int32} (hJ : I1 n p g rn d th rd sl sn sc ft tr σ) (hko : ∀ j, j < 4 → k ≠ nI j) : C1i l D ca ad yX6_well wsX6_well { frames := 5, cells := 0, slots := 0, locals := 111 } [.ref (ad 0), .int k, .int w, .int a, .int m] σ (fun r σ' => r = -1 ∧ I1 n p g rn d th rd sl sn sc (nI 0) tr σ') := by
  refine xk_entry cX6_well 8 (some .int) (by decide) rfl (Nat.le_of_ble_eq_true rfl) ?_
  intro pP eE sS mM below meth cC hx hb hml hr hts hown hlk hP hK hX hS ls hl
  have hl : lv_has ls 8 [(0, .ref (ad 0)), (1, .int k), (2, .int w), (3, .int a), (4, .int m)] := hl
  obtain ⟨hT, hR, hRd, hSh, hnp, hft, htr⟩ := id hJ
  have hn5 := hT.2.2.1
  have hg9 := hT.2.2.2.1
  have hp6 := hR.2.1
  have hrn8 := hRd.2.1
  refine lv_aload_n hx hb dX6_well_0 rfl (lv_at hl 0 rfl) ?_
  refine lv_iconst (v := nI 0) hx hb dX6_well_1 (by decide) ?_
  refine xk_put hx hb hts (inX6_well_X6) tyX6 tyX6_ok nmX6 hown hK hI hP hS 0 (by omega) (ci := 6) e1_well rfl 11 (by decide) (flX6_well_59 hts) rfl rfl (by decide +kernel) (Nat.le_of_ble_eq_true rfl) e1_loc (by rw [e1_well]; simp [up]) dX6_well_2 (fun H locs hP hS => ?_)
  obtain ⟨σ0, hσ0⟩ : ∃ τ, τ = up σ 0 11 (nI 0) := ⟨_, rfl⟩
  rw [← hσ0] at hP
  have hJ0 : I1 n p g rn d th rd sl sn sc (nI 0) tr σ0 := by rw [hσ0]; exact I1_ft hJ
  obtain ⟨hT, hR, hRd, hSh, -, hft, htr⟩ := id hJ0
  refine lv_aload_n hx hb dX6_well_5 rfl (lv_at hl 0 rfl) ?_
  refine lv_iload_n hx hb dX6_well_6 rfl (lv_at hl 1 rfl) ?_
  refine xk_fz (va_runV (As := [.int k]) (rest := []) ⟨hx, hb, hml, hown, hts⟩ (k1_sheetAt_out l hI (x := k)  (by assumption)) (cwV 1 hts gX6_well_X6_sheetAt rfl rfl rfl (by decide +kernel) ⟨Nat.le_of_ble_eq_true rfl, Nat.le_of_ble_eq_true rfl⟩) (xk_preV X1_ok hK hX hP (xk_recv hK hP 0 (by omega) (ci := 6) e1_well rfl)) rfl rfl hl.1 rfl (lv_room (Nat.le_of_ble_eq_true rfl)) dX6_well_7 ⟨Nat.le_of_ble_eq_true rfl, Nat.le_of_ble_eq_true rfl⟩) hS (fun H locs hP hS => ?_)
  refine lv_astoreN (lv' := [(5, .null), (0, .ref (ad 0)), (1, .int k), (2, .int w), (3, .int a), (4, .int m)]) hx hb dX6_well_10 hl (by decide) rfl (fun ls hl => ?_)
  refine lv_aloadN hx hb dX6_well_12 (lv_at hl 0 rfl) ?_
  refine lv_ifnonnullN hx hb dX6_well_14 ?_
  refine lv_iconst (v := (-1)) hx hb dX6_well_17 (by decide) ?_
  exact xk_iret hx hb hr (vp_nar_int _) X1_ok hK hX hP hS hlk dX6_well_18 (⟨rfl, hJ0⟩)

set_option maxHeartbeats 4000000 in
set_option maxRecDepth 100000 in
theorem a1_well_lo (l : Launch) {D : va_G} {ca : Nat → ClassId} {ad : Nat → Nat} (hI : Ij ad 34) {σ : Sg} {n p g rn : Nat} {d : Nat → Nat} {th rd : Nat → Nat → Nat} {sl sn : Nat → Nat} {sc : Nat → Nat → Int32} {ft tr : Int32} {k : Nat} {w a m : Int32} (hJ : I1 n p g rn d th rd sl sn sc ft tr σ) (hk4 : k < 4) (hwo : ¬ (nI 0 ≤ w ∧ w ≤ nI 2)) : C1i l D ca ad yX6_well wsX6_well { frames := 5, cells := 0, slots := 0, locals := 111 } [.ref (ad 0), .int (nI k), .int w, .int a, .int m] σ (fun r σ' => r = -2 ∧ I1 n p g rn d th rd sl sn sc (nI 0) tr σ') := by
  refine xk_entry cX6_well 8 (some .int) (by decide) rfl (Nat.le_of_ble_eq_true rfl) ?_
  intro pP eE sS mM below meth cC hx hb hml hr hts hown hlk hP hK hX hS ls hl
  have hl : lv_has ls 8 [(0, .ref (ad 0)), (1, .int (nI k)), (2, .int w), (3, .int a), (4, .int m)] := hl
  obtain ⟨hT, hR, hRd, hSh, hnp, hft, htr⟩ := id hJ
  have hn5 := hT.2.2.1
  have hg9 := hT.2.2.2.1
  have hp6 := hR.2.1
  have hrn8 := hRd.2.1
  refine lv_aload_n hx hb dX6_well_0 rfl (lv_at hl 0 rfl) ?_
  refine lv_iconst (v := nI 0) hx hb dX6_well_1 (by decide) ?_
  refine xk_put hx hb hts (inX6_well_X6) tyX6 tyX6_ok nmX6 hown hK hI hP hS 0 (by omega) (ci := 6) e1_well rfl 11 (by decide) (flX6_well_59 hts) rfl rfl (by decide +kernel) (Nat.le_of_ble_eq_true rfl) e1_loc (by rw [e1_well]; simp [up]) dX6_well_2 (fun H locs hP hS => ?_)
  obtain ⟨σ0, hσ0⟩ : ∃ τ, τ = up σ 0 11 (nI 0) := ⟨_, rfl⟩
  rw [← hσ0] at hP
  have hJ0 : I1 n p g rn d th rd sl sn sc (nI 0) tr σ0 := by rw [hσ0]; exact I1_ft hJ
  obtain ⟨hT, hR, hRd, hSh, -, hft, htr⟩ := id hJ0
  have hZ := hSh k hk4
  refine lv_aload_n hx hb dX6_well_5 rfl (lv_at hl 0 rfl) ?_
  refine lv_iload_n hx hb dX6_well_6 rfl (lv_at hl 1 rfl) ?_
  refine xk_fa (va_runV (As := [.int (nI k)]) (rest := []) ⟨hx, hb, hml, hown, hts⟩ (k1_sheetAt_in l hI (x := k)  (by omega)) (cwV 1 hts gX6_well_X6_sheetAt rfl rfl rfl (by decide +kernel) ⟨Nat.le_of_ble_eq_true rfl, Nat.le_of_ble_eq_true rfl⟩) (xk_preV X1_ok hK hX hP (xk_recv hK hP 0 (by omega) (ci := 6) e1_well rfl)) rfl rfl hl.1 rfl (lv_room (Nat.le_of_ble_eq_true rfl)) dX6_well_7 ⟨Nat.le_of_ble_eq_true rfl, Nat.le_of_ble_eq_true rfl⟩) hS (fun H locs hP hS => ?_)
  refine lv_astore (lv' := [(5, .ref (ad (1 + k))), (0, .ref (ad 0)), (1, .int (nI k)), (2, .int w), (3, .int a), (4, .int m)]) hx hb dX6_well_10 hl (by decide) rfl (fun ls hl => ?_)
  refine lv_aload hx hb dX6_well_12 (lv_at hl 0 rfl) ?_
  refine lv_ifnonnull (tgt := 19) hx hb dX6_well_14 (by decide) ?_
  refine lv_iload_n hx hb dX6_well_19 rfl (lv_at hl 3 rfl) ?_
  refine lv_iconst (v := nI 0) hx hb dX6_well_20 (by decide) ?_
  refine lv_iconst (v := nI 2) hx hb dX6_well_21 (by decide) ?_
  refine xk_fi (va_runS (As := [.int w, .int (nI 0), .int (nI 2)]) (rest := []) ⟨hx, hb, hml, hown, hts⟩ (k1_within_f l hI w (nI 0) (nI 2) (by assumption)) (va_cwS 3 hts gX6_well_X6_within rfl rfl rfl (by decide +kernel) ⟨Nat.le_of_ble_eq_true rfl, Nat.le_of_ble_eq_true rfl⟩) (xk_preS X1_ok hK hX hP) rfl rfl hl.1 rfl (lv_room (Nat.le_of_ble_eq_true rfl)) dX6_well_22 ⟨Nat.le_of_ble_eq_true rfl, Nat.le_of_ble_eq_true rfl⟩) hS (fun H locs hP hS => ?_)
  refine xn_zne (tgt := 31) hx hb dX6_well_25 (by decide) (by omega) (fun c_25 => absurd c_25 (by omega)) (fun c_25 => ?_)
  refine lv_bipush (v := (-2)) hx hb dX6_well_28 (by decide) ?_
  exact xk_iret hx hb hr (vp_nar_int _) X1_ok hK hX hP hS hlk dX6_well_30 (⟨rfl, hJ0⟩)

set_option maxHeartbeats 4000000 in
set_option maxRecDepth 100000 in
theorem a1_well_fl (l : Launch) {D : va_G} {ca : Nat → ClassId} {ad : Nat → Nat} (hI : Ij ad 34) {σ : Sg} {n p g rn : Nat} {d : Nat → Nat} {th rd : Nat → Nat → Nat} {sl sn : Nat → Nat} {sc : Nat → Nat → Int32} {ft tr : Int32} {k : Nat} {w : Nat} {a m : Int32} (hJ : I1 n p g rn d th rd sl sn sc ft tr σ) (hk4 : k < 4) (hw2 : w ≤ 2) (hf : fL (sl k) w ≠ 0) : C1i l D ca ad yX6_well wsX6_well { frames := 5, cells := 0, slots := 0, locals := 111 } [.ref (ad 0), .int (nI k), .int (nI w), .int a, .int m] σ (fun r σ' => r = (-10) - nI (fL (sl k) w) ∧ I1 n p g rn d th rd sl sn sc (nI (fL (sl k) w)) tr σ') := by
  refine xk_entry cX6_well 8 (some .int) (by decide) rfl (Nat.le_of_ble_eq_true rfl) ?_
  intro pP eE sS mM below meth cC hx hb hml hr hts hown hlk hP hK hX hS ls hl
  have hl : lv_has ls 8 [(0, .ref (ad 0)), (1, .int (nI k)), (2, .int (nI w)), (3, .int a), (4, .int m)] := hl
  obtain ⟨hT, hR, hRd, hSh, hnp, hft, htr⟩ := id hJ
  have hn5 := hT.2.2.1
  have hg9 := hT.2.2.2.1
  have hp6 := hR.2.1
  have hrn8 := hRd.2.1
  refine lv_aload_n hx hb dX6_well_0 rfl (lv_at hl 0 rfl) ?_
  refine lv_iconst (v := nI 0) hx hb dX6_well_1 (by decide) ?_
  refine xk_put hx hb hts (inX6_well_X6) tyX6 tyX6_ok nmX6 hown hK hI hP hS 0 (by omega) (ci := 6) e1_well rfl 11 (by decide) (flX6_well_59 hts) rfl rfl (by decide +kernel) (Nat.le_of_ble_eq_true rfl) e1_loc (by rw [e1_well]; simp [up]) dX6_well_2 (fun H locs hP hS => ?_)
  obtain ⟨σ0, hσ0⟩ : ∃ τ, τ = up σ 0 11 (nI 0) := ⟨_, rfl⟩
  rw [← hσ0] at hP
  have hJ0 : I1 n p g rn d th rd sl sn sc (nI 0) tr σ0 := by rw [hσ0]; exact I1_ft hJ
  obtain ⟨hT, hR, hRd, hSh, -, hft, htr⟩ := id hJ0
  have hZ := hSh k hk4
  have hfl : fL (sl k) w ≤ 2 := by unfold fL; split <;> (try split) <;> omega
  refine lv_aload_n hx hb dX6_well_5 rfl (lv_at hl 0 rfl) ?_
  refine lv_iload_n hx hb dX6_well_6 rfl (lv_at hl 1 rfl) ?_
  refine xk_fa (va_runV (As := [.int (nI k)]) (rest := []) ⟨hx, hb, hml, hown, hts⟩ (k1_sheetAt_in l hI (x := k)  (by omega)) (cwV 1 hts gX6_well_X6_sheetAt rfl rfl rfl (by decide +kernel) ⟨Nat.le_of_ble_eq_true rfl, Nat.le_of_ble_eq_true rfl⟩) (xk_preV X1_ok hK hX hP (xk_recv hK hP 0 (by omega) (ci := 6) e1_well rfl)) rfl rfl hl.1 rfl (lv_room (Nat.le_of_ble_eq_true rfl)) dX6_well_7 ⟨Nat.le_of_ble_eq_true rfl, Nat.le_of_ble_eq_true rfl⟩) hS (fun H locs hP hS => ?_)
  refine lv_astore (lv' := [(5, .ref (ad (1 + k))), (0, .ref (ad 0)), (1, .int (nI k)), (2, .int (nI w)), (3, .int a), (4, .int m)]) hx hb dX6_well_10 hl (by decide) rfl (fun ls hl => ?_)
  refine lv_aload hx hb dX6_well_12 (lv_at hl 0 rfl) ?_
  refine lv_ifnonnull (tgt := 19) hx hb dX6_well_14 (by decide) ?_
  refine lv_iload_n hx hb dX6_well_19 rfl (lv_at hl 3 rfl) ?_
  refine lv_iconst (v := nI 0) hx hb dX6_well_20 (by decide) ?_
  refine lv_iconst (v := nI 2) hx hb dX6_well_21 (by decide) ?_
  refine xk_fi (va_runS (As := [.int (nI w), .int (nI 0), .int (nI 2)]) (rest := []) ⟨hx, hb, hml, hown, hts⟩ (k1_within_t l hI (nI w) (nI 0) (nI 2) (xn_in (by omega) (by omega) (by omega))) (va_cwS 3 hts gX6_well_X6_within rfl rfl rfl (by decide +kernel) ⟨Nat.le_of_ble_eq_true rfl, Nat.le_of_ble_eq_true rfl⟩) (xk_preS X1_ok hK hX hP) rfl rfl hl.1 rfl (lv_room (Nat.le_of_ble_eq_true rfl)) dX6_well_22 ⟨Nat.le_of_ble_eq_true rfl, Nat.le_of_ble_eq_true rfl⟩) hS (fun H locs hP hS => ?_)
  refine xn_zne (tgt := 31) hx hb dX6_well_25 (by decide) (by omega) (fun c_25 => ?_) (fun c_25 => absurd c_25 (by omega))
  refine lv_aload hx hb dX6_well_31 (lv_at hl 0 rfl) ?_
  refine lv_iload_n hx hb dX6_well_33 rfl (lv_at hl 3 rfl) ?_
  refine lv_iload_n hx hb dX6_well_34 rfl (lv_at hl 4 rfl) ?_
  refine lv_iload hx hb dX6_well_35 (lv_at hl 5 rfl) ?_
  refine xk_fi (va_runV (As := [.int (nI w), .int a, .int m]) (rest := []) ⟨hx, hb, hml, hown, hts⟩ (k1_foc_lane l hI (w := w) (by omega) (by omega) hZ hw2 hf) (cwV 3 hts gX6_well_X2_faultOfCells rfl rfl rfl (by decide +kernel) ⟨Nat.le_of_ble_eq_true rfl, Nat.le_of_ble_eq_true rfl⟩) (xk_preV X1_ok hK hX hP (xk_recv hK hP (1 + k) (by omega) (ci := 2) (e1_sheet (by omega) (by omega)) rfl)) rfl rfl hl.1 rfl (lv_room (Nat.le_of_ble_eq_true rfl)) dX6_well_37 ⟨Nat.le_of_ble_eq_true rfl, Nat.le_of_ble_eq_true rfl⟩) hS (fun H locs hP hS => ?_)
  refine lv_istore (lv' := [(6, .int (nI (fL (sl k) w))), (5, .ref (ad (1 + k))), (0, .ref (ad 0)), (1, .int (nI k)), (2, .int (nI w)), (3, .int a), (4, .int m)]) hx hb dX6_well_40 hl (by decide) rfl (fun ls hl => ?_)
  refine lv_iload hx hb dX6_well_42 (lv_at hl 0 rfl) ?_
  refine xn_zeq (tgt := 54) hx hb dX6_well_44 (by decide) (by omega) (fun c_44 => absurd c_44 (by omega)) (fun c_44 => ?_)
  refine lv_aload_n hx hb dX6_well_47 rfl (lv_at hl 2 rfl) ?_
  refine lv_iload hx hb dX6_well_48 (lv_at hl 0 rfl) ?_
  refine xk_fi (va_runV (As := [.int (nI (fL (sl k) w))]) (rest := []) ⟨hx, hb, hml, hown, hts⟩ (k1_faulted l hI (fL (sl k) w)) (cwV 1 hts gX6_well_X6_faulted rfl rfl rfl (by decide +kernel) ⟨Nat.le_of_ble_eq_true rfl, Nat.le_of_ble_eq_true rfl⟩) (xk_preV X1_ok hK hX hP (xk_recv hK hP 0 (by omega) (ci := 6) e1_well rfl)) rfl rfl hl.1 rfl (lv_room (Nat.le_of_ble_eq_true rfl)) dX6_well_50 ⟨Nat.le_of_ble_eq_true rfl, Nat.le_of_ble_eq_true rfl⟩) hS (fun H locs hP hS => ?_)
  exact xk_iret hx hb hr (vp_nar_int _) X1_ok hK hX hP hS hlk dX6_well_53 (⟨rfl, I1_ft hJ0⟩)

set_option maxHeartbeats 4000000 in
set_option maxRecDepth 100000 in
theorem a1_well_ne (l : Launch) {D : va_G} {ca : Nat → ClassId} {ad : Nat → Nat} (hI : Ij ad 34) {σ : Sg} {n p g rn : Nat} {d : Nat → Nat} {th rd : Nat → Nat → Nat} {sl sn : Nat → Nat} {sc : Nat → Nat → Int32} {ft tr : Int32} {k : Nat} {w : Nat} {a m : Int32} (hJ : I1 n p g rn d th rd sl sn sc ft tr σ) (hk4 : k < 4) (hw2 : w ≤ 2) (hLw : sl k = w) (hm0 : m < 0) : C1i l D ca ad yX6_well wsX6_well { frames := 5, cells := 0, slots := 0, locals := 111 } [.ref (ad 0), .int (nI k), .int (nI w), .int a, .int m] σ (fun r σ' => r = (-10) - nI 4 ∧ I1 n p g rn d th rd sl sn sc (nI 4) tr σ') := by
  refine xk_entry cX6_well 8 (some .int) (by decide) rfl (Nat.le_of_ble_eq_true rfl) ?_
  intro pP eE sS mM below meth cC hx hb hml hr hts hown hlk hP hK hX hS ls hl
  have hl : lv_has ls 8 [(0, .ref (ad 0)), (1, .int (nI k)), (2, .int (nI w)), (3, .int a), (4, .int m)] := hl
  obtain ⟨hT, hR, hRd, hSh, hnp, hft, htr⟩ := id hJ
  have hn5 := hT.2.2.1
  have hg9 := hT.2.2.2.1
  have hp6 := hR.2.1
  have hrn8 := hRd.2.1
  refine lv_aload_n hx hb dX6_well_0 rfl (lv_at hl 0 rfl) ?_
  refine lv_iconst (v := nI 0) hx hb dX6_well_1 (by decide) ?_
  refine xk_put hx hb hts (inX6_well_X6) tyX6 tyX6_ok nmX6 hown hK hI hP hS 0 (by omega) (ci := 6) e1_well rfl 11 (by decide) (flX6_well_59 hts) rfl rfl (by decide +kernel) (Nat.le_of_ble_eq_true rfl) e1_loc (by rw [e1_well]; simp [up]) dX6_well_2 (fun H locs hP hS => ?_)
  obtain ⟨σ0, hσ0⟩ : ∃ τ, τ = up σ 0 11 (nI 0) := ⟨_, rfl⟩
  rw [← hσ0] at hP
  have hJ0 : I1 n p g rn d th rd sl sn sc (nI 0) tr σ0 := by rw [hσ0]; exact I1_ft hJ
  obtain ⟨hT, hR, hRd, hSh, -, hft, htr⟩ := id hJ0
  have hZ := hSh k hk4
  have hfl : fL (sl k) w ≤ 2 := by unfold fL; split <;> (try split) <;> omega
  refine lv_aload_n hx hb dX6_well_5 rfl (lv_at hl 0 rfl) ?_
  refine lv_iload_n hx hb dX6_well_6 rfl (lv_at hl 1 rfl) ?_
  refine xk_fa (va_runV (As := [.int (nI k)]) (rest := []) ⟨hx, hb, hml, hown, hts⟩ (k1_sheetAt_in l hI (x := k)  (by omega)) (cwV 1 hts gX6_well_X6_sheetAt rfl rfl rfl (by decide +kernel) ⟨Nat.le_of_ble_eq_true rfl, Nat.le_of_ble_eq_true rfl⟩) (xk_preV X1_ok hK hX hP (xk_recv hK hP 0 (by omega) (ci := 6) e1_well rfl)) rfl rfl hl.1 rfl (lv_room (Nat.le_of_ble_eq_true rfl)) dX6_well_7 ⟨Nat.le_of_ble_eq_true rfl, Nat.le_of_ble_eq_true rfl⟩) hS (fun H locs hP hS => ?_)
  refine lv_astore (lv' := [(5, .ref (ad (1 + k))), (0, .ref (ad 0)), (1, .int (nI k)), (2, .int (nI w)), (3, .int a), (4, .int m)]) hx hb dX6_well_10 hl (by decide) rfl (fun ls hl => ?_)
  refine lv_aload hx hb dX6_well_12 (lv_at hl 0 rfl) ?_
  refine lv_ifnonnull (tgt := 19) hx hb dX6_well_14 (by decide) ?_
  refine lv_iload_n hx hb dX6_well_19 rfl (lv_at hl 3 rfl) ?_
  refine lv_iconst (v := nI 0) hx hb dX6_well_20 (by decide) ?_
  refine lv_iconst (v := nI 2) hx hb dX6_well_21 (by decide) ?_
  refine xk_fi (va_runS (As := [.int (nI w), .int (nI 0), .int (nI 2)]) (rest := []) ⟨hx, hb, hml, hown, hts⟩ (k1_within_t l hI (nI w) (nI 0) (nI 2) (xn_in (by omega) (by omega) (by omega))) (va_cwS 3 hts gX6_well_X6_within rfl rfl rfl (by decide +kernel) ⟨Nat.le_of_ble_eq_true rfl, Nat.le_of_ble_eq_true rfl⟩) (xk_preS X1_ok hK hX hP) rfl rfl hl.1 rfl (lv_room (Nat.le_of_ble_eq_true rfl)) dX6_well_22 ⟨Nat.le_of_ble_eq_true rfl, Nat.le_of_ble_eq_true rfl⟩) hS (fun H locs hP hS => ?_)
  refine xn_zne (tgt := 31) hx hb dX6_well_25 (by decide) (by omega) (fun c_25 => ?_) (fun c_25 => absurd c_25 (by omega))
  refine lv_aload hx hb dX6_well_31 (lv_at hl 0 rfl) ?_
  refine lv_iload_n hx hb dX6_well_33 rfl (lv_at hl 3 rfl) ?_
  refine lv_iload_n hx hb dX6_well_34 rfl (lv_at hl 4 rfl) ?_
  refine lv_iload hx hb dX6_well_35 (lv_at hl 5 rfl) ?_
  refine xk_fi (va_runV (As := [.int (nI w), .int a, .int m]) (rest := []) ⟨hx, hb, hml, hown, hts⟩ (k1_foc_size l hI (w := w) (by omega) (by omega) hZ hw2 hLw hm0) (cwV 3 hts gX6_well_X2_faultOfCells rfl rfl rfl (by decide +kernel) ⟨Nat.le_of_ble_eq_true rfl, Nat.le_of_ble_eq_true rfl⟩) (xk_preV X1_ok hK hX hP (xk_recv hK hP (1 + k) (by omega) (ci := 2) (e1_sheet (by omega) (by omega)) rfl)) rfl rfl hl.1 rfl (lv_room (Nat.le_of_ble_eq_true rfl)) dX6_well_37 ⟨Nat.le_of_ble_eq_true rfl, Nat.le_of_ble_eq_true rfl⟩) hS (fun H locs hP hS => ?_)
  refine lv_istore (lv' := [(6, .int (nI 4)), (5, .ref (ad (1 + k))), (0, .ref (ad 0)), (1, .int (nI k)), (2, .int (nI w)), (3, .int a), (4, .int m)]) hx hb dX6_well_40 hl (by decide) rfl (fun ls hl => ?_)
  refine lv_iload hx hb dX6_well_42 (lv_at hl 0 rfl) ?_
  refine xn_zeq (tgt := 54) hx hb dX6_well_44 (by decide) (by omega) (fun c_44 => absurd c_44 (by omega)) (fun c_44 => ?_)
  refine lv_aload_n hx hb dX6_well_47 rfl (lv_at hl 2 rfl) ?_
  refine lv_iload hx hb dX6_well_48 (lv_at hl 0 rfl) ?_
  refine xk_fi (va_runV (As := [.int (nI 4)]) (rest := []) ⟨hx, hb, hml, hown, hts⟩ (k1_faulted l hI 4) (cwV 1 hts gX6_well_X6_faulted rfl rfl rfl (by decide +kernel) ⟨Nat.le_of_ble_eq_true rfl, Nat.le_of_ble_eq_true rfl⟩) (xk_preV X1_ok hK hX hP (xk_recv hK hP 0 (by omega) (ci := 6) e1_well rfl)) rfl rfl hl.1 rfl (lv_room (Nat.le_of_ble_eq_true rfl)) dX6_well_50 ⟨Nat.le_of_ble_eq_true rfl, Nat.le_of_ble_eq_true rfl⟩) hS (fun H locs hP hS => ?_)
  exact xk_iret hx hb hr (vp_nar_int _) X1_ok hK hX hP hS hlk dX6_well_53 (⟨rfl, I1_ft hJ0⟩)

set_option maxHeartbeats 4000000 in
set_option maxRecDepth 100000 in
theorem a1_well_io (l : Launch) {D : va_G} {ca : Nat → ClassId} {ad : Nat → Nat} (hI : Ij ad 34) {σ : Sg} {n p g rn : Nat} {d : Nat → Nat} {th rd : Nat → Nat → Nat} {sl sn : Nat → Nat} {sc : Nat → Nat → Int32} {ft tr : Int32} {k : Nat} {w : Nat} {a m : Int32} (hJ : I1 n p g rn d th rd sl sn sc ft tr σ) (hk4 : k < 4) (hw2 : w ≤ 2) (hLw : sl k = w) (hm0 : ¬ m < 0) (hxy : ∀ u v, u + v ≤ sn k → ¬ (a = nI u ∧ m = nI v)) : C1i l D ca ad yX6_well wsX6_well { frames := 5, cells := 0, slots := 0, locals := 111 } [.ref (ad 0), .int (nI k), .int (nI w), .int a, .int m] σ (fun r σ' => r = (-10) - nI 3 ∧ I1 n p g rn d th rd sl sn sc (nI 3) tr σ') := by
  refine xk_entry cX6_well 8 (some .int) (by decide) rfl (Nat.le_of_ble_eq_true rfl) ?_
  intro pP eE sS mM below meth cC hx hb hml hr hts hown hlk hP hK hX hS ls hl
  have hl : lv_has ls 8 [(0, .ref (ad 0)), (1, .int (nI k)), (2, .int (nI w)), (3, .int a), (4, .int m)] := hl
  obtain ⟨hT, hR, hRd, hSh, hnp, hft, htr⟩ := id hJ
  have hn5 := hT.2.2.1
  have hg9 := hT.2.2.2.1
  have hp6 := hR.2.1
  have hrn8 := hRd.2.1
  refine lv_aload_n hx hb dX6_well_0 rfl (lv_at hl 0 rfl) ?_
  refine lv_iconst (v := nI 0) hx hb dX6_well_1 (by decide) ?_
  refine xk_put hx hb hts (inX6_well_X6) tyX6 tyX6_ok nmX6 hown hK hI hP hS 0 (by omega) (ci := 6) e1_well rfl 11 (by decide) (flX6_well_59 hts) rfl rfl (by decide +kernel) (Nat.le_of_ble_eq_true rfl) e1_loc (by rw [e1_well]; simp [up]) dX6_well_2 (fun H locs hP hS => ?_)
  obtain ⟨σ0, hσ0⟩ : ∃ τ, τ = up σ 0 11 (nI 0) := ⟨_, rfl⟩
  rw [← hσ0] at hP
  have hJ0 : I1 n p g rn d th rd sl sn sc (nI 0) tr σ0 := by rw [hσ0]; exact I1_ft hJ
  obtain ⟨hT, hR, hRd, hSh, -, hft, htr⟩ := id hJ0
  have hZ := hSh k hk4
  have hfl : fL (sl k) w ≤ 2 := by unfold fL; split <;> (try split) <;> omega
  refine lv_aload_n hx hb dX6_well_5 rfl (lv_at hl 0 rfl) ?_
  refine lv_iload_n hx hb dX6_well_6 rfl (lv_at hl 1 rfl) ?_
  refine xk_fa (va_runV (As := [.int (nI k)]) (rest := []) ⟨hx, hb, hml, hown, hts⟩ (k1_sheetAt_in l hI (x := k)  (by omega)) (cwV 1 hts gX6_well_X6_sheetAt rfl rfl rfl (by decide +kernel) ⟨Nat.le_of_ble_eq_true rfl, Nat.le_of_ble_eq_true rfl⟩) (xk_preV X1_ok hK hX hP (xk_recv hK hP 0 (by omega) (ci := 6) e1_well rfl)) rfl rfl hl.1 rfl (lv_room (Nat.le_of_ble_eq_true rfl)) dX6_well_7 ⟨Nat.le_of_ble_eq_true rfl, Nat.le_of_ble_eq_true rfl⟩) hS (fun H locs hP hS => ?_)
  refine lv_astore (lv' := [(5, .ref (ad (1 + k))), (0, .ref (ad 0)), (1, .int (nI k)), (2, .int (nI w)), (3, .int a), (4, .int m)]) hx hb dX6_well_10 hl (by decide) rfl (fun ls hl => ?_)
  refine lv_aload hx hb dX6_well_12 (lv_at hl 0 rfl) ?_
  refine lv_ifnonnull (tgt := 19) hx hb dX6_well_14 (by decide) ?_
  refine lv_iload_n hx hb dX6_well_19 rfl (lv_at hl 3 rfl) ?_
  refine lv_iconst (v := nI 0) hx hb dX6_well_20 (by decide) ?_
  refine lv_iconst (v := nI 2) hx hb dX6_well_21 (by decide) ?_
  refine xk_fi (va_runS (As := [.int (nI w), .int (nI 0), .int (nI 2)]) (rest := []) ⟨hx, hb, hml, hown, hts⟩ (k1_within_t l hI (nI w) (nI 0) (nI 2) (xn_in (by omega) (by omega) (by omega))) (va_cwS 3 hts gX6_well_X6_within rfl rfl rfl (by decide +kernel) ⟨Nat.le_of_ble_eq_true rfl, Nat.le_of_ble_eq_true rfl⟩) (xk_preS X1_ok hK hX hP) rfl rfl hl.1 rfl (lv_room (Nat.le_of_ble_eq_true rfl)) dX6_well_22 ⟨Nat.le_of_ble_eq_true rfl, Nat.le_of_ble_eq_true rfl⟩) hS (fun H locs hP hS => ?_)
  refine xn_zne (tgt := 31) hx hb dX6_well_25 (by decide) (by omega) (fun c_25 => ?_) (fun c_25 => absurd c_25 (by omega))
  refine lv_aload hx hb dX6_well_31 (lv_at hl 0 rfl) ?_
  refine lv_iload_n hx hb dX6_well_33 rfl (lv_at hl 3 rfl) ?_
  refine lv_iload_n hx hb dX6_well_34 rfl (lv_at hl 4 rfl) ?_
  refine lv_iload hx hb dX6_well_35 (lv_at hl 5 rfl) ?_
  refine xk_fi (va_runV (As := [.int (nI w), .int a, .int m]) (rest := []) ⟨hx, hb, hml, hown, hts⟩ (k1_foc_idx l hI (w := w) (by omega) (by omega) hZ hw2 hLw hm0 hxy) (cwV 3 hts gX6_well_X2_faultOfCells rfl rfl rfl (by decide +kernel) ⟨Nat.le_of_ble_eq_true rfl, Nat.le_of_ble_eq_true rfl⟩) (xk_preV X1_ok hK hX hP (xk_recv hK hP (1 + k) (by omega) (ci := 2) (e1_sheet (by omega) (by omega)) rfl)) rfl rfl hl.1 rfl (lv_room (Nat.le_of_ble_eq_true rfl)) dX6_well_37 ⟨Nat.le_of_ble_eq_true rfl, Nat.le_of_ble_eq_true rfl⟩) hS (fun H locs hP hS => ?_)
  refine lv_istore (lv' := [(6, .int (nI 3)), (5, .ref (ad (1 + k))), (0, .ref (ad 0)), (1, .int (nI k)), (2, .int (nI w)), (3, .int a), (4, .int m)]) hx hb dX6_well_40 hl (by decide) rfl (fun ls hl => ?_)
  refine lv_iload hx hb dX6_well_42 (lv_at hl 0 rfl) ?_
  refine xn_zeq (tgt := 54) hx hb dX6_well_44 (by decide) (by omega) (fun c_44 => absurd c_44 (by omega)) (fun c_44 => ?_)
  refine lv_aload_n hx hb dX6_well_47 rfl (lv_at hl 2 rfl) ?_
  refine lv_iload hx hb dX6_well_48 (lv_at hl 0 rfl) ?_
  refine xk_fi (va_runV (As := [.int (nI 3)]) (rest := []) ⟨hx, hb, hml, hown, hts⟩ (k1_faulted l hI 3) (cwV 1 hts gX6_well_X6_faulted rfl rfl rfl (by decide +kernel) ⟨Nat.le_of_ble_eq_true rfl, Nat.le_of_ble_eq_true rfl⟩) (xk_preV X1_ok hK hX hP (xk_recv hK hP 0 (by omega) (ci := 6) e1_well rfl)) rfl rfl hl.1 rfl (lv_room (Nat.le_of_ble_eq_true rfl)) dX6_well_50 ⟨Nat.le_of_ble_eq_true rfl, Nat.le_of_ble_eq_true rfl⟩) hS (fun H locs hP hS => ?_)
  exact xk_iret hx hb hr (vp_nar_int _) X1_ok hK hX hP hS hlk dX6_well_53 (⟨rfl, I1_ft hJ0⟩)

set_option maxRecDepth 20000 in
theorem flX6_well_45 {s : State} {av : Array Value} (hts : ∀ w ∈ wsX6_well, w.before av s = true) : (Cond.fieldLink RX6 45 "WellBack" "text" "LWellBack$Text;").before av s = true := hts _ (by decide +kernel)
set_option maxHeartbeats 4000000 in
set_option maxRecDepth 100000 in
theorem a1_well_bad (l : Launch) {D : va_G} {ca : Nat → ClassId} {ad : Nat → Nat} (hI : Ij ad 34) {σ : Sg} {n p g rn : Nat} {d : Nat → Nat} {th rd : Nat → Nat → Nat} {sl sn : Nat → Nat} {sc : Nat → Nat → Int32} {ft tr : Int32} {k : Nat} {w : Nat} {a m : Nat} {f : Nat} (hJ : I1 n p g rn d th rd sl sn sc ft tr σ) (hk4 : k < 4) (hw2 : w ≤ 2) (hLw : sl k = w) (ham : a + m ≤ sn k) (hpa : parse (cd (fun j => sc k (a + j)) m) m = .inl f) : C1i l D ca ad yX6_well wsX6_well { frames := 5, cells := 0, slots := 0, locals := 111 } [.ref (ad 0), .int (nI k), .int (nI w), .int (nI a), .int (nI m)] σ (fun r σ' => r = (-100) - nI f ∧ I1 n p g rn d th rd sl sn sc (nI 0) tr σ') := by
  refine xk_entry cX6_well 8 (some .int) (by decide) rfl (Nat.le_of_ble_eq_true rfl) ?_
  intro pP eE sS mM below meth cC hx hb hml hr hts hown hlk hP hK hX hS ls hl
  have hl : lv_has ls 8 [(0, .ref (ad 0)), (1, .int (nI k)), (2, .int (nI w)), (3, .int (nI a)), (4, .int (nI m))] := hl
  obtain ⟨hT, hR, hRd, hSh, hnp, hft, htr⟩ := id hJ
  have hn5 := hT.2.2.1
  have hg9 := hT.2.2.2.1
  have hp6 := hR.2.1
  have hrn8 := hRd.2.1
  refine lv_aload_n hx hb dX6_well_0 rfl (lv_at hl 0 rfl) ?_
  refine lv_iconst (v := nI 0) hx hb dX6_well_1 (by decide) ?_
  refine xk_put hx hb hts (inX6_well_X6) tyX6 tyX6_ok nmX6 hown hK hI hP hS 0 (by omega) (ci := 6) e1_well rfl 11 (by decide) (flX6_well_59 hts) rfl rfl (by decide +kernel) (Nat.le_of_ble_eq_true rfl) e1_loc (by rw [e1_well]; simp [up]) dX6_well_2 (fun H locs hP hS => ?_)
  obtain ⟨σ0, hσ0⟩ : ∃ τ, τ = up σ 0 11 (nI 0) := ⟨_, rfl⟩
  rw [← hσ0] at hP
  have hJ0 : I1 n p g rn d th rd sl sn sc (nI 0) tr σ0 := by rw [hσ0]; exact I1_ft hJ
  obtain ⟨hT, hR, hRd, hSh, -, hft, htr⟩ := id hJ0
  have hZ := hSh k hk4
  have hL : sl k < 3 := by omega
  have hk60 := (hZ.2.2 hL).2.1
  have hm60 : m ≤ 60 := by omega
  refine lv_aload_n hx hb dX6_well_5 rfl (lv_at hl 0 rfl) ?_
  refine lv_iload_n hx hb dX6_well_6 rfl (lv_at hl 1 rfl) ?_
  refine xk_fa (va_runV (As := [.int (nI k)]) (rest := []) ⟨hx, hb, hml, hown, hts⟩ (k1_sheetAt_in l hI (x := k)  (by omega)) (cwV 1 hts gX6_well_X6_sheetAt rfl rfl rfl (by decide +kernel) ⟨Nat.le_of_ble_eq_true rfl, Nat.le_of_ble_eq_true rfl⟩) (xk_preV X1_ok hK hX hP (xk_recv hK hP 0 (by omega) (ci := 6) e1_well rfl)) rfl rfl hl.1 rfl (lv_room (Nat.le_of_ble_eq_true rfl)) dX6_well_7 ⟨Nat.le_of_ble_eq_true rfl, Nat.le_of_ble_eq_true rfl⟩) hS (fun H locs hP hS => ?_)
  refine lv_astore (lv' := [(5, .ref (ad (1 + k))), (0, .ref (ad 0)), (1, .int (nI k)), (2, .int (nI w)), (3, .int (nI a)), (4, .int (nI m))]) hx hb dX6_well_10 hl (by decide) rfl (fun ls hl => ?_)
  refine lv_aload hx hb dX6_well_12 (lv_at hl 0 rfl) ?_
  refine lv_ifnonnull (tgt := 19) hx hb dX6_well_14 (by decide) ?_
  refine lv_iload_n hx hb dX6_well_19 rfl (lv_at hl 3 rfl) ?_
  refine lv_iconst (v := nI 0) hx hb dX6_well_20 (by decide) ?_
  refine lv_iconst (v := nI 2) hx hb dX6_well_21 (by decide) ?_
  refine xk_fi (va_runS (As := [.int (nI w), .int (nI 0), .int (nI 2)]) (rest := []) ⟨hx, hb, hml, hown, hts⟩ (k1_within_t l hI (nI w) (nI 0) (nI 2) (xn_in (by omega) (by omega) (by omega))) (va_cwS 3 hts gX6_well_X6_within rfl rfl rfl (by decide +kernel) ⟨Nat.le_of_ble_eq_true rfl, Nat.le_of_ble_eq_true rfl⟩) (xk_preS X1_ok hK hX hP) rfl rfl hl.1 rfl (lv_room (Nat.le_of_ble_eq_true rfl)) dX6_well_22 ⟨Nat.le_of_ble_eq_true rfl, Nat.le_of_ble_eq_true rfl⟩) hS (fun H locs hP hS => ?_)
  refine xn_zne (tgt := 31) hx hb dX6_well_25 (by decide) (by omega) (fun c_25 => ?_) (fun c_25 => absurd c_25 (by omega))
  refine lv_aload hx hb dX6_well_31 (lv_at hl 0 rfl) ?_
  refine lv_iload_n hx hb dX6_well_33 rfl (lv_at hl 3 rfl) ?_
  refine lv_iload_n hx hb dX6_well_34 rfl (lv_at hl 4 rfl) ?_
  refine lv_iload hx hb dX6_well_35 (lv_at hl 5 rfl) ?_
  refine xk_fi (va_runV (As := [.int (nI w), .int (nI a), .int (nI m)]) (rest := []) ⟨hx, hb, hml, hown, hts⟩ (k1_foc_ok l hI (w := w) (by omega) (by omega) hZ hw2 hLw ham) (cwV 3 hts gX6_well_X2_faultOfCells rfl rfl rfl (by decide +kernel) ⟨Nat.le_of_ble_eq_true rfl, Nat.le_of_ble_eq_true rfl⟩) (xk_preV X1_ok hK hX hP (xk_recv hK hP (1 + k) (by omega) (ci := 2) (e1_sheet (by omega) (by omega)) rfl)) rfl rfl hl.1 rfl (lv_room (Nat.le_of_ble_eq_true rfl)) dX6_well_37 ⟨Nat.le_of_ble_eq_true rfl, Nat.le_of_ble_eq_true rfl⟩) hS (fun H locs hP hS => ?_)
  refine lv_istore (lv' := [(6, .int (nI 0)), (5, .ref (ad (1 + k))), (0, .ref (ad 0)), (1, .int (nI k)), (2, .int (nI w)), (3, .int (nI a)), (4, .int (nI m))]) hx hb dX6_well_40 hl (by decide) rfl (fun ls hl => ?_)
  refine lv_iload hx hb dX6_well_42 (lv_at hl 0 rfl) ?_
  refine xn_zeq (tgt := 54) hx hb dX6_well_44 (by decide) (by omega) (fun c_44 => ?_) (fun c_44 => absurd c_44 (by omega))
  refine lv_aload_n hx hb dX6_well_54 rfl (lv_at hl 2 rfl) ?_
  refine xk_get hx hb hts (inX6_well_X6) hown hK hP 0 (by omega) (ci := 6) e1_well rfl 6 (by decide) (flX6_well_45 hts) rfl (.ref (ad 28)) rfl dX6_well_55 ?_
  refine lv_aload hx hb dX6_well_58 (lv_at hl 1 rfl) ?_
  refine lv_iload_n hx hb dX6_well_60 rfl (lv_at hl 5 rfl) ?_
  refine lv_iload hx hb dX6_well_61 (lv_at hl 6 rfl) ?_
  refine xk_cv (va_runV (As := [.ref (ad (1 + k)), .int (nI a), .int (nI m)]) (rest := []) ⟨hx, hb, hml, hown, hts⟩ (k1_take l hI (k := 1 + k) (a := a) (b := m) (by omega) (by omega) hZ hL ham) (cwV 3 hts gX6_well_X3_take rfl rfl rfl (by decide +kernel) ⟨Nat.le_of_ble_eq_true rfl, Nat.le_of_ble_eq_true rfl⟩) (xk_preV X1_ok hK hX hP (xk_recv hK hP 28 (by omega) (ci := 3) e1_text rfl)) rfl rfl hl.1 rfl (lv_room (Nat.le_of_ble_eq_true rfl)) dX6_well_63 ⟨Nat.le_of_ble_eq_true rfl, Nat.le_of_ble_eq_true rfl⟩) hS (fun τ H locs hp hP hS => ?_)
  obtain ⟨hfz, hTx⟩ := hp
  have hJt := I1_fr (τ := τ) hJ0 (fun i hi => hfz i (by omega) (by omega))
  refine lv_aload_n hx hb dX6_well_66 rfl (lv_at hl 2 rfl) ?_
  refine xk_get hx hb hts (inX6_well_X6) hown hK hP 0 (by omega) (ci := 6) e1_well rfl 6 (by decide) (flX6_well_45 hts) rfl (.ref (ad 28)) rfl dX6_well_67 ?_
  refine xk_fi (va_runV (As := []) (rest := []) ⟨hx, hb, hml, hown, hts⟩ (k1_firstFault l hI hTx) (cwV 0 hts gX6_well_X3_firstFault rfl rfl rfl (by decide +kernel) ⟨Nat.le_of_ble_eq_true rfl, Nat.le_of_ble_eq_true rfl⟩) (xk_preV X1_ok hK hX hP (xk_recv hK hP 28 (by omega) (ci := 3) e1_text rfl)) rfl rfl hl.1 rfl (lv_room (Nat.le_of_ble_eq_true rfl)) dX6_well_70 ⟨Nat.le_of_ble_eq_true rfl, Nat.le_of_ble_eq_true rfl⟩) hS (fun H locs hP hS => ?_)
  refine xn_eqi (y := nI f) (by rw [hpa]; rfl) ?_
  refine lv_istore (lv' := [(7, .int (nI f)), (6, .int (nI 0)), (5, .ref (ad (1 + k))), (0, .ref (ad 0)), (1, .int (nI k)), (2, .int (nI w)), (3, .int (nI a)), (4, .int (nI m))]) hx hb dX6_well_73 hl (by decide) rfl (fun ls hl => ?_)
  refine lv_iload hx hb dX6_well_75 (lv_at hl 0 rfl) ?_
  refine lv_iconst (v := (-1)) hx hb dX6_well_77 (by decide) ?_
  refine lv_icmp_eq (tgt := 87) hx hb dX6_well_78 (by decide) (fun c_78 => absurd c_78 (m1_ne (parse_lt hpa hm60))) (fun c_78 => ?_)
  refine lv_bipush (v := (-100)) hx hb dX6_well_81 (by decide) ?_
  refine lv_iload hx hb dX6_well_83 (lv_at hl 0 rfl) ?_
  refine lv_isub hx hb dX6_well_85 ?_
  exact xk_iret hx hb hr (vp_nar_int _) X1_ok hK hX hP hS hlk dX6_well_86 (⟨rfl, hJt⟩)

set_option maxRecDepth 20000 in
theorem flX6_well_90 {s : State} {av : Array Value} (hts : ∀ w ∈ wsX6_well, w.before av s = true) : (Cond.fieldLink RX6 90 "WellBack" "thingCount" "I").before av s = true := hts _ (by decide +kernel)
set_option maxHeartbeats 4000000 in
set_option maxRecDepth 100000 in
theorem a1_well_ok (l : Launch) {D : va_G} {ca : Nat → ClassId} {ad : Nat → Nat} (hI : Ij ad 34) {σ : Sg} {n p g rn : Nat} {d : Nat → Nat} {th rd : Nat → Nat → Nat} {sl sn : Nat → Nat} {sc : Nat → Nat → Int32} {ft tr : Int32} {k : Nat} {w : Nat} {a m : Nat} {nn : Nat} (hJ : I1 n p g rn d th rd sl sn sc ft tr σ) (hk4 : k < 4) (hw2 : w ≤ 2) (hLw : sl k = w) (ham : a + m ≤ sn k) (hpa : parse (cd (fun j => sc k (a + j)) m) m = .inr nn) : C1i l D ca ad yX6_well wsX6_well { frames := 5, cells := 0, slots := 0, locals := 111 } [.ref (ad 0), .int (nI k), .int (nI w), .int (nI a), .int (nI m)] σ (fun r σ' => r = nI nn ∧ I1 nn (pls (cd (fun j => sc k (a + j)) m) 6 0) (dv (cd (fun j => sc k (a + j)) m 1)) 0 (fun j => dv (cd (fun j => sc k (a + j)) m (2 + j))) (pth (cd (fun j => sc k (a + j)) m) (pls (cd (fun j => sc k (a + j)) m) 6 0)) rd sl sn sc (nI 0) tr σ') := by
  refine xk_entry cX6_well 8 (some .int) (by decide) rfl (Nat.le_of_ble_eq_true rfl) ?_
  intro pP eE sS mM below meth cC hx hb hml hr hts hown hlk hP hK hX hS ls hl
  have hl : lv_has ls 8 [(0, .ref (ad 0)), (1, .int (nI k)), (2, .int (nI w)), (3, .int (nI a)), (4, .int (nI m))] := hl
  obtain ⟨hT, hR, hRd, hSh, hnp, hft, htr⟩ := id hJ
  have hn5 := hT.2.2.1
  have hg9 := hT.2.2.2.1
  have hp6 := hR.2.1
  have hrn8 := hRd.2.1
  refine lv_aload_n hx hb dX6_well_0 rfl (lv_at hl 0 rfl) ?_
  refine lv_iconst (v := nI 0) hx hb dX6_well_1 (by decide) ?_
  refine xk_put hx hb hts (inX6_well_X6) tyX6 tyX6_ok nmX6 hown hK hI hP hS 0 (by omega) (ci := 6) e1_well rfl 11 (by decide) (flX6_well_59 hts) rfl rfl (by decide +kernel) (Nat.le_of_ble_eq_true rfl) e1_loc (by rw [e1_well]; simp [up]) dX6_well_2 (fun H locs hP hS => ?_)
  obtain ⟨σ0, hσ0⟩ : ∃ τ, τ = up σ 0 11 (nI 0) := ⟨_, rfl⟩
  rw [← hσ0] at hP
  have hJ0 : I1 n p g rn d th rd sl sn sc (nI 0) tr σ0 := by rw [hσ0]; exact I1_ft hJ
  obtain ⟨hT, hR, hRd, hSh, -, hft, htr⟩ := id hJ0
  have hZ := hSh k hk4
  have hL : sl k < 3 := by omega
  have hk60 := (hZ.2.2 hL).2.1
  refine lv_aload_n hx hb dX6_well_5 rfl (lv_at hl 0 rfl) ?_
  refine lv_iload_n hx hb dX6_well_6 rfl (lv_at hl 1 rfl) ?_
  refine xk_fa (va_runV (As := [.int (nI k)]) (rest := []) ⟨hx, hb, hml, hown, hts⟩ (k1_sheetAt_in l hI (x := k)  (by omega)) (cwV 1 hts gX6_well_X6_sheetAt rfl rfl rfl (by decide +kernel) ⟨Nat.le_of_ble_eq_true rfl, Nat.le_of_ble_eq_true rfl⟩) (xk_preV X1_ok hK hX hP (xk_recv hK hP 0 (by omega) (ci := 6) e1_well rfl)) rfl rfl hl.1 rfl (lv_room (Nat.le_of_ble_eq_true rfl)) dX6_well_7 ⟨Nat.le_of_ble_eq_true rfl, Nat.le_of_ble_eq_true rfl⟩) hS (fun H locs hP hS => ?_)
  refine lv_astore (lv' := [(5, .ref (ad (1 + k))), (0, .ref (ad 0)), (1, .int (nI k)), (2, .int (nI w)), (3, .int (nI a)), (4, .int (nI m))]) hx hb dX6_well_10 hl (by decide) rfl (fun ls hl => ?_)
  refine lv_aload hx hb dX6_well_12 (lv_at hl 0 rfl) ?_
  refine lv_ifnonnull (tgt := 19) hx hb dX6_well_14 (by decide) ?_
  refine lv_iload_n hx hb dX6_well_19 rfl (lv_at hl 3 rfl) ?_
  refine lv_iconst (v := nI 0) hx hb dX6_well_20 (by decide) ?_
  refine lv_iconst (v := nI 2) hx hb dX6_well_21 (by decide) ?_
  refine xk_fi (va_runS (As := [.int (nI w), .int (nI 0), .int (nI 2)]) (rest := []) ⟨hx, hb, hml, hown, hts⟩ (k1_within_t l hI (nI w) (nI 0) (nI 2) (xn_in (by omega) (by omega) (by omega))) (va_cwS 3 hts gX6_well_X6_within rfl rfl rfl (by decide +kernel) ⟨Nat.le_of_ble_eq_true rfl, Nat.le_of_ble_eq_true rfl⟩) (xk_preS X1_ok hK hX hP) rfl rfl hl.1 rfl (lv_room (Nat.le_of_ble_eq_true rfl)) dX6_well_22 ⟨Nat.le_of_ble_eq_true rfl, Nat.le_of_ble_eq_true rfl⟩) hS (fun H locs hP hS => ?_)
  refine xn_zne (tgt := 31) hx hb dX6_well_25 (by decide) (by omega) (fun c_25 => ?_) (fun c_25 => absurd c_25 (by omega))
  refine lv_aload hx hb dX6_well_31 (lv_at hl 0 rfl) ?_
  refine lv_iload_n hx hb dX6_well_33 rfl (lv_at hl 3 rfl) ?_
  refine lv_iload_n hx hb dX6_well_34 rfl (lv_at hl 4 rfl) ?_
  refine lv_iload hx hb dX6_well_35 (lv_at hl 5 rfl) ?_
  refine xk_fi (va_runV (As := [.int (nI w), .int (nI a), .int (nI m)]) (rest := []) ⟨hx, hb, hml, hown, hts⟩ (k1_foc_ok l hI (w := w) (by omega) (by omega) hZ hw2 hLw ham) (cwV 3 hts gX6_well_X2_faultOfCells rfl rfl rfl (by decide +kernel) ⟨Nat.le_of_ble_eq_true rfl, Nat.le_of_ble_eq_true rfl⟩) (xk_preV X1_ok hK hX hP (xk_recv hK hP (1 + k) (by omega) (ci := 2) (e1_sheet (by omega) (by omega)) rfl)) rfl rfl hl.1 rfl (lv_room (Nat.le_of_ble_eq_true rfl)) dX6_well_37 ⟨Nat.le_of_ble_eq_true rfl, Nat.le_of_ble_eq_true rfl⟩) hS (fun H locs hP hS => ?_)
  refine lv_istore (lv' := [(6, .int (nI 0)), (5, .ref (ad (1 + k))), (0, .ref (ad 0)), (1, .int (nI k)), (2, .int (nI w)), (3, .int (nI a)), (4, .int (nI m))]) hx hb dX6_well_40 hl (by decide) rfl (fun ls hl => ?_)
  refine lv_iload hx hb dX6_well_42 (lv_at hl 0 rfl) ?_
  refine xn_zeq (tgt := 54) hx hb dX6_well_44 (by decide) (by omega) (fun c_44 => ?_) (fun c_44 => absurd c_44 (by omega))
  refine lv_aload_n hx hb dX6_well_54 rfl (lv_at hl 2 rfl) ?_
  refine xk_get hx hb hts (inX6_well_X6) hown hK hP 0 (by omega) (ci := 6) e1_well rfl 6 (by decide) (flX6_well_45 hts) rfl (.ref (ad 28)) rfl dX6_well_55 ?_
  refine lv_aload hx hb dX6_well_58 (lv_at hl 1 rfl) ?_
  refine lv_iload_n hx hb dX6_well_60 rfl (lv_at hl 5 rfl) ?_
  refine lv_iload hx hb dX6_well_61 (lv_at hl 6 rfl) ?_
  refine xk_cv (va_runV (As := [.ref (ad (1 + k)), .int (nI a), .int (nI m)]) (rest := []) ⟨hx, hb, hml, hown, hts⟩ (k1_take l hI (k := 1 + k) (a := a) (b := m) (by omega) (by omega) hZ hL ham) (cwV 3 hts gX6_well_X3_take rfl rfl rfl (by decide +kernel) ⟨Nat.le_of_ble_eq_true rfl, Nat.le_of_ble_eq_true rfl⟩) (xk_preV X1_ok hK hX hP (xk_recv hK hP 28 (by omega) (ci := 3) e1_text rfl)) rfl rfl hl.1 rfl (lv_room (Nat.le_of_ble_eq_true rfl)) dX6_well_63 ⟨Nat.le_of_ble_eq_true rfl, Nat.le_of_ble_eq_true rfl⟩) hS (fun τ H locs hp hP hS => ?_)
  obtain ⟨hfz, hTx⟩ := hp
  have hJt := I1_fr (τ := τ) hJ0 (fun i hi => hfz i (by omega) (by omega))
  refine lv_aload_n hx hb dX6_well_66 rfl (lv_at hl 2 rfl) ?_
  refine xk_get hx hb hts (inX6_well_X6) hown hK hP 0 (by omega) (ci := 6) e1_well rfl 6 (by decide) (flX6_well_45 hts) rfl (.ref (ad 28)) rfl dX6_well_67 ?_
  refine xk_fi (va_runV (As := []) (rest := []) ⟨hx, hb, hml, hown, hts⟩ (k1_firstFault l hI hTx) (cwV 0 hts gX6_well_X3_firstFault rfl rfl rfl (by decide +kernel) ⟨Nat.le_of_ble_eq_true rfl, Nat.le_of_ble_eq_true rfl⟩) (xk_preV X1_ok hK hX hP (xk_recv hK hP 28 (by omega) (ci := 3) e1_text rfl)) rfl rfl hl.1 rfl (lv_room (Nat.le_of_ble_eq_true rfl)) dX6_well_70 ⟨Nat.le_of_ble_eq_true rfl, Nat.le_of_ble_eq_true rfl⟩) hS (fun H locs hP hS => ?_)
  refine xn_eqi (y := (-1)) (by rw [hpa]; rfl) ?_
  refine lv_istore (lv' := [(7, .int (-1)), (6, .int (nI 0)), (5, .ref (ad (1 + k))), (0, .ref (ad 0)), (1, .int (nI k)), (2, .int (nI w)), (3, .int (nI a)), (4, .int (nI m))]) hx hb dX6_well_73 hl (by decide) rfl (fun ls hl => ?_)
  refine lv_iload hx hb dX6_well_75 (lv_at hl 0 rfl) ?_
  refine lv_iconst (v := (-1)) hx hb dX6_well_77 (by decide) ?_
  refine lv_icmp_eq (tgt := 87) hx hb dX6_well_78 (by decide) (fun c_78 => ?_) (fun c_78 => absurd rfl c_78)
  refine lv_aload_n hx hb dX6_well_87 rfl (lv_at hl 3 rfl) ?_
  refine xk_cv (va_runV (As := []) (rest := []) ⟨hx, hb, hml, hown, hts⟩ (k1_makeAnew l hI hTx hpa) (cwV 0 hts gX6_well_X6_makeAnew rfl rfl rfl (by decide +kernel) ⟨Nat.le_of_ble_eq_true rfl, Nat.le_of_ble_eq_true rfl⟩) (xk_preV X1_ok hK hX hP (xk_recv hK hP 0 (by omega) (ci := 6) e1_well rfl)) rfl rfl hl.1 rfl (lv_room (Nat.le_of_ble_eq_true rfl)) dX6_well_88 ⟨Nat.le_of_ble_eq_true rfl, Nat.le_of_ble_eq_true rfl⟩) hS (fun ρ H locs hp hP hS => ?_)
  obtain ⟨hf2, hT2, hR2, h10, h11, h12⟩ := hp
  have hpo := parse_ok hpa
  obtain ⟨_, _, _, hSh2, _, hft2, htr2⟩ := hJt
  refine lv_aload_n hx hb dX6_well_91 rfl (lv_at hl 3 rfl) ?_
  refine xk_get hx hb hts (inX6_well_X6) hown hK hP 0 (by omega) (ci := 6) e1_well rfl 9 (by decide) (flX6_well_90 hts) rfl (.int (ρ 0 9)) rfl dX6_well_92 ?_
  refine xn_eqi (y := nI nn) hT2.2.1 ?_
  exact xk_iret hx hb hr (vp_nar_int _) X1_ok hK hX hP hS hlk dX6_well_95 (⟨rfl, ⟨hT2, hR2, ⟨h10, by omega, fun j hj => absurd hj (Nat.not_lt_zero _)⟩, fun j hj => SheetAt_fr (hSh2 j hj) (hf2 _ (by omega) (by omega) (by omega) (by omega)) (hf2 _ (by omega) (by omega) (by omega) (by omega)), ⟨fun _ => hpo.2.1, fun _ => hpo.2.2.2.1⟩, h11.trans hft2, h12.trans htr2⟩⟩)

set_option maxRecDepth 20000 in
theorem flX6_hours_59 {s : State} {av : Array Value} (hts : ∀ w ∈ wsX6_hours, w.before av s = true) : (Cond.fieldLink RX6 59 "WellBack" "latestFault" "I").before av s = true := hts _ (by decide +kernel)
set_option maxRecDepth 20000 in
theorem inX6_hours_X6 : ∀ w ∈ u_ws RX6 TX6 13, w ∈ wsX6_hours := by decide +kernel
set_option maxHeartbeats 4000000 in
set_option maxRecDepth 100000 in
theorem a1_hours_so (l : Launch) {D : va_G} {ca : Nat → ClassId} {ad : Nat → Nat} (hI : Ij ad 34) {σ : Sg} {n p g rn : Nat} {d : Nat → Nat} {th rd : Nat → Nat → Nat} {sl sn : Nat → Nat} {sc : Nat → Nat → Int32} {ft tr : Int32} {k : Int32} {w a m : Int32} {q : Int32} (hJ : I1 n p g rn d th rd sl sn sc ft tr σ) (hko : ∀ j, j < 4 → k ≠ nI j) : C1i l D ca ad yX6_hours wsX6_hours { frames := 5, cells := 0, slots := 0, locals := 135 } [.ref (ad 0), .int k, .int w, .int a, .int m, .int q] σ (fun r σ' => r = -1 ∧ I1 n p g rn d th rd sl sn sc (nI 0) tr σ') := by
  refine xk_entry cX6_hours 8 (some .int) (by decide) rfl (Nat.le_of_ble_eq_true rfl) ?_
  intro pP eE sS mM below meth cC hx hb hml hr hts hown hlk hP hK hX hS ls hl
  have hl : lv_has ls 8 [(0, .ref (ad 0)), (1, .int k), (2, .int w), (3, .int a), (4, .int m), (5, .int q)] := hl
  obtain ⟨hT, hR, hRd, hSh, hnp, hft, htr⟩ := id hJ
  have hn5 := hT.2.2.1
  have hg9 := hT.2.2.2.1
  have hp6 := hR.2.1
  have hrn8 := hRd.2.1
  refine lv_aload_n hx hb dX6_hours_0 rfl (lv_at hl 0 rfl) ?_
  refine lv_iconst (v := nI 0) hx hb dX6_hours_1 (by decide) ?_
  refine xk_put hx hb hts (inX6_hours_X6) tyX6 tyX6_ok nmX6 hown hK hI hP hS 0 (by omega) (ci := 6) e1_well rfl 11 (by decide) (flX6_hours_59 hts) rfl rfl (by decide +kernel) (Nat.le_of_ble_eq_true rfl) e1_loc (by rw [e1_well]; simp [up]) dX6_hours_2 (fun H locs hP hS => ?_)
  obtain ⟨σ0, hσ0⟩ : ∃ τ, τ = up σ 0 11 (nI 0) := ⟨_, rfl⟩
  rw [← hσ0] at hP
  have hJ0 : I1 n p g rn d th rd sl sn sc (nI 0) tr σ0 := by rw [hσ0]; exact I1_ft hJ
  obtain ⟨hT, hR, hRd, hSh, -, hft, htr⟩ := id hJ0
  refine lv_aload_n hx hb dX6_hours_5 rfl (lv_at hl 0 rfl) ?_
  refine lv_iload_n hx hb dX6_hours_6 rfl (lv_at hl 1 rfl) ?_
  refine xk_fz (va_runV (As := [.int k]) (rest := []) ⟨hx, hb, hml, hown, hts⟩ (k1_sheetAt_out l hI (x := k)  (by assumption)) (cwV 1 hts gX6_hours_X6_sheetAt rfl rfl rfl (by decide +kernel) ⟨Nat.le_of_ble_eq_true rfl, Nat.le_of_ble_eq_true rfl⟩) (xk_preV X1_ok hK hX hP (xk_recv hK hP 0 (by omega) (ci := 6) e1_well rfl)) rfl rfl hl.1 rfl (lv_room (Nat.le_of_ble_eq_true rfl)) dX6_hours_7 ⟨Nat.le_of_ble_eq_true rfl, Nat.le_of_ble_eq_true rfl⟩) hS (fun H locs hP hS => ?_)
  refine lv_astoreN (lv' := [(6, .null), (0, .ref (ad 0)), (1, .int k), (2, .int w), (3, .int a), (4, .int m), (5, .int q)]) hx hb dX6_hours_10 hl (by decide) rfl (fun ls hl => ?_)
  refine lv_aloadN hx hb dX6_hours_12 (lv_at hl 0 rfl) ?_
  refine lv_ifnonnullN hx hb dX6_hours_14 ?_
  refine lv_iconst (v := (-1)) hx hb dX6_hours_17 (by decide) ?_
  exact xk_iret hx hb hr (vp_nar_int _) X1_ok hK hX hP hS hlk dX6_hours_18 (⟨rfl, hJ0⟩)

set_option maxHeartbeats 4000000 in
set_option maxRecDepth 100000 in
theorem a1_hours_lo (l : Launch) {D : va_G} {ca : Nat → ClassId} {ad : Nat → Nat} (hI : Ij ad 34) {σ : Sg} {n p g rn : Nat} {d : Nat → Nat} {th rd : Nat → Nat → Nat} {sl sn : Nat → Nat} {sc : Nat → Nat → Int32} {ft tr : Int32} {k : Nat} {w a m : Int32} {q : Int32} (hJ : I1 n p g rn d th rd sl sn sc ft tr σ) (hk4 : k < 4) (hwo : ¬ (nI 0 ≤ w ∧ w ≤ nI 2)) : C1i l D ca ad yX6_hours wsX6_hours { frames := 5, cells := 0, slots := 0, locals := 135 } [.ref (ad 0), .int (nI k), .int w, .int a, .int m, .int q] σ (fun r σ' => r = -2 ∧ I1 n p g rn d th rd sl sn sc (nI 0) tr σ') := by
  refine xk_entry cX6_hours 8 (some .int) (by decide) rfl (Nat.le_of_ble_eq_true rfl) ?_
  intro pP eE sS mM below meth cC hx hb hml hr hts hown hlk hP hK hX hS ls hl
  have hl : lv_has ls 8 [(0, .ref (ad 0)), (1, .int (nI k)), (2, .int w), (3, .int a), (4, .int m), (5, .int q)] := hl
  obtain ⟨hT, hR, hRd, hSh, hnp, hft, htr⟩ := id hJ
  have hn5 := hT.2.2.1
  have hg9 := hT.2.2.2.1
  have hp6 := hR.2.1
  have hrn8 := hRd.2.1
  refine lv_aload_n hx hb dX6_hours_0 rfl (lv_at hl 0 rfl) ?_
  refine lv_iconst (v := nI 0) hx hb dX6_hours_1 (by decide) ?_
  refine xk_put hx hb hts (inX6_hours_X6) tyX6 tyX6_ok nmX6 hown hK hI hP hS 0 (by omega) (ci := 6) e1_well rfl 11 (by decide) (flX6_hours_59 hts) rfl rfl (by decide +kernel) (Nat.le_of_ble_eq_true rfl) e1_loc (by rw [e1_well]; simp [up]) dX6_hours_2 (fun H locs hP hS => ?_)
  obtain ⟨σ0, hσ0⟩ : ∃ τ, τ = up σ 0 11 (nI 0) := ⟨_, rfl⟩
  rw [← hσ0] at hP
  have hJ0 : I1 n p g rn d th rd sl sn sc (nI 0) tr σ0 := by rw [hσ0]; exact I1_ft hJ
  obtain ⟨hT, hR, hRd, hSh, -, hft, htr⟩ := id hJ0
  have hZ := hSh k hk4
  refine lv_aload_n hx hb dX6_hours_5 rfl (lv_at hl 0 rfl) ?_
  refine lv_iload_n hx hb dX6_hours_6 rfl (lv_at hl 1 rfl) ?_
  refine xk_fa (va_runV (As := [.int (nI k)]) (rest := []) ⟨hx, hb, hml, hown, hts⟩ (k1_sheetAt_in l hI (x := k)  (by omega)) (cwV 1 hts gX6_hours_X6_sheetAt rfl rfl rfl (by decide +kernel) ⟨Nat.le_of_ble_eq_true rfl, Nat.le_of_ble_eq_true rfl⟩) (xk_preV X1_ok hK hX hP (xk_recv hK hP 0 (by omega) (ci := 6) e1_well rfl)) rfl rfl hl.1 rfl (lv_room (Nat.le_of_ble_eq_true rfl)) dX6_hours_7 ⟨Nat.le_of_ble_eq_true rfl, Nat.le_of_ble_eq_true rfl⟩) hS (fun H locs hP hS => ?_)
  refine lv_astore (lv' := [(6, .ref (ad (1 + k))), (0, .ref (ad 0)), (1, .int (nI k)), (2, .int w), (3, .int a), (4, .int m), (5, .int q)]) hx hb dX6_hours_10 hl (by decide) rfl (fun ls hl => ?_)
  refine lv_aload hx hb dX6_hours_12 (lv_at hl 0 rfl) ?_
  refine lv_ifnonnull (tgt := 19) hx hb dX6_hours_14 (by decide) ?_
  refine lv_iload_n hx hb dX6_hours_19 rfl (lv_at hl 3 rfl) ?_
  refine lv_iconst (v := nI 0) hx hb dX6_hours_20 (by decide) ?_
  refine lv_iconst (v := nI 2) hx hb dX6_hours_21 (by decide) ?_
  refine xk_fi (va_runS (As := [.int w, .int (nI 0), .int (nI 2)]) (rest := []) ⟨hx, hb, hml, hown, hts⟩ (k1_within_f l hI w (nI 0) (nI 2) (by assumption)) (va_cwS 3 hts gX6_hours_X6_within rfl rfl rfl (by decide +kernel) ⟨Nat.le_of_ble_eq_true rfl, Nat.le_of_ble_eq_true rfl⟩) (xk_preS X1_ok hK hX hP) rfl rfl hl.1 rfl (lv_room (Nat.le_of_ble_eq_true rfl)) dX6_hours_22 ⟨Nat.le_of_ble_eq_true rfl, Nat.le_of_ble_eq_true rfl⟩) hS (fun H locs hP hS => ?_)
  refine xn_zeq (tgt := 36) hx hb dX6_hours_25 (by decide) (by omega) (fun c_25 => ?_) (fun c_25 => absurd c_25 (by omega))
  refine lv_bipush (v := (-2)) hx hb dX6_hours_36 (by decide) ?_
  exact xk_iret hx hb hr (vp_nar_int _) X1_ok hK hX hP hS hlk dX6_hours_38 (⟨rfl, hJ0⟩)

set_option maxHeartbeats 4000000 in
set_option maxRecDepth 100000 in
theorem a1_hours_wo (l : Launch) {D : va_G} {ca : Nat → ClassId} {ad : Nat → Nat} (hI : Ij ad 34) {σ : Sg} {n p g rn : Nat} {d : Nat → Nat} {th rd : Nat → Nat → Nat} {sl sn : Nat → Nat} {sc : Nat → Nat → Int32} {ft tr : Int32} {k : Nat} {w : Nat} {a m : Int32} {q : Int32} (hJ : I1 n p g rn d th rd sl sn sc ft tr σ) (hk4 : k < 4) (hw2 : w ≤ 2) (hq : ¬ ((nI 0 ≤ q ∧ q ≤ nI 2) ∨ (nI 10 ≤ q ∧ q ≤ nI 14))) : C1i l D ca ad yX6_hours wsX6_hours { frames := 5, cells := 0, slots := 0, locals := 135 } [.ref (ad 0), .int (nI k), .int (nI w), .int a, .int m, .int q] σ (fun r σ' => r = -2 ∧ I1 n p g rn d th rd sl sn sc (nI 0) tr σ') := by
  refine xk_entry cX6_hours 8 (some .int) (by decide) rfl (Nat.le_of_ble_eq_true rfl) ?_
  intro pP eE sS mM below meth cC hx hb hml hr hts hown hlk hP hK hX hS ls hl
  have hl : lv_has ls 8 [(0, .ref (ad 0)), (1, .int (nI k)), (2, .int (nI w)), (3, .int a), (4, .int m), (5, .int q)] := hl
  obtain ⟨hT, hR, hRd, hSh, hnp, hft, htr⟩ := id hJ
  have hn5 := hT.2.2.1
  have hg9 := hT.2.2.2.1
  have hp6 := hR.2.1
  have hrn8 := hRd.2.1
  refine lv_aload_n hx hb dX6_hours_0 rfl (lv_at hl 0 rfl) ?_
  refine lv_iconst (v := nI 0) hx hb dX6_hours_1 (by decide) ?_
  refine xk_put hx hb hts (inX6_hours_X6) tyX6 tyX6_ok nmX6 hown hK hI hP hS 0 (by omega) (ci := 6) e1_well rfl 11 (by decide) (flX6_hours_59 hts) rfl rfl (by decide +kernel) (Nat.le_of_ble_eq_true rfl) e1_loc (by rw [e1_well]; simp [up]) dX6_hours_2 (fun H locs hP hS => ?_)
  obtain ⟨σ0, hσ0⟩ : ∃ τ, τ = up σ 0 11 (nI 0) := ⟨_, rfl⟩
  rw [← hσ0] at hP
  have hJ0 : I1 n p g rn d th rd sl sn sc (nI 0) tr σ0 := by rw [hσ0]; exact I1_ft hJ
  obtain ⟨hT, hR, hRd, hSh, -, hft, htr⟩ := id hJ0
  have hZ := hSh k hk4
  refine lv_aload_n hx hb dX6_hours_5 rfl (lv_at hl 0 rfl) ?_
  refine lv_iload_n hx hb dX6_hours_6 rfl (lv_at hl 1 rfl) ?_
  refine xk_fa (va_runV (As := [.int (nI k)]) (rest := []) ⟨hx, hb, hml, hown, hts⟩ (k1_sheetAt_in l hI (x := k)  (by omega)) (cwV 1 hts gX6_hours_X6_sheetAt rfl rfl rfl (by decide +kernel) ⟨Nat.le_of_ble_eq_true rfl, Nat.le_of_ble_eq_true rfl⟩) (xk_preV X1_ok hK hX hP (xk_recv hK hP 0 (by omega) (ci := 6) e1_well rfl)) rfl rfl hl.1 rfl (lv_room (Nat.le_of_ble_eq_true rfl)) dX6_hours_7 ⟨Nat.le_of_ble_eq_true rfl, Nat.le_of_ble_eq_true rfl⟩) hS (fun H locs hP hS => ?_)
  refine lv_astore (lv' := [(6, .ref (ad (1 + k))), (0, .ref (ad 0)), (1, .int (nI k)), (2, .int (nI w)), (3, .int a), (4, .int m), (5, .int q)]) hx hb dX6_hours_10 hl (by decide) rfl (fun ls hl => ?_)
  refine lv_aload hx hb dX6_hours_12 (lv_at hl 0 rfl) ?_
  refine lv_ifnonnull (tgt := 19) hx hb dX6_hours_14 (by decide) ?_
  refine lv_iload_n hx hb dX6_hours_19 rfl (lv_at hl 3 rfl) ?_
  refine lv_iconst (v := nI 0) hx hb dX6_hours_20 (by decide) ?_
  refine lv_iconst (v := nI 2) hx hb dX6_hours_21 (by decide) ?_
  refine xk_fi (va_runS (As := [.int (nI w), .int (nI 0), .int (nI 2)]) (rest := []) ⟨hx, hb, hml, hown, hts⟩ (k1_within_t l hI (nI w) (nI 0) (nI 2) (xn_in (by omega) (by omega) (by omega))) (va_cwS 3 hts gX6_hours_X6_within rfl rfl rfl (by decide +kernel) ⟨Nat.le_of_ble_eq_true rfl, Nat.le_of_ble_eq_true rfl⟩) (xk_preS X1_ok hK hX hP) rfl rfl hl.1 rfl (lv_room (Nat.le_of_ble_eq_true rfl)) dX6_hours_22 ⟨Nat.le_of_ble_eq_true rfl, Nat.le_of_ble_eq_true rfl⟩) hS (fun H locs hP hS => ?_)
  refine xn_zeq (tgt := 36) hx hb dX6_hours_25 (by decide) (by omega) (fun c_25 => absurd c_25 (by omega)) (fun c_25 => ?_)
  refine lv_iload hx hb dX6_hours_28 (lv_at hl 6 rfl) ?_
  refine xk_fi (va_runS (As := [.int q]) (rest := []) ⟨hx, hb, hml, hown, hts⟩ (k1_asksOfHours_f l hI q hq) (va_cwS 1 hts gX6_hours_X6_asksOfHours rfl rfl rfl (by decide +kernel) ⟨Nat.le_of_ble_eq_true rfl, Nat.le_of_ble_eq_true rfl⟩) (xk_preS X1_ok hK hX hP) rfl rfl hl.1 rfl (lv_room (Nat.le_of_ble_eq_true rfl)) dX6_hours_30 ⟨Nat.le_of_ble_eq_true rfl, Nat.le_of_ble_eq_true rfl⟩) hS (fun H locs hP hS => ?_)
  refine xn_zne (tgt := 39) hx hb dX6_hours_33 (by decide) (by omega) (fun c_33 => absurd c_33 (by omega)) (fun c_33 => ?_)
  refine lv_bipush (v := (-2)) hx hb dX6_hours_36 (by decide) ?_
  exact xk_iret hx hb hr (vp_nar_int _) X1_ok hK hX hP hS hlk dX6_hours_38 (⟨rfl, hJ0⟩)

set_option maxHeartbeats 4000000 in
set_option maxRecDepth 100000 in
theorem a1_hours_fl (l : Launch) {D : va_G} {ca : Nat → ClassId} {ad : Nat → Nat} (hI : Ij ad 34) {σ : Sg} {n p g rn : Nat} {d : Nat → Nat} {th rd : Nat → Nat → Nat} {sl sn : Nat → Nat} {sc : Nat → Nat → Int32} {ft tr : Int32} {k : Nat} {w : Nat} {a m : Int32} {q : Int32} (hJ : I1 n p g rn d th rd sl sn sc ft tr σ) (hk4 : k < 4) (hw2 : w ≤ 2) (hq : (nI 0 ≤ q ∧ q ≤ nI 2) ∨ (nI 10 ≤ q ∧ q ≤ nI 14)) (hf : fL (sl k) w ≠ 0) : C1i l D ca ad yX6_hours wsX6_hours { frames := 5, cells := 0, slots := 0, locals := 135 } [.ref (ad 0), .int (nI k), .int (nI w), .int a, .int m, .int q] σ (fun r σ' => r = (-10) - nI (fL (sl k) w) ∧ I1 n p g rn d th rd sl sn sc (nI (fL (sl k) w)) tr σ') := by
  refine xk_entry cX6_hours 8 (some .int) (by decide) rfl (Nat.le_of_ble_eq_true rfl) ?_
  intro pP eE sS mM below meth cC hx hb hml hr hts hown hlk hP hK hX hS ls hl
  have hl : lv_has ls 8 [(0, .ref (ad 0)), (1, .int (nI k)), (2, .int (nI w)), (3, .int a), (4, .int m), (5, .int q)] := hl
  obtain ⟨hT, hR, hRd, hSh, hnp, hft, htr⟩ := id hJ
  have hn5 := hT.2.2.1
  have hg9 := hT.2.2.2.1
  have hp6 := hR.2.1
  have hrn8 := hRd.2.1
  refine lv_aload_n hx hb dX6_hours_0 rfl (lv_at hl 0 rfl) ?_
  refine lv_iconst (v := nI 0) hx hb dX6_hours_1 (by decide) ?_
  refine xk_put hx hb hts (inX6_hours_X6) tyX6 tyX6_ok nmX6 hown hK hI hP hS 0 (by omega) (ci := 6) e1_well rfl 11 (by decide) (flX6_hours_59 hts) rfl rfl (by decide +kernel) (Nat.le_of_ble_eq_true rfl) e1_loc (by rw [e1_well]; simp [up]) dX6_hours_2 (fun H locs hP hS => ?_)
  obtain ⟨σ0, hσ0⟩ : ∃ τ, τ = up σ 0 11 (nI 0) := ⟨_, rfl⟩
  rw [← hσ0] at hP
  have hJ0 : I1 n p g rn d th rd sl sn sc (nI 0) tr σ0 := by rw [hσ0]; exact I1_ft hJ
  obtain ⟨hT, hR, hRd, hSh, -, hft, htr⟩ := id hJ0
  have hZ := hSh k hk4
  have hfl : fL (sl k) w ≤ 2 := by unfold fL; split <;> (try split) <;> omega
  refine lv_aload_n hx hb dX6_hours_5 rfl (lv_at hl 0 rfl) ?_
  refine lv_iload_n hx hb dX6_hours_6 rfl (lv_at hl 1 rfl) ?_
  refine xk_fa (va_runV (As := [.int (nI k)]) (rest := []) ⟨hx, hb, hml, hown, hts⟩ (k1_sheetAt_in l hI (x := k)  (by omega)) (cwV 1 hts gX6_hours_X6_sheetAt rfl rfl rfl (by decide +kernel) ⟨Nat.le_of_ble_eq_true rfl, Nat.le_of_ble_eq_true rfl⟩) (xk_preV X1_ok hK hX hP (xk_recv hK hP 0 (by omega) (ci := 6) e1_well rfl)) rfl rfl hl.1 rfl (lv_room (Nat.le_of_ble_eq_true rfl)) dX6_hours_7 ⟨Nat.le_of_ble_eq_true rfl, Nat.le_of_ble_eq_true rfl⟩) hS (fun H locs hP hS => ?_)
  refine lv_astore (lv' := [(6, .ref (ad (1 + k))), (0, .ref (ad 0)), (1, .int (nI k)), (2, .int (nI w)), (3, .int a), (4, .int m), (5, .int q)]) hx hb dX6_hours_10 hl (by decide) rfl (fun ls hl => ?_)
  refine lv_aload hx hb dX6_hours_12 (lv_at hl 0 rfl) ?_
  refine lv_ifnonnull (tgt := 19) hx hb dX6_hours_14 (by decide) ?_
  refine lv_iload_n hx hb dX6_hours_19 rfl (lv_at hl 3 rfl) ?_
  refine lv_iconst (v := nI 0) hx hb dX6_hours_20 (by decide) ?_
  refine lv_iconst (v := nI 2) hx hb dX6_hours_21 (by decide) ?_
  refine xk_fi (va_runS (As := [.int (nI w), .int (nI 0), .int (nI 2)]) (rest := []) ⟨hx, hb, hml, hown, hts⟩ (k1_within_t l hI (nI w) (nI 0) (nI 2) (xn_in (by omega) (by omega) (by omega))) (va_cwS 3 hts gX6_hours_X6_within rfl rfl rfl (by decide +kernel) ⟨Nat.le_of_ble_eq_true rfl, Nat.le_of_ble_eq_true rfl⟩) (xk_preS X1_ok hK hX hP) rfl rfl hl.1 rfl (lv_room (Nat.le_of_ble_eq_true rfl)) dX6_hours_22 ⟨Nat.le_of_ble_eq_true rfl, Nat.le_of_ble_eq_true rfl⟩) hS (fun H locs hP hS => ?_)
  refine xn_zeq (tgt := 36) hx hb dX6_hours_25 (by decide) (by omega) (fun c_25 => absurd c_25 (by omega)) (fun c_25 => ?_)
  refine lv_iload hx hb dX6_hours_28 (lv_at hl 6 rfl) ?_
  refine xk_fi (va_runS (As := [.int q]) (rest := []) ⟨hx, hb, hml, hown, hts⟩ (k1_asksOfHours_t l hI q hq) (va_cwS 1 hts gX6_hours_X6_asksOfHours rfl rfl rfl (by decide +kernel) ⟨Nat.le_of_ble_eq_true rfl, Nat.le_of_ble_eq_true rfl⟩) (xk_preS X1_ok hK hX hP) rfl rfl hl.1 rfl (lv_room (Nat.le_of_ble_eq_true rfl)) dX6_hours_30 ⟨Nat.le_of_ble_eq_true rfl, Nat.le_of_ble_eq_true rfl⟩) hS (fun H locs hP hS => ?_)
  refine xn_zne (tgt := 39) hx hb dX6_hours_33 (by decide) (by omega) (fun c_33 => ?_) (fun c_33 => absurd c_33 (by omega))
  refine lv_aload hx hb dX6_hours_39 (lv_at hl 0 rfl) ?_
  refine lv_iload_n hx hb dX6_hours_41 rfl (lv_at hl 3 rfl) ?_
  refine lv_iload_n hx hb dX6_hours_42 rfl (lv_at hl 4 rfl) ?_
  refine lv_iload hx hb dX6_hours_43 (lv_at hl 5 rfl) ?_
  refine xk_fi (va_runV (As := [.int (nI w), .int a, .int m]) (rest := []) ⟨hx, hb, hml, hown, hts⟩ (k1_foc_lane l hI (w := w) (by omega) (by omega) hZ hw2 hf) (cwV 3 hts gX6_hours_X2_faultOfCells rfl rfl rfl (by decide +kernel) ⟨Nat.le_of_ble_eq_true rfl, Nat.le_of_ble_eq_true rfl⟩) (xk_preV X1_ok hK hX hP (xk_recv hK hP (1 + k) (by omega) (ci := 2) (e1_sheet (by omega) (by omega)) rfl)) rfl rfl hl.1 rfl (lv_room (Nat.le_of_ble_eq_true rfl)) dX6_hours_45 ⟨Nat.le_of_ble_eq_true rfl, Nat.le_of_ble_eq_true rfl⟩) hS (fun H locs hP hS => ?_)
  refine lv_istore (lv' := [(7, .int (nI (fL (sl k) w))), (6, .ref (ad (1 + k))), (0, .ref (ad 0)), (1, .int (nI k)), (2, .int (nI w)), (3, .int a), (4, .int m), (5, .int q)]) hx hb dX6_hours_48 hl (by decide) rfl (fun ls hl => ?_)
  refine lv_iload hx hb dX6_hours_50 (lv_at hl 0 rfl) ?_
  refine xn_zeq (tgt := 62) hx hb dX6_hours_52 (by decide) (by omega) (fun c_52 => absurd c_52 (by omega)) (fun c_52 => ?_)
  refine lv_aload_n hx hb dX6_hours_55 rfl (lv_at hl 2 rfl) ?_
  refine lv_iload hx hb dX6_hours_56 (lv_at hl 0 rfl) ?_
  refine xk_fi (va_runV (As := [.int (nI (fL (sl k) w))]) (rest := []) ⟨hx, hb, hml, hown, hts⟩ (k1_faulted l hI (fL (sl k) w)) (cwV 1 hts gX6_hours_X6_faulted rfl rfl rfl (by decide +kernel) ⟨Nat.le_of_ble_eq_true rfl, Nat.le_of_ble_eq_true rfl⟩) (xk_preV X1_ok hK hX hP (xk_recv hK hP 0 (by omega) (ci := 6) e1_well rfl)) rfl rfl hl.1 rfl (lv_room (Nat.le_of_ble_eq_true rfl)) dX6_hours_58 ⟨Nat.le_of_ble_eq_true rfl, Nat.le_of_ble_eq_true rfl⟩) hS (fun H locs hP hS => ?_)
  exact xk_iret hx hb hr (vp_nar_int _) X1_ok hK hX hP hS hlk dX6_hours_61 (⟨rfl, I1_ft hJ0⟩)

set_option maxHeartbeats 4000000 in
set_option maxRecDepth 100000 in
theorem a1_hours_ne (l : Launch) {D : va_G} {ca : Nat → ClassId} {ad : Nat → Nat} (hI : Ij ad 34) {σ : Sg} {n p g rn : Nat} {d : Nat → Nat} {th rd : Nat → Nat → Nat} {sl sn : Nat → Nat} {sc : Nat → Nat → Int32} {ft tr : Int32} {k : Nat} {w : Nat} {a m : Int32} {q : Int32} (hJ : I1 n p g rn d th rd sl sn sc ft tr σ) (hk4 : k < 4) (hw2 : w ≤ 2) (hq : (nI 0 ≤ q ∧ q ≤ nI 2) ∨ (nI 10 ≤ q ∧ q ≤ nI 14)) (hLw : sl k = w) (hm0 : m < 0) : C1i l D ca ad yX6_hours wsX6_hours { frames := 5, cells := 0, slots := 0, locals := 135 } [.ref (ad 0), .int (nI k), .int (nI w), .int a, .int m, .int q] σ (fun r σ' => r = (-10) - nI 4 ∧ I1 n p g rn d th rd sl sn sc (nI 4) tr σ') := by
  refine xk_entry cX6_hours 8 (some .int) (by decide) rfl (Nat.le_of_ble_eq_true rfl) ?_
  intro pP eE sS mM below meth cC hx hb hml hr hts hown hlk hP hK hX hS ls hl
  have hl : lv_has ls 8 [(0, .ref (ad 0)), (1, .int (nI k)), (2, .int (nI w)), (3, .int a), (4, .int m), (5, .int q)] := hl
  obtain ⟨hT, hR, hRd, hSh, hnp, hft, htr⟩ := id hJ
  have hn5 := hT.2.2.1
  have hg9 := hT.2.2.2.1
  have hp6 := hR.2.1
  have hrn8 := hRd.2.1
  refine lv_aload_n hx hb dX6_hours_0 rfl (lv_at hl 0 rfl) ?_
  refine lv_iconst (v := nI 0) hx hb dX6_hours_1 (by decide) ?_
  refine xk_put hx hb hts (inX6_hours_X6) tyX6 tyX6_ok nmX6 hown hK hI hP hS 0 (by omega) (ci := 6) e1_well rfl 11 (by decide) (flX6_hours_59 hts) rfl rfl (by decide +kernel) (Nat.le_of_ble_eq_true rfl) e1_loc (by rw [e1_well]; simp [up]) dX6_hours_2 (fun H locs hP hS => ?_)
  obtain ⟨σ0, hσ0⟩ : ∃ τ, τ = up σ 0 11 (nI 0) := ⟨_, rfl⟩
  rw [← hσ0] at hP
  have hJ0 : I1 n p g rn d th rd sl sn sc (nI 0) tr σ0 := by rw [hσ0]; exact I1_ft hJ
  obtain ⟨hT, hR, hRd, hSh, -, hft, htr⟩ := id hJ0
  have hZ := hSh k hk4
  have hfl : fL (sl k) w ≤ 2 := by unfold fL; split <;> (try split) <;> omega
  refine lv_aload_n hx hb dX6_hours_5 rfl (lv_at hl 0 rfl) ?_
  refine lv_iload_n hx hb dX6_hours_6 rfl (lv_at hl 1 rfl) ?_
  refine xk_fa (va_runV (As := [.int (nI k)]) (rest := []) ⟨hx, hb, hml, hown, hts⟩ (k1_sheetAt_in l hI (x := k)  (by omega)) (cwV 1 hts gX6_hours_X6_sheetAt rfl rfl rfl (by decide +kernel) ⟨Nat.le_of_ble_eq_true rfl, Nat.le_of_ble_eq_true rfl⟩) (xk_preV X1_ok hK hX hP (xk_recv hK hP 0 (by omega) (ci := 6) e1_well rfl)) rfl rfl hl.1 rfl (lv_room (Nat.le_of_ble_eq_true rfl)) dX6_hours_7 ⟨Nat.le_of_ble_eq_true rfl, Nat.le_of_ble_eq_true rfl⟩) hS (fun H locs hP hS => ?_)
  refine lv_astore (lv' := [(6, .ref (ad (1 + k))), (0, .ref (ad 0)), (1, .int (nI k)), (2, .int (nI w)), (3, .int a), (4, .int m), (5, .int q)]) hx hb dX6_hours_10 hl (by decide) rfl (fun ls hl => ?_)
  refine lv_aload hx hb dX6_hours_12 (lv_at hl 0 rfl) ?_
  refine lv_ifnonnull (tgt := 19) hx hb dX6_hours_14 (by decide) ?_
  refine lv_iload_n hx hb dX6_hours_19 rfl (lv_at hl 3 rfl) ?_
  refine lv_iconst (v := nI 0) hx hb dX6_hours_20 (by decide) ?_
  refine lv_iconst (v := nI 2) hx hb dX6_hours_21 (by decide) ?_
  refine xk_fi (va_runS (As := [.int (nI w), .int (nI 0), .int (nI 2)]) (rest := []) ⟨hx, hb, hml, hown, hts⟩ (k1_within_t l hI (nI w) (nI 0) (nI 2) (xn_in (by omega) (by omega) (by omega))) (va_cwS 3 hts gX6_hours_X6_within rfl rfl rfl (by decide +kernel) ⟨Nat.le_of_ble_eq_true rfl, Nat.le_of_ble_eq_true rfl⟩) (xk_preS X1_ok hK hX hP) rfl rfl hl.1 rfl (lv_room (Nat.le_of_ble_eq_true rfl)) dX6_hours_22 ⟨Nat.le_of_ble_eq_true rfl, Nat.le_of_ble_eq_true rfl⟩) hS (fun H locs hP hS => ?_)
  refine xn_zeq (tgt := 36) hx hb dX6_hours_25 (by decide) (by omega) (fun c_25 => absurd c_25 (by omega)) (fun c_25 => ?_)
  refine lv_iload hx hb dX6_hours_28 (lv_at hl 6 rfl) ?_
  refine xk_fi (va_runS (As := [.int q]) (rest := []) ⟨hx, hb, hml, hown, hts⟩ (k1_asksOfHours_t l hI q hq) (va_cwS 1 hts gX6_hours_X6_asksOfHours rfl rfl rfl (by decide +kernel) ⟨Nat.le_of_ble_eq_true rfl, Nat.le_of_ble_eq_true rfl⟩) (xk_preS X1_ok hK hX hP) rfl rfl hl.1 rfl (lv_room (Nat.le_of_ble_eq_true rfl)) dX6_hours_30 ⟨Nat.le_of_ble_eq_true rfl, Nat.le_of_ble_eq_true rfl⟩) hS (fun H locs hP hS => ?_)
  refine xn_zne (tgt := 39) hx hb dX6_hours_33 (by decide) (by omega) (fun c_33 => ?_) (fun c_33 => absurd c_33 (by omega))
  refine lv_aload hx hb dX6_hours_39 (lv_at hl 0 rfl) ?_
  refine lv_iload_n hx hb dX6_hours_41 rfl (lv_at hl 3 rfl) ?_
  refine lv_iload_n hx hb dX6_hours_42 rfl (lv_at hl 4 rfl) ?_
  refine lv_iload hx hb dX6_hours_43 (lv_at hl 5 rfl) ?_
  refine xk_fi (va_runV (As := [.int (nI w), .int a, .int m]) (rest := []) ⟨hx, hb, hml, hown, hts⟩ (k1_foc_size l hI (w := w) (by omega) (by omega) hZ hw2 hLw hm0) (cwV 3 hts gX6_hours_X2_faultOfCells rfl rfl rfl (by decide +kernel) ⟨Nat.le_of_ble_eq_true rfl, Nat.le_of_ble_eq_true rfl⟩) (xk_preV X1_ok hK hX hP (xk_recv hK hP (1 + k) (by omega) (ci := 2) (e1_sheet (by omega) (by omega)) rfl)) rfl rfl hl.1 rfl (lv_room (Nat.le_of_ble_eq_true rfl)) dX6_hours_45 ⟨Nat.le_of_ble_eq_true rfl, Nat.le_of_ble_eq_true rfl⟩) hS (fun H locs hP hS => ?_)
  refine lv_istore (lv' := [(7, .int (nI 4)), (6, .ref (ad (1 + k))), (0, .ref (ad 0)), (1, .int (nI k)), (2, .int (nI w)), (3, .int a), (4, .int m), (5, .int q)]) hx hb dX6_hours_48 hl (by decide) rfl (fun ls hl => ?_)
  refine lv_iload hx hb dX6_hours_50 (lv_at hl 0 rfl) ?_
  refine xn_zeq (tgt := 62) hx hb dX6_hours_52 (by decide) (by omega) (fun c_52 => absurd c_52 (by omega)) (fun c_52 => ?_)
  refine lv_aload_n hx hb dX6_hours_55 rfl (lv_at hl 2 rfl) ?_
  refine lv_iload hx hb dX6_hours_56 (lv_at hl 0 rfl) ?_
  refine xk_fi (va_runV (As := [.int (nI 4)]) (rest := []) ⟨hx, hb, hml, hown, hts⟩ (k1_faulted l hI 4) (cwV 1 hts gX6_hours_X6_faulted rfl rfl rfl (by decide +kernel) ⟨Nat.le_of_ble_eq_true rfl, Nat.le_of_ble_eq_true rfl⟩) (xk_preV X1_ok hK hX hP (xk_recv hK hP 0 (by omega) (ci := 6) e1_well rfl)) rfl rfl hl.1 rfl (lv_room (Nat.le_of_ble_eq_true rfl)) dX6_hours_58 ⟨Nat.le_of_ble_eq_true rfl, Nat.le_of_ble_eq_true rfl⟩) hS (fun H locs hP hS => ?_)
  exact xk_iret hx hb hr (vp_nar_int _) X1_ok hK hX hP hS hlk dX6_hours_61 (⟨rfl, I1_ft hJ0⟩)

set_option maxHeartbeats 4000000 in
set_option maxRecDepth 100000 in
theorem a1_hours_io (l : Launch) {D : va_G} {ca : Nat → ClassId} {ad : Nat → Nat} (hI : Ij ad 34) {σ : Sg} {n p g rn : Nat} {d : Nat → Nat} {th rd : Nat → Nat → Nat} {sl sn : Nat → Nat} {sc : Nat → Nat → Int32} {ft tr : Int32} {k : Nat} {w : Nat} {a m : Int32} {q : Int32} (hJ : I1 n p g rn d th rd sl sn sc ft tr σ) (hk4 : k < 4) (hw2 : w ≤ 2) (hq : (nI 0 ≤ q ∧ q ≤ nI 2) ∨ (nI 10 ≤ q ∧ q ≤ nI 14)) (hLw : sl k = w) (hm0 : ¬ m < 0) (hxy : ∀ u v, u + v ≤ sn k → ¬ (a = nI u ∧ m = nI v)) : C1i l D ca ad yX6_hours wsX6_hours { frames := 5, cells := 0, slots := 0, locals := 135 } [.ref (ad 0), .int (nI k), .int (nI w), .int a, .int m, .int q] σ (fun r σ' => r = (-10) - nI 3 ∧ I1 n p g rn d th rd sl sn sc (nI 3) tr σ') := by
  refine xk_entry cX6_hours 8 (some .int) (by decide) rfl (Nat.le_of_ble_eq_true rfl) ?_
  intro pP eE sS mM below meth cC hx hb hml hr hts hown hlk hP hK hX hS ls hl
  have hl : lv_has ls 8 [(0, .ref (ad 0)), (1, .int (nI k)), (2, .int (nI w)), (3, .int a), (4, .int m), (5, .int q)] := hl
  obtain ⟨hT, hR, hRd, hSh, hnp, hft, htr⟩ := id hJ
  have hn5 := hT.2.2.1
  have hg9 := hT.2.2.2.1
  have hp6 := hR.2.1
  have hrn8 := hRd.2.1
  refine lv_aload_n hx hb dX6_hours_0 rfl (lv_at hl 0 rfl) ?_
  refine lv_iconst (v := nI 0) hx hb dX6_hours_1 (by decide) ?_
  refine xk_put hx hb hts (inX6_hours_X6) tyX6 tyX6_ok nmX6 hown hK hI hP hS 0 (by omega) (ci := 6) e1_well rfl 11 (by decide) (flX6_hours_59 hts) rfl rfl (by decide +kernel) (Nat.le_of_ble_eq_true rfl) e1_loc (by rw [e1_well]; simp [up]) dX6_hours_2 (fun H locs hP hS => ?_)
  obtain ⟨σ0, hσ0⟩ : ∃ τ, τ = up σ 0 11 (nI 0) := ⟨_, rfl⟩
  rw [← hσ0] at hP
  have hJ0 : I1 n p g rn d th rd sl sn sc (nI 0) tr σ0 := by rw [hσ0]; exact I1_ft hJ
  obtain ⟨hT, hR, hRd, hSh, -, hft, htr⟩ := id hJ0
  have hZ := hSh k hk4
  have hfl : fL (sl k) w ≤ 2 := by unfold fL; split <;> (try split) <;> omega
  refine lv_aload_n hx hb dX6_hours_5 rfl (lv_at hl 0 rfl) ?_
  refine lv_iload_n hx hb dX6_hours_6 rfl (lv_at hl 1 rfl) ?_
  refine xk_fa (va_runV (As := [.int (nI k)]) (rest := []) ⟨hx, hb, hml, hown, hts⟩ (k1_sheetAt_in l hI (x := k)  (by omega)) (cwV 1 hts gX6_hours_X6_sheetAt rfl rfl rfl (by decide +kernel) ⟨Nat.le_of_ble_eq_true rfl, Nat.le_of_ble_eq_true rfl⟩) (xk_preV X1_ok hK hX hP (xk_recv hK hP 0 (by omega) (ci := 6) e1_well rfl)) rfl rfl hl.1 rfl (lv_room (Nat.le_of_ble_eq_true rfl)) dX6_hours_7 ⟨Nat.le_of_ble_eq_true rfl, Nat.le_of_ble_eq_true rfl⟩) hS (fun H locs hP hS => ?_)
  refine lv_astore (lv' := [(6, .ref (ad (1 + k))), (0, .ref (ad 0)), (1, .int (nI k)), (2, .int (nI w)), (3, .int a), (4, .int m), (5, .int q)]) hx hb dX6_hours_10 hl (by decide) rfl (fun ls hl => ?_)
  refine lv_aload hx hb dX6_hours_12 (lv_at hl 0 rfl) ?_
  refine lv_ifnonnull (tgt := 19) hx hb dX6_hours_14 (by decide) ?_
  refine lv_iload_n hx hb dX6_hours_19 rfl (lv_at hl 3 rfl) ?_
  refine lv_iconst (v := nI 0) hx hb dX6_hours_20 (by decide) ?_
  refine lv_iconst (v := nI 2) hx hb dX6_hours_21 (by decide) ?_
  refine xk_fi (va_runS (As := [.int (nI w), .int (nI 0), .int (nI 2)]) (rest := []) ⟨hx, hb, hml, hown, hts⟩ (k1_within_t l hI (nI w) (nI 0) (nI 2) (xn_in (by omega) (by omega) (by omega))) (va_cwS 3 hts gX6_hours_X6_within rfl rfl rfl (by decide +kernel) ⟨Nat.le_of_ble_eq_true rfl, Nat.le_of_ble_eq_true rfl⟩) (xk_preS X1_ok hK hX hP) rfl rfl hl.1 rfl (lv_room (Nat.le_of_ble_eq_true rfl)) dX6_hours_22 ⟨Nat.le_of_ble_eq_true rfl, Nat.le_of_ble_eq_true rfl⟩) hS (fun H locs hP hS => ?_)
  refine xn_zeq (tgt := 36) hx hb dX6_hours_25 (by decide) (by omega) (fun c_25 => absurd c_25 (by omega)) (fun c_25 => ?_)
  refine lv_iload hx hb dX6_hours_28 (lv_at hl 6 rfl) ?_
  refine xk_fi (va_runS (As := [.int q]) (rest := []) ⟨hx, hb, hml, hown, hts⟩ (k1_asksOfHours_t l hI q hq) (va_cwS 1 hts gX6_hours_X6_asksOfHours rfl rfl rfl (by decide +kernel) ⟨Nat.le_of_ble_eq_true rfl, Nat.le_of_ble_eq_true rfl⟩) (xk_preS X1_ok hK hX hP) rfl rfl hl.1 rfl (lv_room (Nat.le_of_ble_eq_true rfl)) dX6_hours_30 ⟨Nat.le_of_ble_eq_true rfl, Nat.le_of_ble_eq_true rfl⟩) hS (fun H locs hP hS => ?_)
  refine xn_zne (tgt := 39) hx hb dX6_hours_33 (by decide) (by omega) (fun c_33 => ?_) (fun c_33 => absurd c_33 (by omega))
  refine lv_aload hx hb dX6_hours_39 (lv_at hl 0 rfl) ?_
  refine lv_iload_n hx hb dX6_hours_41 rfl (lv_at hl 3 rfl) ?_
  refine lv_iload_n hx hb dX6_hours_42 rfl (lv_at hl 4 rfl) ?_
  refine lv_iload hx hb dX6_hours_43 (lv_at hl 5 rfl) ?_
  refine xk_fi (va_runV (As := [.int (nI w), .int a, .int m]) (rest := []) ⟨hx, hb, hml, hown, hts⟩ (k1_foc_idx l hI (w := w) (by omega) (by omega) hZ hw2 hLw hm0 hxy) (cwV 3 hts gX6_hours_X2_faultOfCells rfl rfl rfl (by decide +kernel) ⟨Nat.le_of_ble_eq_true rfl, Nat.le_of_ble_eq_true rfl⟩) (xk_preV X1_ok hK hX hP (xk_recv hK hP (1 + k) (by omega) (ci := 2) (e1_sheet (by omega) (by omega)) rfl)) rfl rfl hl.1 rfl (lv_room (Nat.le_of_ble_eq_true rfl)) dX6_hours_45 ⟨Nat.le_of_ble_eq_true rfl, Nat.le_of_ble_eq_true rfl⟩) hS (fun H locs hP hS => ?_)
  refine lv_istore (lv' := [(7, .int (nI 3)), (6, .ref (ad (1 + k))), (0, .ref (ad 0)), (1, .int (nI k)), (2, .int (nI w)), (3, .int a), (4, .int m), (5, .int q)]) hx hb dX6_hours_48 hl (by decide) rfl (fun ls hl => ?_)
  refine lv_iload hx hb dX6_hours_50 (lv_at hl 0 rfl) ?_
  refine xn_zeq (tgt := 62) hx hb dX6_hours_52 (by decide) (by omega) (fun c_52 => absurd c_52 (by omega)) (fun c_52 => ?_)
  refine lv_aload_n hx hb dX6_hours_55 rfl (lv_at hl 2 rfl) ?_
  refine lv_iload hx hb dX6_hours_56 (lv_at hl 0 rfl) ?_
  refine xk_fi (va_runV (As := [.int (nI 3)]) (rest := []) ⟨hx, hb, hml, hown, hts⟩ (k1_faulted l hI 3) (cwV 1 hts gX6_hours_X6_faulted rfl rfl rfl (by decide +kernel) ⟨Nat.le_of_ble_eq_true rfl, Nat.le_of_ble_eq_true rfl⟩) (xk_preV X1_ok hK hX hP (xk_recv hK hP 0 (by omega) (ci := 6) e1_well rfl)) rfl rfl hl.1 rfl (lv_room (Nat.le_of_ble_eq_true rfl)) dX6_hours_58 ⟨Nat.le_of_ble_eq_true rfl, Nat.le_of_ble_eq_true rfl⟩) hS (fun H locs hP hS => ?_)
  exact xk_iret hx hb hr (vp_nar_int _) X1_ok hK hX hP hS hlk dX6_hours_61 (⟨rfl, I1_ft hJ0⟩)

set_option maxHeartbeats 4000000 in
set_option maxRecDepth 100000 in
theorem a1_hours_no (l : Launch) {D : va_G} {ca : Nat → ClassId} {ad : Nat → Nat} (hI : Ij ad 34) {σ : Sg} {n p g rn : Nat} {d : Nat → Nat} {th rd : Nat → Nat → Nat} {sl sn : Nat → Nat} {sc : Nat → Nat → Int32} {ft tr : Int32} {k : Nat} {w : Nat} {a m : Nat} {q : Int32} (hJ : I1 n p g rn d th rd sl sn sc ft tr σ) (hk4 : k < 4) (hw2 : w ≤ 2) (hq : (nI 0 ≤ q ∧ q ≤ nI 2) ∨ (nI 10 ≤ q ∧ q ≤ nI 14)) (hLw : sl k = w) (ham : a + m ≤ sn k) (hn0 : n = 0) : C1i l D ca ad yX6_hours wsX6_hours { frames := 5, cells := 0, slots := 0, locals := 135 } [.ref (ad 0), .int (nI k), .int (nI w), .int (nI a), .int (nI m), .int q] σ (fun r σ' => r = -3 ∧ I1 n p g rn d th rd sl sn sc (nI 0) tr σ') := by
  refine xk_entry cX6_hours 8 (some .int) (by decide) rfl (Nat.le_of_ble_eq_true rfl) ?_
  intro pP eE sS mM below meth cC hx hb hml hr hts hown hlk hP hK hX hS ls hl
  have hl : lv_has ls 8 [(0, .ref (ad 0)), (1, .int (nI k)), (2, .int (nI w)), (3, .int (nI a)), (4, .int (nI m)), (5, .int q)] := hl
  obtain ⟨hT, hR, hRd, hSh, hnp, hft, htr⟩ := id hJ
  have hn5 := hT.2.2.1
  have hg9 := hT.2.2.2.1
  have hp6 := hR.2.1
  have hrn8 := hRd.2.1
  refine lv_aload_n hx hb dX6_hours_0 rfl (lv_at hl 0 rfl) ?_
  refine lv_iconst (v := nI 0) hx hb dX6_hours_1 (by decide) ?_
  refine xk_put hx hb hts (inX6_hours_X6) tyX6 tyX6_ok nmX6 hown hK hI hP hS 0 (by omega) (ci := 6) e1_well rfl 11 (by decide) (flX6_hours_59 hts) rfl rfl (by decide +kernel) (Nat.le_of_ble_eq_true rfl) e1_loc (by rw [e1_well]; simp [up]) dX6_hours_2 (fun H locs hP hS => ?_)
  obtain ⟨σ0, hσ0⟩ : ∃ τ, τ = up σ 0 11 (nI 0) := ⟨_, rfl⟩
  rw [← hσ0] at hP
  have hJ0 : I1 n p g rn d th rd sl sn sc (nI 0) tr σ0 := by rw [hσ0]; exact I1_ft hJ
  obtain ⟨hT, hR, hRd, hSh, -, hft, htr⟩ := id hJ0
  have hZ := hSh k hk4
  have hL : sl k < 3 := by omega
  have hk60 := (hZ.2.2 hL).2.1
  refine lv_aload_n hx hb dX6_hours_5 rfl (lv_at hl 0 rfl) ?_
  refine lv_iload_n hx hb dX6_hours_6 rfl (lv_at hl 1 rfl) ?_
  refine xk_fa (va_runV (As := [.int (nI k)]) (rest := []) ⟨hx, hb, hml, hown, hts⟩ (k1_sheetAt_in l hI (x := k)  (by omega)) (cwV 1 hts gX6_hours_X6_sheetAt rfl rfl rfl (by decide +kernel) ⟨Nat.le_of_ble_eq_true rfl, Nat.le_of_ble_eq_true rfl⟩) (xk_preV X1_ok hK hX hP (xk_recv hK hP 0 (by omega) (ci := 6) e1_well rfl)) rfl rfl hl.1 rfl (lv_room (Nat.le_of_ble_eq_true rfl)) dX6_hours_7 ⟨Nat.le_of_ble_eq_true rfl, Nat.le_of_ble_eq_true rfl⟩) hS (fun H locs hP hS => ?_)
  refine lv_astore (lv' := [(6, .ref (ad (1 + k))), (0, .ref (ad 0)), (1, .int (nI k)), (2, .int (nI w)), (3, .int (nI a)), (4, .int (nI m)), (5, .int q)]) hx hb dX6_hours_10 hl (by decide) rfl (fun ls hl => ?_)
  refine lv_aload hx hb dX6_hours_12 (lv_at hl 0 rfl) ?_
  refine lv_ifnonnull (tgt := 19) hx hb dX6_hours_14 (by decide) ?_
  refine lv_iload_n hx hb dX6_hours_19 rfl (lv_at hl 3 rfl) ?_
  refine lv_iconst (v := nI 0) hx hb dX6_hours_20 (by decide) ?_
  refine lv_iconst (v := nI 2) hx hb dX6_hours_21 (by decide) ?_
  refine xk_fi (va_runS (As := [.int (nI w), .int (nI 0), .int (nI 2)]) (rest := []) ⟨hx, hb, hml, hown, hts⟩ (k1_within_t l hI (nI w) (nI 0) (nI 2) (xn_in (by omega) (by omega) (by omega))) (va_cwS 3 hts gX6_hours_X6_within rfl rfl rfl (by decide +kernel) ⟨Nat.le_of_ble_eq_true rfl, Nat.le_of_ble_eq_true rfl⟩) (xk_preS X1_ok hK hX hP) rfl rfl hl.1 rfl (lv_room (Nat.le_of_ble_eq_true rfl)) dX6_hours_22 ⟨Nat.le_of_ble_eq_true rfl, Nat.le_of_ble_eq_true rfl⟩) hS (fun H locs hP hS => ?_)
  refine xn_zeq (tgt := 36) hx hb dX6_hours_25 (by decide) (by omega) (fun c_25 => absurd c_25 (by omega)) (fun c_25 => ?_)
  refine lv_iload hx hb dX6_hours_28 (lv_at hl 6 rfl) ?_
  refine xk_fi (va_runS (As := [.int q]) (rest := []) ⟨hx, hb, hml, hown, hts⟩ (k1_asksOfHours_t l hI q hq) (va_cwS 1 hts gX6_hours_X6_asksOfHours rfl rfl rfl (by decide +kernel) ⟨Nat.le_of_ble_eq_true rfl, Nat.le_of_ble_eq_true rfl⟩) (xk_preS X1_ok hK hX hP) rfl rfl hl.1 rfl (lv_room (Nat.le_of_ble_eq_true rfl)) dX6_hours_30 ⟨Nat.le_of_ble_eq_true rfl, Nat.le_of_ble_eq_true rfl⟩) hS (fun H locs hP hS => ?_)
  refine xn_zne (tgt := 39) hx hb dX6_hours_33 (by decide) (by omega) (fun c_33 => ?_) (fun c_33 => absurd c_33 (by omega))
  refine lv_aload hx hb dX6_hours_39 (lv_at hl 0 rfl) ?_
  refine lv_iload_n hx hb dX6_hours_41 rfl (lv_at hl 3 rfl) ?_
  refine lv_iload_n hx hb dX6_hours_42 rfl (lv_at hl 4 rfl) ?_
  refine lv_iload hx hb dX6_hours_43 (lv_at hl 5 rfl) ?_
  refine xk_fi (va_runV (As := [.int (nI w), .int (nI a), .int (nI m)]) (rest := []) ⟨hx, hb, hml, hown, hts⟩ (k1_foc_ok l hI (w := w) (by omega) (by omega) hZ hw2 hLw ham) (cwV 3 hts gX6_hours_X2_faultOfCells rfl rfl rfl (by decide +kernel) ⟨Nat.le_of_ble_eq_true rfl, Nat.le_of_ble_eq_true rfl⟩) (xk_preV X1_ok hK hX hP (xk_recv hK hP (1 + k) (by omega) (ci := 2) (e1_sheet (by omega) (by omega)) rfl)) rfl rfl hl.1 rfl (lv_room (Nat.le_of_ble_eq_true rfl)) dX6_hours_45 ⟨Nat.le_of_ble_eq_true rfl, Nat.le_of_ble_eq_true rfl⟩) hS (fun H locs hP hS => ?_)
  refine lv_istore (lv' := [(7, .int (nI 0)), (6, .ref (ad (1 + k))), (0, .ref (ad 0)), (1, .int (nI k)), (2, .int (nI w)), (3, .int (nI a)), (4, .int (nI m)), (5, .int q)]) hx hb dX6_hours_48 hl (by decide) rfl (fun ls hl => ?_)
  refine lv_iload hx hb dX6_hours_50 (lv_at hl 0 rfl) ?_
  refine xn_zeq (tgt := 62) hx hb dX6_hours_52 (by decide) (by omega) (fun c_52 => ?_) (fun c_52 => absurd c_52 (by omega))
  refine lv_aload_n hx hb dX6_hours_62 rfl (lv_at hl 2 rfl) ?_
  refine xk_fi (va_runV (As := []) (rest := []) ⟨hx, hb, hml, hown, hts⟩ (k1_hasWell_f l hI hT.2.1 hn5 (by omega)) (cwV 0 hts gX6_hours_X6_hasWell rfl rfl rfl (by decide +kernel) ⟨Nat.le_of_ble_eq_true rfl, Nat.le_of_ble_eq_true rfl⟩) (xk_preV X1_ok hK hX hP (xk_recv hK hP 0 (by omega) (ci := 6) e1_well rfl)) rfl rfl hl.1 rfl (lv_room (Nat.le_of_ble_eq_true rfl)) dX6_hours_63 ⟨Nat.le_of_ble_eq_true rfl, Nat.le_of_ble_eq_true rfl⟩) hS (fun H locs hP hS => ?_)
  refine xn_zne (tgt := 72) hx hb dX6_hours_66 (by decide) (by omega) (fun c_66 => absurd c_66 (by omega)) (fun c_66 => ?_)
  refine lv_bipush (v := (-3)) hx hb dX6_hours_69 (by decide) ?_
  exact xk_iret hx hb hr (vp_nar_int _) X1_ok hK hX hP hS hlk dX6_hours_71 (⟨rfl, hJ0⟩)

set_option maxRecDepth 20000 in
theorem flX6_hours_90 {s : State} {av : Array Value} (hts : ∀ w ∈ wsX6_hours, w.before av s = true) : (Cond.fieldLink RX6 90 "WellBack" "thingCount" "I").before av s = true := hts _ (by decide +kernel)
set_option maxHeartbeats 4000000 in
set_option maxRecDepth 100000 in
theorem a1_hours_nb (l : Launch) {D : va_G} {ca : Nat → ClassId} {ad : Nat → Nat} (hI : Ij ad 34) {σ : Sg} {n p g rn : Nat} {d : Nat → Nat} {th rd : Nat → Nat → Nat} {sl sn : Nat → Nat} {sc : Nat → Nat → Int32} {ft tr : Int32} {k : Nat} {w : Nat} {a m : Nat} {q : Int32} (hJ : I1 n p g rn d th rd sl sn sc ft tr σ) (hk4 : k < 4) (hw2 : w ≤ 2) (hq : (nI 0 ≤ q ∧ q ≤ nI 2) ∨ (nI 10 ≤ q ∧ q ≤ nI 14)) (hLw : sl k = w) (ham : a + m ≤ sn k) (hn0 : 0 < n) (hmn : ¬ m = n) : C1i l D ca ad yX6_hours wsX6_hours { frames := 5, cells := 0, slots := 0, locals := 135 } [.ref (ad 0), .int (nI k), .int (nI w), .int (nI a), .int (nI m), .int q] σ (fun r σ' => r = -2 ∧ I1 n p g rn d th rd sl sn sc (nI 0) tr σ') := by
  refine xk_entry cX6_hours 8 (some .int) (by decide) rfl (Nat.le_of_ble_eq_true rfl) ?_
  intro pP eE sS mM below meth cC hx hb hml hr hts hown hlk hP hK hX hS ls hl
  have hl : lv_has ls 8 [(0, .ref (ad 0)), (1, .int (nI k)), (2, .int (nI w)), (3, .int (nI a)), (4, .int (nI m)), (5, .int q)] := hl
  obtain ⟨hT, hR, hRd, hSh, hnp, hft, htr⟩ := id hJ
  have hn5 := hT.2.2.1
  have hg9 := hT.2.2.2.1
  have hp6 := hR.2.1
  have hrn8 := hRd.2.1
  refine lv_aload_n hx hb dX6_hours_0 rfl (lv_at hl 0 rfl) ?_
  refine lv_iconst (v := nI 0) hx hb dX6_hours_1 (by decide) ?_
  refine xk_put hx hb hts (inX6_hours_X6) tyX6 tyX6_ok nmX6 hown hK hI hP hS 0 (by omega) (ci := 6) e1_well rfl 11 (by decide) (flX6_hours_59 hts) rfl rfl (by decide +kernel) (Nat.le_of_ble_eq_true rfl) e1_loc (by rw [e1_well]; simp [up]) dX6_hours_2 (fun H locs hP hS => ?_)
  obtain ⟨σ0, hσ0⟩ : ∃ τ, τ = up σ 0 11 (nI 0) := ⟨_, rfl⟩
  rw [← hσ0] at hP
  have hJ0 : I1 n p g rn d th rd sl sn sc (nI 0) tr σ0 := by rw [hσ0]; exact I1_ft hJ
  obtain ⟨hT, hR, hRd, hSh, -, hft, htr⟩ := id hJ0
  have hZ := hSh k hk4
  have hL : sl k < 3 := by omega
  have hk60 := (hZ.2.2 hL).2.1
  refine lv_aload_n hx hb dX6_hours_5 rfl (lv_at hl 0 rfl) ?_
  refine lv_iload_n hx hb dX6_hours_6 rfl (lv_at hl 1 rfl) ?_
  refine xk_fa (va_runV (As := [.int (nI k)]) (rest := []) ⟨hx, hb, hml, hown, hts⟩ (k1_sheetAt_in l hI (x := k)  (by omega)) (cwV 1 hts gX6_hours_X6_sheetAt rfl rfl rfl (by decide +kernel) ⟨Nat.le_of_ble_eq_true rfl, Nat.le_of_ble_eq_true rfl⟩) (xk_preV X1_ok hK hX hP (xk_recv hK hP 0 (by omega) (ci := 6) e1_well rfl)) rfl rfl hl.1 rfl (lv_room (Nat.le_of_ble_eq_true rfl)) dX6_hours_7 ⟨Nat.le_of_ble_eq_true rfl, Nat.le_of_ble_eq_true rfl⟩) hS (fun H locs hP hS => ?_)
  refine lv_astore (lv' := [(6, .ref (ad (1 + k))), (0, .ref (ad 0)), (1, .int (nI k)), (2, .int (nI w)), (3, .int (nI a)), (4, .int (nI m)), (5, .int q)]) hx hb dX6_hours_10 hl (by decide) rfl (fun ls hl => ?_)
  refine lv_aload hx hb dX6_hours_12 (lv_at hl 0 rfl) ?_
  refine lv_ifnonnull (tgt := 19) hx hb dX6_hours_14 (by decide) ?_
  refine lv_iload_n hx hb dX6_hours_19 rfl (lv_at hl 3 rfl) ?_
  refine lv_iconst (v := nI 0) hx hb dX6_hours_20 (by decide) ?_
  refine lv_iconst (v := nI 2) hx hb dX6_hours_21 (by decide) ?_
  refine xk_fi (va_runS (As := [.int (nI w), .int (nI 0), .int (nI 2)]) (rest := []) ⟨hx, hb, hml, hown, hts⟩ (k1_within_t l hI (nI w) (nI 0) (nI 2) (xn_in (by omega) (by omega) (by omega))) (va_cwS 3 hts gX6_hours_X6_within rfl rfl rfl (by decide +kernel) ⟨Nat.le_of_ble_eq_true rfl, Nat.le_of_ble_eq_true rfl⟩) (xk_preS X1_ok hK hX hP) rfl rfl hl.1 rfl (lv_room (Nat.le_of_ble_eq_true rfl)) dX6_hours_22 ⟨Nat.le_of_ble_eq_true rfl, Nat.le_of_ble_eq_true rfl⟩) hS (fun H locs hP hS => ?_)
  refine xn_zeq (tgt := 36) hx hb dX6_hours_25 (by decide) (by omega) (fun c_25 => absurd c_25 (by omega)) (fun c_25 => ?_)
  refine lv_iload hx hb dX6_hours_28 (lv_at hl 6 rfl) ?_
  refine xk_fi (va_runS (As := [.int q]) (rest := []) ⟨hx, hb, hml, hown, hts⟩ (k1_asksOfHours_t l hI q hq) (va_cwS 1 hts gX6_hours_X6_asksOfHours rfl rfl rfl (by decide +kernel) ⟨Nat.le_of_ble_eq_true rfl, Nat.le_of_ble_eq_true rfl⟩) (xk_preS X1_ok hK hX hP) rfl rfl hl.1 rfl (lv_room (Nat.le_of_ble_eq_true rfl)) dX6_hours_30 ⟨Nat.le_of_ble_eq_true rfl, Nat.le_of_ble_eq_true rfl⟩) hS (fun H locs hP hS => ?_)
  refine xn_zne (tgt := 39) hx hb dX6_hours_33 (by decide) (by omega) (fun c_33 => ?_) (fun c_33 => absurd c_33 (by omega))
  refine lv_aload hx hb dX6_hours_39 (lv_at hl 0 rfl) ?_
  refine lv_iload_n hx hb dX6_hours_41 rfl (lv_at hl 3 rfl) ?_
  refine lv_iload_n hx hb dX6_hours_42 rfl (lv_at hl 4 rfl) ?_
  refine lv_iload hx hb dX6_hours_43 (lv_at hl 5 rfl) ?_
  refine xk_fi (va_runV (As := [.int (nI w), .int (nI a), .int (nI m)]) (rest := []) ⟨hx, hb, hml, hown, hts⟩ (k1_foc_ok l hI (w := w) (by omega) (by omega) hZ hw2 hLw ham) (cwV 3 hts gX6_hours_X2_faultOfCells rfl rfl rfl (by decide +kernel) ⟨Nat.le_of_ble_eq_true rfl, Nat.le_of_ble_eq_true rfl⟩) (xk_preV X1_ok hK hX hP (xk_recv hK hP (1 + k) (by omega) (ci := 2) (e1_sheet (by omega) (by omega)) rfl)) rfl rfl hl.1 rfl (lv_room (Nat.le_of_ble_eq_true rfl)) dX6_hours_45 ⟨Nat.le_of_ble_eq_true rfl, Nat.le_of_ble_eq_true rfl⟩) hS (fun H locs hP hS => ?_)
  refine lv_istore (lv' := [(7, .int (nI 0)), (6, .ref (ad (1 + k))), (0, .ref (ad 0)), (1, .int (nI k)), (2, .int (nI w)), (3, .int (nI a)), (4, .int (nI m)), (5, .int q)]) hx hb dX6_hours_48 hl (by decide) rfl (fun ls hl => ?_)
  refine lv_iload hx hb dX6_hours_50 (lv_at hl 0 rfl) ?_
  refine xn_zeq (tgt := 62) hx hb dX6_hours_52 (by decide) (by omega) (fun c_52 => ?_) (fun c_52 => absurd c_52 (by omega))
  refine lv_aload_n hx hb dX6_hours_62 rfl (lv_at hl 2 rfl) ?_
  refine xk_fi (va_runV (As := []) (rest := []) ⟨hx, hb, hml, hown, hts⟩ (k1_hasWell_t l hI hT.2.1 hn5 (by omega)) (cwV 0 hts gX6_hours_X6_hasWell rfl rfl rfl (by decide +kernel) ⟨Nat.le_of_ble_eq_true rfl, Nat.le_of_ble_eq_true rfl⟩) (xk_preV X1_ok hK hX hP (xk_recv hK hP 0 (by omega) (ci := 6) e1_well rfl)) rfl rfl hl.1 rfl (lv_room (Nat.le_of_ble_eq_true rfl)) dX6_hours_63 ⟨Nat.le_of_ble_eq_true rfl, Nat.le_of_ble_eq_true rfl⟩) hS (fun H locs hP hS => ?_)
  refine xn_zne (tgt := 72) hx hb dX6_hours_66 (by decide) (by omega) (fun c_66 => ?_) (fun c_66 => absurd c_66 (by omega))
  refine lv_iload hx hb dX6_hours_72 (lv_at hl 6 rfl) ?_
  refine lv_aload_n hx hb dX6_hours_74 rfl (lv_at hl 2 rfl) ?_
  refine xk_get hx hb hts (inX6_hours_X6) hown hK hP 0 (by omega) (ci := 6) e1_well rfl 9 (by decide) (flX6_hours_90 hts) rfl (.int (σ0 0 9)) rfl dX6_hours_75 ?_
  refine xn_eqi (y := nI n) hT.2.1 ?_
  refine xn_ine (tgt := 92) hx hb dX6_hours_78 (by decide) (by omega) (by omega) (fun c_78 => ?_) (fun c_78 => absurd c_78 (by omega))
  refine lv_bipush (v := (-2)) hx hb dX6_hours_92 (by decide) ?_
  exact xk_iret hx hb hr (vp_nar_int _) X1_ok hK hX hP hS hlk dX6_hours_94 (⟨rfl, hJ0⟩)

set_option maxHeartbeats 4000000 in
set_option maxRecDepth 100000 in
theorem a1_hours_nh (l : Launch) {D : va_G} {ca : Nat → ClassId} {ad : Nat → Nat} (hI : Ij ad 34) {σ : Sg} {n p g rn : Nat} {d : Nat → Nat} {th rd : Nat → Nat → Nat} {sl sn : Nat → Nat} {sc : Nat → Nat → Int32} {ft tr : Int32} {k : Nat} {w : Nat} {a m : Nat} {q : Int32} (hJ : I1 n p g rn d th rd sl sn sc ft tr σ) (hk4 : k < 4) (hw2 : w ≤ 2) (hq : (nI 0 ≤ q ∧ q ≤ nI 2) ∨ (nI 10 ≤ q ∧ q ≤ nI 14)) (hLw : sl k = w) (ham : a + m ≤ sn k) (hn0 : 0 < n) (hmn : m = n) (hnh : ¬ (∀ x, x < m → nI 0 ≤ sc k (a + x) ∧ sc k (a + x) ≤ nI 23)) : C1i l D ca ad yX6_hours wsX6_hours { frames := 5, cells := 0, slots := 0, locals := 135 } [.ref (ad 0), .int (nI k), .int (nI w), .int (nI a), .int (nI m), .int q] σ (fun r σ' => r = -2 ∧ I1 n p g rn d th rd sl sn sc (nI 0) tr σ') := by
  refine xk_entry cX6_hours 8 (some .int) (by decide) rfl (Nat.le_of_ble_eq_true rfl) ?_
  intro pP eE sS mM below meth cC hx hb hml hr hts hown hlk hP hK hX hS ls hl
  have hl : lv_has ls 8 [(0, .ref (ad 0)), (1, .int (nI k)), (2, .int (nI w)), (3, .int (nI a)), (4, .int (nI m)), (5, .int q)] := hl
  obtain ⟨hT, hR, hRd, hSh, hnp, hft, htr⟩ := id hJ
  have hn5 := hT.2.2.1
  have hg9 := hT.2.2.2.1
  have hp6 := hR.2.1
  have hrn8 := hRd.2.1
  refine lv_aload_n hx hb dX6_hours_0 rfl (lv_at hl 0 rfl) ?_
  refine lv_iconst (v := nI 0) hx hb dX6_hours_1 (by decide) ?_
  refine xk_put hx hb hts (inX6_hours_X6) tyX6 tyX6_ok nmX6 hown hK hI hP hS 0 (by omega) (ci := 6) e1_well rfl 11 (by decide) (flX6_hours_59 hts) rfl rfl (by decide +kernel) (Nat.le_of_ble_eq_true rfl) e1_loc (by rw [e1_well]; simp [up]) dX6_hours_2 (fun H locs hP hS => ?_)
  obtain ⟨σ0, hσ0⟩ : ∃ τ, τ = up σ 0 11 (nI 0) := ⟨_, rfl⟩
  rw [← hσ0] at hP
  have hJ0 : I1 n p g rn d th rd sl sn sc (nI 0) tr σ0 := by rw [hσ0]; exact I1_ft hJ
  obtain ⟨hT, hR, hRd, hSh, -, hft, htr⟩ := id hJ0
  have hZ := hSh k hk4
  have hL : sl k < 3 := by omega
  have hk60 := (hZ.2.2 hL).2.1
  have hp0 := hnp.mp hn0
  refine lv_aload_n hx hb dX6_hours_5 rfl (lv_at hl 0 rfl) ?_
  refine lv_iload_n hx hb dX6_hours_6 rfl (lv_at hl 1 rfl) ?_
  refine xk_fa (va_runV (As := [.int (nI k)]) (rest := []) ⟨hx, hb, hml, hown, hts⟩ (k1_sheetAt_in l hI (x := k)  (by omega)) (cwV 1 hts gX6_hours_X6_sheetAt rfl rfl rfl (by decide +kernel) ⟨Nat.le_of_ble_eq_true rfl, Nat.le_of_ble_eq_true rfl⟩) (xk_preV X1_ok hK hX hP (xk_recv hK hP 0 (by omega) (ci := 6) e1_well rfl)) rfl rfl hl.1 rfl (lv_room (Nat.le_of_ble_eq_true rfl)) dX6_hours_7 ⟨Nat.le_of_ble_eq_true rfl, Nat.le_of_ble_eq_true rfl⟩) hS (fun H locs hP hS => ?_)
  refine lv_astore (lv' := [(6, .ref (ad (1 + k))), (0, .ref (ad 0)), (1, .int (nI k)), (2, .int (nI w)), (3, .int (nI a)), (4, .int (nI m)), (5, .int q)]) hx hb dX6_hours_10 hl (by decide) rfl (fun ls hl => ?_)
  refine lv_aload hx hb dX6_hours_12 (lv_at hl 0 rfl) ?_
  refine lv_ifnonnull (tgt := 19) hx hb dX6_hours_14 (by decide) ?_
  refine lv_iload_n hx hb dX6_hours_19 rfl (lv_at hl 3 rfl) ?_
  refine lv_iconst (v := nI 0) hx hb dX6_hours_20 (by decide) ?_
  refine lv_iconst (v := nI 2) hx hb dX6_hours_21 (by decide) ?_
  refine xk_fi (va_runS (As := [.int (nI w), .int (nI 0), .int (nI 2)]) (rest := []) ⟨hx, hb, hml, hown, hts⟩ (k1_within_t l hI (nI w) (nI 0) (nI 2) (xn_in (by omega) (by omega) (by omega))) (va_cwS 3 hts gX6_hours_X6_within rfl rfl rfl (by decide +kernel) ⟨Nat.le_of_ble_eq_true rfl, Nat.le_of_ble_eq_true rfl⟩) (xk_preS X1_ok hK hX hP) rfl rfl hl.1 rfl (lv_room (Nat.le_of_ble_eq_true rfl)) dX6_hours_22 ⟨Nat.le_of_ble_eq_true rfl, Nat.le_of_ble_eq_true rfl⟩) hS (fun H locs hP hS => ?_)
  refine xn_zeq (tgt := 36) hx hb dX6_hours_25 (by decide) (by omega) (fun c_25 => absurd c_25 (by omega)) (fun c_25 => ?_)
  refine lv_iload hx hb dX6_hours_28 (lv_at hl 6 rfl) ?_
  refine xk_fi (va_runS (As := [.int q]) (rest := []) ⟨hx, hb, hml, hown, hts⟩ (k1_asksOfHours_t l hI q hq) (va_cwS 1 hts gX6_hours_X6_asksOfHours rfl rfl rfl (by decide +kernel) ⟨Nat.le_of_ble_eq_true rfl, Nat.le_of_ble_eq_true rfl⟩) (xk_preS X1_ok hK hX hP) rfl rfl hl.1 rfl (lv_room (Nat.le_of_ble_eq_true rfl)) dX6_hours_30 ⟨Nat.le_of_ble_eq_true rfl, Nat.le_of_ble_eq_true rfl⟩) hS (fun H locs hP hS => ?_)
  refine xn_zne (tgt := 39) hx hb dX6_hours_33 (by decide) (by omega) (fun c_33 => ?_) (fun c_33 => absurd c_33 (by omega))
  refine lv_aload hx hb dX6_hours_39 (lv_at hl 0 rfl) ?_
  refine lv_iload_n hx hb dX6_hours_41 rfl (lv_at hl 3 rfl) ?_
  refine lv_iload_n hx hb dX6_hours_42 rfl (lv_at hl 4 rfl) ?_
  refine lv_iload hx hb dX6_hours_43 (lv_at hl 5 rfl) ?_
  refine xk_fi (va_runV (As := [.int (nI w), .int (nI a), .int (nI m)]) (rest := []) ⟨hx, hb, hml, hown, hts⟩ (k1_foc_ok l hI (w := w) (by omega) (by omega) hZ hw2 hLw ham) (cwV 3 hts gX6_hours_X2_faultOfCells rfl rfl rfl (by decide +kernel) ⟨Nat.le_of_ble_eq_true rfl, Nat.le_of_ble_eq_true rfl⟩) (xk_preV X1_ok hK hX hP (xk_recv hK hP (1 + k) (by omega) (ci := 2) (e1_sheet (by omega) (by omega)) rfl)) rfl rfl hl.1 rfl (lv_room (Nat.le_of_ble_eq_true rfl)) dX6_hours_45 ⟨Nat.le_of_ble_eq_true rfl, Nat.le_of_ble_eq_true rfl⟩) hS (fun H locs hP hS => ?_)
  refine lv_istore (lv' := [(7, .int (nI 0)), (6, .ref (ad (1 + k))), (0, .ref (ad 0)), (1, .int (nI k)), (2, .int (nI w)), (3, .int (nI a)), (4, .int (nI m)), (5, .int q)]) hx hb dX6_hours_48 hl (by decide) rfl (fun ls hl => ?_)
  refine lv_iload hx hb dX6_hours_50 (lv_at hl 0 rfl) ?_
  refine xn_zeq (tgt := 62) hx hb dX6_hours_52 (by decide) (by omega) (fun c_52 => ?_) (fun c_52 => absurd c_52 (by omega))
  refine lv_aload_n hx hb dX6_hours_62 rfl (lv_at hl 2 rfl) ?_
  refine xk_fi (va_runV (As := []) (rest := []) ⟨hx, hb, hml, hown, hts⟩ (k1_hasWell_t l hI hT.2.1 hn5 (by omega)) (cwV 0 hts gX6_hours_X6_hasWell rfl rfl rfl (by decide +kernel) ⟨Nat.le_of_ble_eq_true rfl, Nat.le_of_ble_eq_true rfl⟩) (xk_preV X1_ok hK hX hP (xk_recv hK hP 0 (by omega) (ci := 6) e1_well rfl)) rfl rfl hl.1 rfl (lv_room (Nat.le_of_ble_eq_true rfl)) dX6_hours_63 ⟨Nat.le_of_ble_eq_true rfl, Nat.le_of_ble_eq_true rfl⟩) hS (fun H locs hP hS => ?_)
  refine xn_zne (tgt := 72) hx hb dX6_hours_66 (by decide) (by omega) (fun c_66 => ?_) (fun c_66 => absurd c_66 (by omega))
  refine lv_iload hx hb dX6_hours_72 (lv_at hl 6 rfl) ?_
  refine lv_aload_n hx hb dX6_hours_74 rfl (lv_at hl 2 rfl) ?_
  refine xk_get hx hb hts (inX6_hours_X6) hown hK hP 0 (by omega) (ci := 6) e1_well rfl 9 (by decide) (flX6_hours_90 hts) rfl (.int (σ0 0 9)) rfl dX6_hours_75 ?_
  refine xn_eqi (y := nI n) hT.2.1 ?_
  refine xn_ine (tgt := 92) hx hb dX6_hours_78 (by decide) (by omega) (by omega) (fun c_78 => absurd c_78 (by omega)) (fun c_78 => ?_)
  refine lv_aload hx hb dX6_hours_81 (lv_at hl 1 rfl) ?_
  refine lv_iload_n hx hb dX6_hours_83 rfl (lv_at hl 5 rfl) ?_
  refine lv_iload hx hb dX6_hours_84 (lv_at hl 6 rfl) ?_
  refine xk_fi (va_runV (As := [.int (nI a), .int (nI m)]) (rest := []) ⟨hx, hb, hml, hown, hts⟩ (k1_holds_f l hI (k := 1 + k) (a := a) (b := m) (by omega) (by omega) hZ hL ham hnh) (cwV 2 hts gX6_hours_X2_holdsHours rfl rfl rfl (by decide +kernel) ⟨Nat.le_of_ble_eq_true rfl, Nat.le_of_ble_eq_true rfl⟩) (xk_preV X1_ok hK hX hP (xk_recv hK hP (1 + k) (by omega) (ci := 2) (e1_sheet (by omega) (by omega)) rfl)) rfl rfl hl.1 rfl (lv_room (Nat.le_of_ble_eq_true rfl)) dX6_hours_86 ⟨Nat.le_of_ble_eq_true rfl, Nat.le_of_ble_eq_true rfl⟩) hS (fun H locs hP hS => ?_)
  refine xn_zne (tgt := 95) hx hb dX6_hours_89 (by decide) (by omega) (fun c_89 => absurd c_89 (by omega)) (fun c_89 => ?_)
  refine lv_bipush (v := (-2)) hx hb dX6_hours_92 (by decide) ?_
  exact xk_iret hx hb hr (vp_nar_int _) X1_ok hK hX hP hS hlk dX6_hours_94 (⟨rfl, hJ0⟩)

set_option maxHeartbeats 4000000 in
set_option maxRecDepth 100000 in
theorem a1_hours_0 (l : Launch) {D : va_G} {ca : Nat → ClassId} {ad : Nat → Nat} (hI : Ij ad 34) {σ : Sg} {n p g rn : Nat} {d : Nat → Nat} {th rd : Nat → Nat → Nat} {sl sn : Nat → Nat} {sc : Nat → Nat → Int32} {ft tr : Int32} {k : Nat} {w : Nat} {a m : Nat} (hJ : I1 n p g rn d th rd sl sn sc ft tr σ) (hk4 : k < 4) (hw2 : w ≤ 2) (hLw : sl k = w) (ham : a + m ≤ sn k) (hn0 : 0 < n) (hmn : m = n) (hal : ∀ x, x < m → nI 0 ≤ sc k (a + x) ∧ sc k (a + x) ≤ nI 23) : C1i l D ca ad yX6_hours wsX6_hours { frames := 5, cells := 0, slots := 0, locals := 135 } [.ref (ad 0), .int (nI k), .int (nI w), .int (nI a), .int (nI m), .int (nI 0)] σ (fun r σ' => r = sbt (fun x => decide (rt p d g th x ((fun x => hv (sc k (a + x))) x))) n ∧ I1 n p g rn d th rd sl sn sc (nI 0) tr σ') := by
  refine xk_entry cX6_hours 8 (some .int) (by decide) rfl (Nat.le_of_ble_eq_true rfl) ?_
  intro pP eE sS mM below meth cC hx hb hml hr hts hown hlk hP hK hX hS ls hl
  have hl : lv_has ls 8 [(0, .ref (ad 0)), (1, .int (nI k)), (2, .int (nI w)), (3, .int (nI a)), (4, .int (nI m)), (5, .int (nI 0))] := hl
  obtain ⟨hT, hR, hRd, hSh, hnp, hft, htr⟩ := id hJ
  have hn5 := hT.2.2.1
  have hg9 := hT.2.2.2.1
  have hp6 := hR.2.1
  have hrn8 := hRd.2.1
  refine lv_aload_n hx hb dX6_hours_0 rfl (lv_at hl 0 rfl) ?_
  refine lv_iconst (v := nI 0) hx hb dX6_hours_1 (by decide) ?_
  refine xk_put hx hb hts (inX6_hours_X6) tyX6 tyX6_ok nmX6 hown hK hI hP hS 0 (by omega) (ci := 6) e1_well rfl 11 (by decide) (flX6_hours_59 hts) rfl rfl (by decide +kernel) (Nat.le_of_ble_eq_true rfl) e1_loc (by rw [e1_well]; simp [up]) dX6_hours_2 (fun H locs hP hS => ?_)
  obtain ⟨σ0, hσ0⟩ : ∃ τ, τ = up σ 0 11 (nI 0) := ⟨_, rfl⟩
  rw [← hσ0] at hP
  have hJ0 : I1 n p g rn d th rd sl sn sc (nI 0) tr σ0 := by rw [hσ0]; exact I1_ft hJ
  obtain ⟨hT, hR, hRd, hSh, -, hft, htr⟩ := id hJ0
  have hZ := hSh k hk4
  have hL : sl k < 3 := by omega
  have hk60 := (hZ.2.2 hL).2.1
  have hp0 := hnp.mp hn0
  have hhh : ∀ x, x < n → sc k (a + x) = nI ((fun x => hv (sc k (a + x))) x) ∧ (fun x => hv (sc k (a + x))) x ≤ 23 := fun x hx => hv_in (hal x (by omega))
  refine lv_aload_n hx hb dX6_hours_5 rfl (lv_at hl 0 rfl) ?_
  refine lv_iload_n hx hb dX6_hours_6 rfl (lv_at hl 1 rfl) ?_
  refine xk_fa (va_runV (As := [.int (nI k)]) (rest := []) ⟨hx, hb, hml, hown, hts⟩ (k1_sheetAt_in l hI (x := k)  (by omega)) (cwV 1 hts gX6_hours_X6_sheetAt rfl rfl rfl (by decide +kernel) ⟨Nat.le_of_ble_eq_true rfl, Nat.le_of_ble_eq_true rfl⟩) (xk_preV X1_ok hK hX hP (xk_recv hK hP 0 (by omega) (ci := 6) e1_well rfl)) rfl rfl hl.1 rfl (lv_room (Nat.le_of_ble_eq_true rfl)) dX6_hours_7 ⟨Nat.le_of_ble_eq_true rfl, Nat.le_of_ble_eq_true rfl⟩) hS (fun H locs hP hS => ?_)
  refine lv_astore (lv' := [(6, .ref (ad (1 + k))), (0, .ref (ad 0)), (1, .int (nI k)), (2, .int (nI w)), (3, .int (nI a)), (4, .int (nI m)), (5, .int (nI 0))]) hx hb dX6_hours_10 hl (by decide) rfl (fun ls hl => ?_)
  refine lv_aload hx hb dX6_hours_12 (lv_at hl 0 rfl) ?_
  refine lv_ifnonnull (tgt := 19) hx hb dX6_hours_14 (by decide) ?_
  refine lv_iload_n hx hb dX6_hours_19 rfl (lv_at hl 3 rfl) ?_
  refine lv_iconst (v := nI 0) hx hb dX6_hours_20 (by decide) ?_
  refine lv_iconst (v := nI 2) hx hb dX6_hours_21 (by decide) ?_
  refine xk_fi (va_runS (As := [.int (nI w), .int (nI 0), .int (nI 2)]) (rest := []) ⟨hx, hb, hml, hown, hts⟩ (k1_within_t l hI (nI w) (nI 0) (nI 2) (xn_in (by omega) (by omega) (by omega))) (va_cwS 3 hts gX6_hours_X6_within rfl rfl rfl (by decide +kernel) ⟨Nat.le_of_ble_eq_true rfl, Nat.le_of_ble_eq_true rfl⟩) (xk_preS X1_ok hK hX hP) rfl rfl hl.1 rfl (lv_room (Nat.le_of_ble_eq_true rfl)) dX6_hours_22 ⟨Nat.le_of_ble_eq_true rfl, Nat.le_of_ble_eq_true rfl⟩) hS (fun H locs hP hS => ?_)
  refine xn_zeq (tgt := 36) hx hb dX6_hours_25 (by decide) (by omega) (fun c_25 => absurd c_25 (by omega)) (fun c_25 => ?_)
  refine lv_iload hx hb dX6_hours_28 (lv_at hl 6 rfl) ?_
  refine xk_fi (va_runS (As := [.int (nI 0)]) (rest := []) ⟨hx, hb, hml, hown, hts⟩ (k1_asksOfHours_t l hI (nI 0) (Or.inl (xn_in (by omega) (by omega) (by omega)))) (va_cwS 1 hts gX6_hours_X6_asksOfHours rfl rfl rfl (by decide +kernel) ⟨Nat.le_of_ble_eq_true rfl, Nat.le_of_ble_eq_true rfl⟩) (xk_preS X1_ok hK hX hP) rfl rfl hl.1 rfl (lv_room (Nat.le_of_ble_eq_true rfl)) dX6_hours_30 ⟨Nat.le_of_ble_eq_true rfl, Nat.le_of_ble_eq_true rfl⟩) hS (fun H locs hP hS => ?_)
  refine xn_zne (tgt := 39) hx hb dX6_hours_33 (by decide) (by omega) (fun c_33 => ?_) (fun c_33 => absurd c_33 (by omega))
  refine lv_aload hx hb dX6_hours_39 (lv_at hl 0 rfl) ?_
  refine lv_iload_n hx hb dX6_hours_41 rfl (lv_at hl 3 rfl) ?_
  refine lv_iload_n hx hb dX6_hours_42 rfl (lv_at hl 4 rfl) ?_
  refine lv_iload hx hb dX6_hours_43 (lv_at hl 5 rfl) ?_
  refine xk_fi (va_runV (As := [.int (nI w), .int (nI a), .int (nI m)]) (rest := []) ⟨hx, hb, hml, hown, hts⟩ (k1_foc_ok l hI (w := w) (by omega) (by omega) hZ hw2 hLw ham) (cwV 3 hts gX6_hours_X2_faultOfCells rfl rfl rfl (by decide +kernel) ⟨Nat.le_of_ble_eq_true rfl, Nat.le_of_ble_eq_true rfl⟩) (xk_preV X1_ok hK hX hP (xk_recv hK hP (1 + k) (by omega) (ci := 2) (e1_sheet (by omega) (by omega)) rfl)) rfl rfl hl.1 rfl (lv_room (Nat.le_of_ble_eq_true rfl)) dX6_hours_45 ⟨Nat.le_of_ble_eq_true rfl, Nat.le_of_ble_eq_true rfl⟩) hS (fun H locs hP hS => ?_)
  refine lv_istore (lv' := [(7, .int (nI 0)), (6, .ref (ad (1 + k))), (0, .ref (ad 0)), (1, .int (nI k)), (2, .int (nI w)), (3, .int (nI a)), (4, .int (nI m)), (5, .int (nI 0))]) hx hb dX6_hours_48 hl (by decide) rfl (fun ls hl => ?_)
  refine lv_iload hx hb dX6_hours_50 (lv_at hl 0 rfl) ?_
  refine xn_zeq (tgt := 62) hx hb dX6_hours_52 (by decide) (by omega) (fun c_52 => ?_) (fun c_52 => absurd c_52 (by omega))
  refine lv_aload_n hx hb dX6_hours_62 rfl (lv_at hl 2 rfl) ?_
  refine xk_fi (va_runV (As := []) (rest := []) ⟨hx, hb, hml, hown, hts⟩ (k1_hasWell_t l hI hT.2.1 hn5 (by omega)) (cwV 0 hts gX6_hours_X6_hasWell rfl rfl rfl (by decide +kernel) ⟨Nat.le_of_ble_eq_true rfl, Nat.le_of_ble_eq_true rfl⟩) (xk_preV X1_ok hK hX hP (xk_recv hK hP 0 (by omega) (ci := 6) e1_well rfl)) rfl rfl hl.1 rfl (lv_room (Nat.le_of_ble_eq_true rfl)) dX6_hours_63 ⟨Nat.le_of_ble_eq_true rfl, Nat.le_of_ble_eq_true rfl⟩) hS (fun H locs hP hS => ?_)
  refine xn_zne (tgt := 72) hx hb dX6_hours_66 (by decide) (by omega) (fun c_66 => ?_) (fun c_66 => absurd c_66 (by omega))
  refine lv_iload hx hb dX6_hours_72 (lv_at hl 6 rfl) ?_
  refine lv_aload_n hx hb dX6_hours_74 rfl (lv_at hl 2 rfl) ?_
  refine xk_get hx hb hts (inX6_hours_X6) hown hK hP 0 (by omega) (ci := 6) e1_well rfl 9 (by decide) (flX6_hours_90 hts) rfl (.int (σ0 0 9)) rfl dX6_hours_75 ?_
  refine xn_eqi (y := nI n) hT.2.1 ?_
  refine xn_ine (tgt := 92) hx hb dX6_hours_78 (by decide) (by omega) (by omega) (fun c_78 => absurd c_78 (by omega)) (fun c_78 => ?_)
  refine lv_aload hx hb dX6_hours_81 (lv_at hl 1 rfl) ?_
  refine lv_iload_n hx hb dX6_hours_83 rfl (lv_at hl 5 rfl) ?_
  refine lv_iload hx hb dX6_hours_84 (lv_at hl 6 rfl) ?_
  refine xk_fi (va_runV (As := [.int (nI a), .int (nI m)]) (rest := []) ⟨hx, hb, hml, hown, hts⟩ (k1_holds_t l hI (k := 1 + k) (a := a) (b := m) (by omega) (by omega) hZ hL ham hal) (cwV 2 hts gX6_hours_X2_holdsHours rfl rfl rfl (by decide +kernel) ⟨Nat.le_of_ble_eq_true rfl, Nat.le_of_ble_eq_true rfl⟩) (xk_preV X1_ok hK hX hP (xk_recv hK hP (1 + k) (by omega) (ci := 2) (e1_sheet (by omega) (by omega)) rfl)) rfl rfl hl.1 rfl (lv_room (Nat.le_of_ble_eq_true rfl)) dX6_hours_86 ⟨Nat.le_of_ble_eq_true rfl, Nat.le_of_ble_eq_true rfl⟩) hS (fun H locs hP hS => ?_)
  refine xn_zne (tgt := 95) hx hb dX6_hours_89 (by decide) (by omega) (fun c_89 => ?_) (fun c_89 => absurd c_89 (by omega))
  refine lv_iload hx hb dX6_hours_95 (lv_at hl 7 rfl) ?_
  refine lv_tableIn (tgt := 124) hx hb dX6_hours_97 (by decide) (by decide) (off := 27) (by decide) (by decide) ?_
  refine lv_aload_n hx hb dX6_hours_124 rfl (lv_at hl 2 rfl) ?_
  refine lv_aload hx hb dX6_hours_125 (lv_at hl 1 rfl) ?_
  refine lv_iload_n hx hb dX6_hours_127 rfl (lv_at hl 5 rfl) ?_
  refine xk_fi (va_runV (As := [.ref (ad (1 + k)), .int (nI a)]) (rest := []) ⟨hx, hb, hml, hown, hts⟩ (k1_rightTold l hI (z := 1 + k) (a := a) (hh := (fun x => hv (sc k (a + x)))) hT (by omega) (by omega) hZ hL (by omega) hhh hR hp0) (cwV 2 hts gX6_hours_X6_rightOnesTold rfl rfl rfl (by decide +kernel) ⟨Nat.le_of_ble_eq_true rfl, Nat.le_of_ble_eq_true rfl⟩) (xk_preV X1_ok hK hX hP (xk_recv hK hP 0 (by omega) (ci := 6) e1_well rfl)) rfl rfl hl.1 rfl (lv_room (Nat.le_of_ble_eq_true rfl)) dX6_hours_128 ⟨Nat.le_of_ble_eq_true rfl, Nat.le_of_ble_eq_true rfl⟩) hS (fun H locs hP hS => ?_)
  exact xk_iret hx hb hr (vp_nar_int _) X1_ok hK hX hP hS hlk dX6_hours_131 (⟨rfl, hJ0⟩)

set_option maxHeartbeats 4000000 in
set_option maxRecDepth 100000 in
theorem a1_hours_1 (l : Launch) {D : va_G} {ca : Nat → ClassId} {ad : Nat → Nat} (hI : Ij ad 34) {σ : Sg} {n p g rn : Nat} {d : Nat → Nat} {th rd : Nat → Nat → Nat} {sl sn : Nat → Nat} {sc : Nat → Nat → Int32} {ft tr : Int32} {k : Nat} {w : Nat} {a m : Nat} (hJ : I1 n p g rn d th rd sl sn sc ft tr σ) (hk4 : k < 4) (hw2 : w ≤ 2) (hLw : sl k = w) (ham : a + m ≤ sn k) (hn0 : 0 < n) (hmn : m = n) (hal : ∀ x, x < m → nI 0 ≤ sc k (a + x) ∧ sc k (a + x) ≤ nI 23) : C1i l D ca ad yX6_hours wsX6_hours { frames := 5, cells := 0, slots := 0, locals := 135 } [.ref (ad 0), .int (nI k), .int (nI w), .int (nI a), .int (nI m), .int (nI 1)] σ (fun r σ' => r = lts (fun x => dwn p d (th x 2) ((fun x => hv (sc k (a + x))) x) (dl g th x)) n ∧ I1 n p g rn d th rd sl sn sc (nI 0) tr σ') := by
  refine xk_entry cX6_hours 8 (some .int) (by decide) rfl (Nat.le_of_ble_eq_true rfl) ?_
  intro pP eE sS mM below meth cC hx hb hml hr hts hown hlk hP hK hX hS ls hl
  have hl : lv_has ls 8 [(0, .ref (ad 0)), (1, .int (nI k)), (2, .int (nI w)), (3, .int (nI a)), (4, .int (nI m)), (5, .int (nI 1))] := hl
  obtain ⟨hT, hR, hRd, hSh, hnp, hft, htr⟩ := id hJ
  have hn5 := hT.2.2.1
  have hg9 := hT.2.2.2.1
  have hp6 := hR.2.1
  have hrn8 := hRd.2.1
  refine lv_aload_n hx hb dX6_hours_0 rfl (lv_at hl 0 rfl) ?_
  refine lv_iconst (v := nI 0) hx hb dX6_hours_1 (by decide) ?_
  refine xk_put hx hb hts (inX6_hours_X6) tyX6 tyX6_ok nmX6 hown hK hI hP hS 0 (by omega) (ci := 6) e1_well rfl 11 (by decide) (flX6_hours_59 hts) rfl rfl (by decide +kernel) (Nat.le_of_ble_eq_true rfl) e1_loc (by rw [e1_well]; simp [up]) dX6_hours_2 (fun H locs hP hS => ?_)
  obtain ⟨σ0, hσ0⟩ : ∃ τ, τ = up σ 0 11 (nI 0) := ⟨_, rfl⟩
  rw [← hσ0] at hP
  have hJ0 : I1 n p g rn d th rd sl sn sc (nI 0) tr σ0 := by rw [hσ0]; exact I1_ft hJ
  obtain ⟨hT, hR, hRd, hSh, -, hft, htr⟩ := id hJ0
  have hZ := hSh k hk4
  have hL : sl k < 3 := by omega
  have hk60 := (hZ.2.2 hL).2.1
  have hp0 := hnp.mp hn0
  have hhh : ∀ x, x < n → sc k (a + x) = nI ((fun x => hv (sc k (a + x))) x) ∧ (fun x => hv (sc k (a + x))) x ≤ 23 := fun x hx => hv_in (hal x (by omega))
  refine lv_aload_n hx hb dX6_hours_5 rfl (lv_at hl 0 rfl) ?_
  refine lv_iload_n hx hb dX6_hours_6 rfl (lv_at hl 1 rfl) ?_
  refine xk_fa (va_runV (As := [.int (nI k)]) (rest := []) ⟨hx, hb, hml, hown, hts⟩ (k1_sheetAt_in l hI (x := k)  (by omega)) (cwV 1 hts gX6_hours_X6_sheetAt rfl rfl rfl (by decide +kernel) ⟨Nat.le_of_ble_eq_true rfl, Nat.le_of_ble_eq_true rfl⟩) (xk_preV X1_ok hK hX hP (xk_recv hK hP 0 (by omega) (ci := 6) e1_well rfl)) rfl rfl hl.1 rfl (lv_room (Nat.le_of_ble_eq_true rfl)) dX6_hours_7 ⟨Nat.le_of_ble_eq_true rfl, Nat.le_of_ble_eq_true rfl⟩) hS (fun H locs hP hS => ?_)
  refine lv_astore (lv' := [(6, .ref (ad (1 + k))), (0, .ref (ad 0)), (1, .int (nI k)), (2, .int (nI w)), (3, .int (nI a)), (4, .int (nI m)), (5, .int (nI 1))]) hx hb dX6_hours_10 hl (by decide) rfl (fun ls hl => ?_)
  refine lv_aload hx hb dX6_hours_12 (lv_at hl 0 rfl) ?_
  refine lv_ifnonnull (tgt := 19) hx hb dX6_hours_14 (by decide) ?_
  refine lv_iload_n hx hb dX6_hours_19 rfl (lv_at hl 3 rfl) ?_
  refine lv_iconst (v := nI 0) hx hb dX6_hours_20 (by decide) ?_
  refine lv_iconst (v := nI 2) hx hb dX6_hours_21 (by decide) ?_
  refine xk_fi (va_runS (As := [.int (nI w), .int (nI 0), .int (nI 2)]) (rest := []) ⟨hx, hb, hml, hown, hts⟩ (k1_within_t l hI (nI w) (nI 0) (nI 2) (xn_in (by omega) (by omega) (by omega))) (va_cwS 3 hts gX6_hours_X6_within rfl rfl rfl (by decide +kernel) ⟨Nat.le_of_ble_eq_true rfl, Nat.le_of_ble_eq_true rfl⟩) (xk_preS X1_ok hK hX hP) rfl rfl hl.1 rfl (lv_room (Nat.le_of_ble_eq_true rfl)) dX6_hours_22 ⟨Nat.le_of_ble_eq_true rfl, Nat.le_of_ble_eq_true rfl⟩) hS (fun H locs hP hS => ?_)
  refine xn_zeq (tgt := 36) hx hb dX6_hours_25 (by decide) (by omega) (fun c_25 => absurd c_25 (by omega)) (fun c_25 => ?_)
  refine lv_iload hx hb dX6_hours_28 (lv_at hl 6 rfl) ?_
  refine xk_fi (va_runS (As := [.int (nI 1)]) (rest := []) ⟨hx, hb, hml, hown, hts⟩ (k1_asksOfHours_t l hI (nI 1) (Or.inl (xn_in (by omega) (by omega) (by omega)))) (va_cwS 1 hts gX6_hours_X6_asksOfHours rfl rfl rfl (by decide +kernel) ⟨Nat.le_of_ble_eq_true rfl, Nat.le_of_ble_eq_true rfl⟩) (xk_preS X1_ok hK hX hP) rfl rfl hl.1 rfl (lv_room (Nat.le_of_ble_eq_true rfl)) dX6_hours_30 ⟨Nat.le_of_ble_eq_true rfl, Nat.le_of_ble_eq_true rfl⟩) hS (fun H locs hP hS => ?_)
  refine xn_zne (tgt := 39) hx hb dX6_hours_33 (by decide) (by omega) (fun c_33 => ?_) (fun c_33 => absurd c_33 (by omega))
  refine lv_aload hx hb dX6_hours_39 (lv_at hl 0 rfl) ?_
  refine lv_iload_n hx hb dX6_hours_41 rfl (lv_at hl 3 rfl) ?_
  refine lv_iload_n hx hb dX6_hours_42 rfl (lv_at hl 4 rfl) ?_
  refine lv_iload hx hb dX6_hours_43 (lv_at hl 5 rfl) ?_
  refine xk_fi (va_runV (As := [.int (nI w), .int (nI a), .int (nI m)]) (rest := []) ⟨hx, hb, hml, hown, hts⟩ (k1_foc_ok l hI (w := w) (by omega) (by omega) hZ hw2 hLw ham) (cwV 3 hts gX6_hours_X2_faultOfCells rfl rfl rfl (by decide +kernel) ⟨Nat.le_of_ble_eq_true rfl, Nat.le_of_ble_eq_true rfl⟩) (xk_preV X1_ok hK hX hP (xk_recv hK hP (1 + k) (by omega) (ci := 2) (e1_sheet (by omega) (by omega)) rfl)) rfl rfl hl.1 rfl (lv_room (Nat.le_of_ble_eq_true rfl)) dX6_hours_45 ⟨Nat.le_of_ble_eq_true rfl, Nat.le_of_ble_eq_true rfl⟩) hS (fun H locs hP hS => ?_)
  refine lv_istore (lv' := [(7, .int (nI 0)), (6, .ref (ad (1 + k))), (0, .ref (ad 0)), (1, .int (nI k)), (2, .int (nI w)), (3, .int (nI a)), (4, .int (nI m)), (5, .int (nI 1))]) hx hb dX6_hours_48 hl (by decide) rfl (fun ls hl => ?_)
  refine lv_iload hx hb dX6_hours_50 (lv_at hl 0 rfl) ?_
  refine xn_zeq (tgt := 62) hx hb dX6_hours_52 (by decide) (by omega) (fun c_52 => ?_) (fun c_52 => absurd c_52 (by omega))
  refine lv_aload_n hx hb dX6_hours_62 rfl (lv_at hl 2 rfl) ?_
  refine xk_fi (va_runV (As := []) (rest := []) ⟨hx, hb, hml, hown, hts⟩ (k1_hasWell_t l hI hT.2.1 hn5 (by omega)) (cwV 0 hts gX6_hours_X6_hasWell rfl rfl rfl (by decide +kernel) ⟨Nat.le_of_ble_eq_true rfl, Nat.le_of_ble_eq_true rfl⟩) (xk_preV X1_ok hK hX hP (xk_recv hK hP 0 (by omega) (ci := 6) e1_well rfl)) rfl rfl hl.1 rfl (lv_room (Nat.le_of_ble_eq_true rfl)) dX6_hours_63 ⟨Nat.le_of_ble_eq_true rfl, Nat.le_of_ble_eq_true rfl⟩) hS (fun H locs hP hS => ?_)
  refine xn_zne (tgt := 72) hx hb dX6_hours_66 (by decide) (by omega) (fun c_66 => ?_) (fun c_66 => absurd c_66 (by omega))
  refine lv_iload hx hb dX6_hours_72 (lv_at hl 6 rfl) ?_
  refine lv_aload_n hx hb dX6_hours_74 rfl (lv_at hl 2 rfl) ?_
  refine xk_get hx hb hts (inX6_hours_X6) hown hK hP 0 (by omega) (ci := 6) e1_well rfl 9 (by decide) (flX6_hours_90 hts) rfl (.int (σ0 0 9)) rfl dX6_hours_75 ?_
  refine xn_eqi (y := nI n) hT.2.1 ?_
  refine xn_ine (tgt := 92) hx hb dX6_hours_78 (by decide) (by omega) (by omega) (fun c_78 => absurd c_78 (by omega)) (fun c_78 => ?_)
  refine lv_aload hx hb dX6_hours_81 (lv_at hl 1 rfl) ?_
  refine lv_iload_n hx hb dX6_hours_83 rfl (lv_at hl 5 rfl) ?_
  refine lv_iload hx hb dX6_hours_84 (lv_at hl 6 rfl) ?_
  refine xk_fi (va_runV (As := [.int (nI a), .int (nI m)]) (rest := []) ⟨hx, hb, hml, hown, hts⟩ (k1_holds_t l hI (k := 1 + k) (a := a) (b := m) (by omega) (by omega) hZ hL ham hal) (cwV 2 hts gX6_hours_X2_holdsHours rfl rfl rfl (by decide +kernel) ⟨Nat.le_of_ble_eq_true rfl, Nat.le_of_ble_eq_true rfl⟩) (xk_preV X1_ok hK hX hP (xk_recv hK hP (1 + k) (by omega) (ci := 2) (e1_sheet (by omega) (by omega)) rfl)) rfl rfl hl.1 rfl (lv_room (Nat.le_of_ble_eq_true rfl)) dX6_hours_86 ⟨Nat.le_of_ble_eq_true rfl, Nat.le_of_ble_eq_true rfl⟩) hS (fun H locs hP hS => ?_)
  refine xn_zne (tgt := 95) hx hb dX6_hours_89 (by decide) (by omega) (fun c_89 => ?_) (fun c_89 => absurd c_89 (by omega))
  refine lv_iload hx hb dX6_hours_95 (lv_at hl 7 rfl) ?_
  refine lv_tableIn (tgt := 132) hx hb dX6_hours_97 (by decide) (by decide) (off := 35) (by decide) (by decide) ?_
  refine lv_aload_n hx hb dX6_hours_132 rfl (lv_at hl 2 rfl) ?_
  refine lv_aload hx hb dX6_hours_133 (lv_at hl 1 rfl) ?_
  refine lv_iload_n hx hb dX6_hours_135 rfl (lv_at hl 5 rfl) ?_
  refine xk_fi (va_runV (As := [.ref (ad (1 + k)), .int (nI a)]) (rest := []) ⟨hx, hb, hml, hown, hts⟩ (k1_latestTold l hI (z := 1 + k) (a := a) (hh := (fun x => hv (sc k (a + x)))) hT (by omega) (by omega) hZ hL (by omega) hhh hR hp0) (cwV 2 hts gX6_hours_X6_latestDrawTold rfl rfl rfl (by decide +kernel) ⟨Nat.le_of_ble_eq_true rfl, Nat.le_of_ble_eq_true rfl⟩) (xk_preV X1_ok hK hX hP (xk_recv hK hP 0 (by omega) (ci := 6) e1_well rfl)) rfl rfl hl.1 rfl (lv_room (Nat.le_of_ble_eq_true rfl)) dX6_hours_136 ⟨Nat.le_of_ble_eq_true rfl, Nat.le_of_ble_eq_true rfl⟩) hS (fun H locs hP hS => ?_)
  exact xk_iret hx hb hr (vp_nar_int _) X1_ok hK hX hP hS hlk dX6_hours_139 (⟨rfl, hJ0⟩)

set_option maxHeartbeats 4000000 in
set_option maxRecDepth 100000 in
theorem a1_hours_2 (l : Launch) {D : va_G} {ca : Nat → ClassId} {ad : Nat → Nat} (hI : Ij ad 34) {σ : Sg} {n p g rn : Nat} {d : Nat → Nat} {th rd : Nat → Nat → Nat} {sl sn : Nat → Nat} {sc : Nat → Nat → Int32} {ft tr : Int32} {k : Nat} {w : Nat} {a m : Nat} {hs : Nat → Nat} (hJ : I1 n p g rn d th rd sl sn sc ft tr σ) (hk4 : k < 4) (hw2 : w ≤ 2) (hLw : sl k = w) (ham : a + m ≤ sn k) (hn0 : 0 < n) (hmn : m = n) (hal : ∀ x, x < m → nI 0 ≤ sc k (a + x) ∧ sc k (a + x) ≤ nI 23) (hhs : ∀ x, hs x = hv (sc k (a + x))) : C1i l D ca ad yX6_hours wsX6_hours { frames := 5, cells := 0, slots := 0, locals := 135 } [.ref (ad 0), .int (nI k), .int (nI w), .int (nI a), .int (nI m), .int (nI 2)] σ (fun r σ' => r = (bsy (fun k => cb (fun x => decide (ot p d g th hs x = nI k)) n) 5).1 ∧ I1 n p g rn d th rd sl sn sc (nI 0) tr σ') := by
  refine xk_entry cX6_hours 8 (some .int) (by decide) rfl (Nat.le_of_ble_eq_true rfl) ?_
  intro pP eE sS mM below meth cC hx hb hml hr hts hown hlk hP hK hX hS ls hl
  have hl : lv_has ls 8 [(0, .ref (ad 0)), (1, .int (nI k)), (2, .int (nI w)), (3, .int (nI a)), (4, .int (nI m)), (5, .int (nI 2))] := hl
  obtain ⟨hT, hR, hRd, hSh, hnp, hft, htr⟩ := id hJ
  have hn5 := hT.2.2.1
  have hg9 := hT.2.2.2.1
  have hp6 := hR.2.1
  have hrn8 := hRd.2.1
  refine lv_aload_n hx hb dX6_hours_0 rfl (lv_at hl 0 rfl) ?_
  refine lv_iconst (v := nI 0) hx hb dX6_hours_1 (by decide) ?_
  refine xk_put hx hb hts (inX6_hours_X6) tyX6 tyX6_ok nmX6 hown hK hI hP hS 0 (by omega) (ci := 6) e1_well rfl 11 (by decide) (flX6_hours_59 hts) rfl rfl (by decide +kernel) (Nat.le_of_ble_eq_true rfl) e1_loc (by rw [e1_well]; simp [up]) dX6_hours_2 (fun H locs hP hS => ?_)
  obtain ⟨σ0, hσ0⟩ : ∃ τ, τ = up σ 0 11 (nI 0) := ⟨_, rfl⟩
  rw [← hσ0] at hP
  have hJ0 : I1 n p g rn d th rd sl sn sc (nI 0) tr σ0 := by rw [hσ0]; exact I1_ft hJ
  obtain ⟨hT, hR, hRd, hSh, -, hft, htr⟩ := id hJ0
  have hZ := hSh k hk4
  have hL : sl k < 3 := by omega
  have hk60 := (hZ.2.2 hL).2.1
  have hp0 := hnp.mp hn0
  have hhh : ∀ x, x < n → sc k (a + x) = nI (hs x) ∧ hs x ≤ 23 := fun x hx => by rw [hhs]; exact hv_in (hal x (by omega))
  refine lv_aload_n hx hb dX6_hours_5 rfl (lv_at hl 0 rfl) ?_
  refine lv_iload_n hx hb dX6_hours_6 rfl (lv_at hl 1 rfl) ?_
  refine xk_fa (va_runV (As := [.int (nI k)]) (rest := []) ⟨hx, hb, hml, hown, hts⟩ (k1_sheetAt_in l hI (x := k)  (by omega)) (cwV 1 hts gX6_hours_X6_sheetAt rfl rfl rfl (by decide +kernel) ⟨Nat.le_of_ble_eq_true rfl, Nat.le_of_ble_eq_true rfl⟩) (xk_preV X1_ok hK hX hP (xk_recv hK hP 0 (by omega) (ci := 6) e1_well rfl)) rfl rfl hl.1 rfl (lv_room (Nat.le_of_ble_eq_true rfl)) dX6_hours_7 ⟨Nat.le_of_ble_eq_true rfl, Nat.le_of_ble_eq_true rfl⟩) hS (fun H locs hP hS => ?_)
  refine lv_astore (lv' := [(6, .ref (ad (1 + k))), (0, .ref (ad 0)), (1, .int (nI k)), (2, .int (nI w)), (3, .int (nI a)), (4, .int (nI m)), (5, .int (nI 2))]) hx hb dX6_hours_10 hl (by decide) rfl (fun ls hl => ?_)
  refine lv_aload hx hb dX6_hours_12 (lv_at hl 0 rfl) ?_
  refine lv_ifnonnull (tgt := 19) hx hb dX6_hours_14 (by decide) ?_
  refine lv_iload_n hx hb dX6_hours_19 rfl (lv_at hl 3 rfl) ?_
  refine lv_iconst (v := nI 0) hx hb dX6_hours_20 (by decide) ?_
  refine lv_iconst (v := nI 2) hx hb dX6_hours_21 (by decide) ?_
  refine xk_fi (va_runS (As := [.int (nI w), .int (nI 0), .int (nI 2)]) (rest := []) ⟨hx, hb, hml, hown, hts⟩ (k1_within_t l hI (nI w) (nI 0) (nI 2) (xn_in (by omega) (by omega) (by omega))) (va_cwS 3 hts gX6_hours_X6_within rfl rfl rfl (by decide +kernel) ⟨Nat.le_of_ble_eq_true rfl, Nat.le_of_ble_eq_true rfl⟩) (xk_preS X1_ok hK hX hP) rfl rfl hl.1 rfl (lv_room (Nat.le_of_ble_eq_true rfl)) dX6_hours_22 ⟨Nat.le_of_ble_eq_true rfl, Nat.le_of_ble_eq_true rfl⟩) hS (fun H locs hP hS => ?_)
  refine xn_zeq (tgt := 36) hx hb dX6_hours_25 (by decide) (by omega) (fun c_25 => absurd c_25 (by omega)) (fun c_25 => ?_)
  refine lv_iload hx hb dX6_hours_28 (lv_at hl 6 rfl) ?_
  refine xk_fi (va_runS (As := [.int (nI 2)]) (rest := []) ⟨hx, hb, hml, hown, hts⟩ (k1_asksOfHours_t l hI (nI 2) (Or.inl (xn_in (by omega) (by omega) (by omega)))) (va_cwS 1 hts gX6_hours_X6_asksOfHours rfl rfl rfl (by decide +kernel) ⟨Nat.le_of_ble_eq_true rfl, Nat.le_of_ble_eq_true rfl⟩) (xk_preS X1_ok hK hX hP) rfl rfl hl.1 rfl (lv_room (Nat.le_of_ble_eq_true rfl)) dX6_hours_30 ⟨Nat.le_of_ble_eq_true rfl, Nat.le_of_ble_eq_true rfl⟩) hS (fun H locs hP hS => ?_)
  refine xn_zne (tgt := 39) hx hb dX6_hours_33 (by decide) (by omega) (fun c_33 => ?_) (fun c_33 => absurd c_33 (by omega))
  refine lv_aload hx hb dX6_hours_39 (lv_at hl 0 rfl) ?_
  refine lv_iload_n hx hb dX6_hours_41 rfl (lv_at hl 3 rfl) ?_
  refine lv_iload_n hx hb dX6_hours_42 rfl (lv_at hl 4 rfl) ?_
  refine lv_iload hx hb dX6_hours_43 (lv_at hl 5 rfl) ?_
  refine xk_fi (va_runV (As := [.int (nI w), .int (nI a), .int (nI m)]) (rest := []) ⟨hx, hb, hml, hown, hts⟩ (k1_foc_ok l hI (w := w) (by omega) (by omega) hZ hw2 hLw ham) (cwV 3 hts gX6_hours_X2_faultOfCells rfl rfl rfl (by decide +kernel) ⟨Nat.le_of_ble_eq_true rfl, Nat.le_of_ble_eq_true rfl⟩) (xk_preV X1_ok hK hX hP (xk_recv hK hP (1 + k) (by omega) (ci := 2) (e1_sheet (by omega) (by omega)) rfl)) rfl rfl hl.1 rfl (lv_room (Nat.le_of_ble_eq_true rfl)) dX6_hours_45 ⟨Nat.le_of_ble_eq_true rfl, Nat.le_of_ble_eq_true rfl⟩) hS (fun H locs hP hS => ?_)
  refine lv_istore (lv' := [(7, .int (nI 0)), (6, .ref (ad (1 + k))), (0, .ref (ad 0)), (1, .int (nI k)), (2, .int (nI w)), (3, .int (nI a)), (4, .int (nI m)), (5, .int (nI 2))]) hx hb dX6_hours_48 hl (by decide) rfl (fun ls hl => ?_)
  refine lv_iload hx hb dX6_hours_50 (lv_at hl 0 rfl) ?_
  refine xn_zeq (tgt := 62) hx hb dX6_hours_52 (by decide) (by omega) (fun c_52 => ?_) (fun c_52 => absurd c_52 (by omega))
  refine lv_aload_n hx hb dX6_hours_62 rfl (lv_at hl 2 rfl) ?_
  refine xk_fi (va_runV (As := []) (rest := []) ⟨hx, hb, hml, hown, hts⟩ (k1_hasWell_t l hI hT.2.1 hn5 (by omega)) (cwV 0 hts gX6_hours_X6_hasWell rfl rfl rfl (by decide +kernel) ⟨Nat.le_of_ble_eq_true rfl, Nat.le_of_ble_eq_true rfl⟩) (xk_preV X1_ok hK hX hP (xk_recv hK hP 0 (by omega) (ci := 6) e1_well rfl)) rfl rfl hl.1 rfl (lv_room (Nat.le_of_ble_eq_true rfl)) dX6_hours_63 ⟨Nat.le_of_ble_eq_true rfl, Nat.le_of_ble_eq_true rfl⟩) hS (fun H locs hP hS => ?_)
  refine xn_zne (tgt := 72) hx hb dX6_hours_66 (by decide) (by omega) (fun c_66 => ?_) (fun c_66 => absurd c_66 (by omega))
  refine lv_iload hx hb dX6_hours_72 (lv_at hl 6 rfl) ?_
  refine lv_aload_n hx hb dX6_hours_74 rfl (lv_at hl 2 rfl) ?_
  refine xk_get hx hb hts (inX6_hours_X6) hown hK hP 0 (by omega) (ci := 6) e1_well rfl 9 (by decide) (flX6_hours_90 hts) rfl (.int (σ0 0 9)) rfl dX6_hours_75 ?_
  refine xn_eqi (y := nI n) hT.2.1 ?_
  refine xn_ine (tgt := 92) hx hb dX6_hours_78 (by decide) (by omega) (by omega) (fun c_78 => absurd c_78 (by omega)) (fun c_78 => ?_)
  refine lv_aload hx hb dX6_hours_81 (lv_at hl 1 rfl) ?_
  refine lv_iload_n hx hb dX6_hours_83 rfl (lv_at hl 5 rfl) ?_
  refine lv_iload hx hb dX6_hours_84 (lv_at hl 6 rfl) ?_
  refine xk_fi (va_runV (As := [.int (nI a), .int (nI m)]) (rest := []) ⟨hx, hb, hml, hown, hts⟩ (k1_holds_t l hI (k := 1 + k) (a := a) (b := m) (by omega) (by omega) hZ hL ham hal) (cwV 2 hts gX6_hours_X2_holdsHours rfl rfl rfl (by decide +kernel) ⟨Nat.le_of_ble_eq_true rfl, Nat.le_of_ble_eq_true rfl⟩) (xk_preV X1_ok hK hX hP (xk_recv hK hP (1 + k) (by omega) (ci := 2) (e1_sheet (by omega) (by omega)) rfl)) rfl rfl hl.1 rfl (lv_room (Nat.le_of_ble_eq_true rfl)) dX6_hours_86 ⟨Nat.le_of_ble_eq_true rfl, Nat.le_of_ble_eq_true rfl⟩) hS (fun H locs hP hS => ?_)
  refine xn_zne (tgt := 95) hx hb dX6_hours_89 (by decide) (by omega) (fun c_89 => ?_) (fun c_89 => absurd c_89 (by omega))
  refine lv_iload hx hb dX6_hours_95 (lv_at hl 7 rfl) ?_
  refine lv_tableIn (tgt := 140) hx hb dX6_hours_97 (by decide) (by decide) (off := 43) (by decide) (by decide) ?_
  refine lv_aload_n hx hb dX6_hours_140 rfl (lv_at hl 2 rfl) ?_
  refine lv_aload hx hb dX6_hours_141 (lv_at hl 1 rfl) ?_
  refine lv_iload_n hx hb dX6_hours_143 rfl (lv_at hl 5 rfl) ?_
  refine xk_fi (va_runV (As := [.ref (ad (1 + k)), .int (nI a)]) (rest := []) ⟨hx, hb, hml, hown, hts⟩ (k1_busiest l hI (z := 1 + k) (a := a) (hh := hs) hT (by omega) (by omega) hZ hL (by omega) hhh hR hp0) (cwV 2 hts gX6_hours_X6_busiestDrawerTold rfl rfl rfl (by decide +kernel) ⟨Nat.le_of_ble_eq_true rfl, Nat.le_of_ble_eq_true rfl⟩) (xk_preV X1_ok hK hX hP (xk_recv hK hP 0 (by omega) (ci := 6) e1_well rfl)) rfl rfl hl.1 rfl (lv_room (Nat.le_of_ble_eq_true rfl)) dX6_hours_144 ⟨Nat.le_of_ble_eq_true rfl, Nat.le_of_ble_eq_true rfl⟩) hS (fun H locs hP hS => ?_)
  exact xk_iret hx hb hr (vp_nar_int _) X1_ok hK hX hP hS hlk dX6_hours_147 (⟨rfl, hJ0⟩)

set_option maxHeartbeats 4000000 in
set_option maxRecDepth 100000 in
theorem a1_hours_y (l : Launch) {D : va_G} {ca : Nat → ClassId} {ad : Nat → Nat} (hI : Ij ad 34) {σ : Sg} {n p g rn : Nat} {d : Nat → Nat} {th rd : Nat → Nat → Nat} {sl sn : Nat → Nat} {sc : Nat → Nat → Int32} {ft tr : Int32} {k : Nat} {w : Nat} {a m : Nat} {y : Nat} (hJ : I1 n p g rn d th rd sl sn sc ft tr σ) (hk4 : k < 4) (hw2 : w ≤ 2) (hLw : sl k = w) (ham : a + m ≤ sn k) (hn0 : 0 < n) (hmn : m = n) (hal : ∀ x, x < m → nI 0 ≤ sc k (a + x) ∧ sc k (a + x) ≤ nI 23) (hyn : y < n) : C1i l D ca ad yX6_hours wsX6_hours { frames := 5, cells := 0, slots := 0, locals := 135 } [.ref (ad 0), .int (nI k), .int (nI w), .int (nI a), .int (nI m), .int (nI (10 + y))] σ (fun r σ' => r = ot p d g th (fun x => hv (sc k (a + x))) y ∧ I1 n p g rn d th rd sl sn sc (nI 0) tr σ') := by
  refine xk_entry cX6_hours 8 (some .int) (by decide) rfl (Nat.le_of_ble_eq_true rfl) ?_
  intro pP eE sS mM below meth cC hx hb hml hr hts hown hlk hP hK hX hS ls hl
  have hl : lv_has ls 8 [(0, .ref (ad 0)), (1, .int (nI k)), (2, .int (nI w)), (3, .int (nI a)), (4, .int (nI m)), (5, .int (nI (10 + y)))] := hl
  obtain ⟨hT, hR, hRd, hSh, hnp, hft, htr⟩ := id hJ
  have hn5 := hT.2.2.1
  have hg9 := hT.2.2.2.1
  have hp6 := hR.2.1
  have hrn8 := hRd.2.1
  refine lv_aload_n hx hb dX6_hours_0 rfl (lv_at hl 0 rfl) ?_
  refine lv_iconst (v := nI 0) hx hb dX6_hours_1 (by decide) ?_
  refine xk_put hx hb hts (inX6_hours_X6) tyX6 tyX6_ok nmX6 hown hK hI hP hS 0 (by omega) (ci := 6) e1_well rfl 11 (by decide) (flX6_hours_59 hts) rfl rfl (by decide +kernel) (Nat.le_of_ble_eq_true rfl) e1_loc (by rw [e1_well]; simp [up]) dX6_hours_2 (fun H locs hP hS => ?_)
  obtain ⟨σ0, hσ0⟩ : ∃ τ, τ = up σ 0 11 (nI 0) := ⟨_, rfl⟩
  rw [← hσ0] at hP
  have hJ0 : I1 n p g rn d th rd sl sn sc (nI 0) tr σ0 := by rw [hσ0]; exact I1_ft hJ
  obtain ⟨hT, hR, hRd, hSh, -, hft, htr⟩ := id hJ0
  have hZ := hSh k hk4
  have hL : sl k < 3 := by omega
  have hk60 := (hZ.2.2 hL).2.1
  have hp0 := hnp.mp hn0
  have hhh : ∀ x, x < n → sc k (a + x) = nI ((fun x => hv (sc k (a + x))) x) ∧ (fun x => hv (sc k (a + x))) x ≤ 23 := fun x hx => hv_in (hal x (by omega))
  refine lv_aload_n hx hb dX6_hours_5 rfl (lv_at hl 0 rfl) ?_
  refine lv_iload_n hx hb dX6_hours_6 rfl (lv_at hl 1 rfl) ?_
  refine xk_fa (va_runV (As := [.int (nI k)]) (rest := []) ⟨hx, hb, hml, hown, hts⟩ (k1_sheetAt_in l hI (x := k)  (by omega)) (cwV 1 hts gX6_hours_X6_sheetAt rfl rfl rfl (by decide +kernel) ⟨Nat.le_of_ble_eq_true rfl, Nat.le_of_ble_eq_true rfl⟩) (xk_preV X1_ok hK hX hP (xk_recv hK hP 0 (by omega) (ci := 6) e1_well rfl)) rfl rfl hl.1 rfl (lv_room (Nat.le_of_ble_eq_true rfl)) dX6_hours_7 ⟨Nat.le_of_ble_eq_true rfl, Nat.le_of_ble_eq_true rfl⟩) hS (fun H locs hP hS => ?_)
  refine lv_astore (lv' := [(6, .ref (ad (1 + k))), (0, .ref (ad 0)), (1, .int (nI k)), (2, .int (nI w)), (3, .int (nI a)), (4, .int (nI m)), (5, .int (nI (10 + y)))]) hx hb dX6_hours_10 hl (by decide) rfl (fun ls hl => ?_)
  refine lv_aload hx hb dX6_hours_12 (lv_at hl 0 rfl) ?_
  refine lv_ifnonnull (tgt := 19) hx hb dX6_hours_14 (by decide) ?_
  refine lv_iload_n hx hb dX6_hours_19 rfl (lv_at hl 3 rfl) ?_
  refine lv_iconst (v := nI 0) hx hb dX6_hours_20 (by decide) ?_
  refine lv_iconst (v := nI 2) hx hb dX6_hours_21 (by decide) ?_
  refine xk_fi (va_runS (As := [.int (nI w), .int (nI 0), .int (nI 2)]) (rest := []) ⟨hx, hb, hml, hown, hts⟩ (k1_within_t l hI (nI w) (nI 0) (nI 2) (xn_in (by omega) (by omega) (by omega))) (va_cwS 3 hts gX6_hours_X6_within rfl rfl rfl (by decide +kernel) ⟨Nat.le_of_ble_eq_true rfl, Nat.le_of_ble_eq_true rfl⟩) (xk_preS X1_ok hK hX hP) rfl rfl hl.1 rfl (lv_room (Nat.le_of_ble_eq_true rfl)) dX6_hours_22 ⟨Nat.le_of_ble_eq_true rfl, Nat.le_of_ble_eq_true rfl⟩) hS (fun H locs hP hS => ?_)
  refine xn_zeq (tgt := 36) hx hb dX6_hours_25 (by decide) (by omega) (fun c_25 => absurd c_25 (by omega)) (fun c_25 => ?_)
  refine lv_iload hx hb dX6_hours_28 (lv_at hl 6 rfl) ?_
  refine xk_fi (va_runS (As := [.int (nI (10 + y))]) (rest := []) ⟨hx, hb, hml, hown, hts⟩ (k1_asksOfHours_t l hI (nI (10 + y)) (Or.inr (xn_in (by omega) (by omega) (by omega)))) (va_cwS 1 hts gX6_hours_X6_asksOfHours rfl rfl rfl (by decide +kernel) ⟨Nat.le_of_ble_eq_true rfl, Nat.le_of_ble_eq_true rfl⟩) (xk_preS X1_ok hK hX hP) rfl rfl hl.1 rfl (lv_room (Nat.le_of_ble_eq_true rfl)) dX6_hours_30 ⟨Nat.le_of_ble_eq_true rfl, Nat.le_of_ble_eq_true rfl⟩) hS (fun H locs hP hS => ?_)
  refine xn_zne (tgt := 39) hx hb dX6_hours_33 (by decide) (by omega) (fun c_33 => ?_) (fun c_33 => absurd c_33 (by omega))
  refine lv_aload hx hb dX6_hours_39 (lv_at hl 0 rfl) ?_
  refine lv_iload_n hx hb dX6_hours_41 rfl (lv_at hl 3 rfl) ?_
  refine lv_iload_n hx hb dX6_hours_42 rfl (lv_at hl 4 rfl) ?_
  refine lv_iload hx hb dX6_hours_43 (lv_at hl 5 rfl) ?_
  refine xk_fi (va_runV (As := [.int (nI w), .int (nI a), .int (nI m)]) (rest := []) ⟨hx, hb, hml, hown, hts⟩ (k1_foc_ok l hI (w := w) (by omega) (by omega) hZ hw2 hLw ham) (cwV 3 hts gX6_hours_X2_faultOfCells rfl rfl rfl (by decide +kernel) ⟨Nat.le_of_ble_eq_true rfl, Nat.le_of_ble_eq_true rfl⟩) (xk_preV X1_ok hK hX hP (xk_recv hK hP (1 + k) (by omega) (ci := 2) (e1_sheet (by omega) (by omega)) rfl)) rfl rfl hl.1 rfl (lv_room (Nat.le_of_ble_eq_true rfl)) dX6_hours_45 ⟨Nat.le_of_ble_eq_true rfl, Nat.le_of_ble_eq_true rfl⟩) hS (fun H locs hP hS => ?_)
  refine lv_istore (lv' := [(7, .int (nI 0)), (6, .ref (ad (1 + k))), (0, .ref (ad 0)), (1, .int (nI k)), (2, .int (nI w)), (3, .int (nI a)), (4, .int (nI m)), (5, .int (nI (10 + y)))]) hx hb dX6_hours_48 hl (by decide) rfl (fun ls hl => ?_)
  refine lv_iload hx hb dX6_hours_50 (lv_at hl 0 rfl) ?_
  refine xn_zeq (tgt := 62) hx hb dX6_hours_52 (by decide) (by omega) (fun c_52 => ?_) (fun c_52 => absurd c_52 (by omega))
  refine lv_aload_n hx hb dX6_hours_62 rfl (lv_at hl 2 rfl) ?_
  refine xk_fi (va_runV (As := []) (rest := []) ⟨hx, hb, hml, hown, hts⟩ (k1_hasWell_t l hI hT.2.1 hn5 (by omega)) (cwV 0 hts gX6_hours_X6_hasWell rfl rfl rfl (by decide +kernel) ⟨Nat.le_of_ble_eq_true rfl, Nat.le_of_ble_eq_true rfl⟩) (xk_preV X1_ok hK hX hP (xk_recv hK hP 0 (by omega) (ci := 6) e1_well rfl)) rfl rfl hl.1 rfl (lv_room (Nat.le_of_ble_eq_true rfl)) dX6_hours_63 ⟨Nat.le_of_ble_eq_true rfl, Nat.le_of_ble_eq_true rfl⟩) hS (fun H locs hP hS => ?_)
  refine xn_zne (tgt := 72) hx hb dX6_hours_66 (by decide) (by omega) (fun c_66 => ?_) (fun c_66 => absurd c_66 (by omega))
  refine lv_iload hx hb dX6_hours_72 (lv_at hl 6 rfl) ?_
  refine lv_aload_n hx hb dX6_hours_74 rfl (lv_at hl 2 rfl) ?_
  refine xk_get hx hb hts (inX6_hours_X6) hown hK hP 0 (by omega) (ci := 6) e1_well rfl 9 (by decide) (flX6_hours_90 hts) rfl (.int (σ0 0 9)) rfl dX6_hours_75 ?_
  refine xn_eqi (y := nI n) hT.2.1 ?_
  refine xn_ine (tgt := 92) hx hb dX6_hours_78 (by decide) (by omega) (by omega) (fun c_78 => absurd c_78 (by omega)) (fun c_78 => ?_)
  refine lv_aload hx hb dX6_hours_81 (lv_at hl 1 rfl) ?_
  refine lv_iload_n hx hb dX6_hours_83 rfl (lv_at hl 5 rfl) ?_
  refine lv_iload hx hb dX6_hours_84 (lv_at hl 6 rfl) ?_
  refine xk_fi (va_runV (As := [.int (nI a), .int (nI m)]) (rest := []) ⟨hx, hb, hml, hown, hts⟩ (k1_holds_t l hI (k := 1 + k) (a := a) (b := m) (by omega) (by omega) hZ hL ham hal) (cwV 2 hts gX6_hours_X2_holdsHours rfl rfl rfl (by decide +kernel) ⟨Nat.le_of_ble_eq_true rfl, Nat.le_of_ble_eq_true rfl⟩) (xk_preV X1_ok hK hX hP (xk_recv hK hP (1 + k) (by omega) (ci := 2) (e1_sheet (by omega) (by omega)) rfl)) rfl rfl hl.1 rfl (lv_room (Nat.le_of_ble_eq_true rfl)) dX6_hours_86 ⟨Nat.le_of_ble_eq_true rfl, Nat.le_of_ble_eq_true rfl⟩) hS (fun H locs hP hS => ?_)
  refine xn_zne (tgt := 95) hx hb dX6_hours_89 (by decide) (by omega) (fun c_89 => ?_) (fun c_89 => absurd c_89 (by omega))
  refine lv_iload hx hb dX6_hours_95 (lv_at hl 7 rfl) ?_
  refine lv_tableOut (tgt := 148) hx hb dX6_hours_97 (Or.inr (by rw [nI_toInt (by omega)]; omega)) (by decide) ?_
  refine lv_aload_n hx hb dX6_hours_148 rfl (lv_at hl 2 rfl) ?_
  refine lv_aload hx hb dX6_hours_149 (lv_at hl 1 rfl) ?_
  refine lv_iload_n hx hb dX6_hours_151 rfl (lv_at hl 5 rfl) ?_
  refine lv_iload hx hb dX6_hours_152 (lv_at hl 7 rfl) ?_
  refine lv_bipush (v := nI 10) hx hb dX6_hours_154 (by decide) ?_
  refine xn_isub hx hb (by omega) dX6_hours_156 ?_
  refine xk_fi (va_runV (As := [.ref (ad (1 + k)), .int (nI a), .int (nI ((10 + y) - 10))]) (rest := []) ⟨hx, hb, hml, hown, hts⟩ (k1_drawerTold l hI (z := 1 + k) (a := a) (x := 10 + y - 10) (hh := (fun x => hv (sc k (a + x)))) hT (by omega) (by omega) hZ hL (by omega) hhh hR hp0 (by omega)) (cwV 3 hts gX6_hours_X6_drawerTold rfl rfl rfl (by decide +kernel) ⟨Nat.le_of_ble_eq_true rfl, Nat.le_of_ble_eq_true rfl⟩) (xk_preV X1_ok hK hX hP (xk_recv hK hP 0 (by omega) (ci := 6) e1_well rfl)) rfl rfl hl.1 rfl (lv_room (Nat.le_of_ble_eq_true rfl)) dX6_hours_157 ⟨Nat.le_of_ble_eq_true rfl, Nat.le_of_ble_eq_true rfl⟩) hS (fun H locs hP hS => ?_)
  refine xn_eqi (y := ot p d g th (fun x => hv (sc k (a + x))) y) (by rw [show 10 + y - 10 = y by omega]) ?_
  exact xk_iret hx hb hr (vp_nar_int _) X1_ok hK hX hP hS hlk dX6_hours_160 (⟨rfl, hJ0⟩)

set_option maxHeartbeats 4000000 in
set_option maxRecDepth 100000 in
theorem a1_hours_yo (l : Launch) {D : va_G} {ca : Nat → ClassId} {ad : Nat → Nat} (hI : Ij ad 34) {σ : Sg} {n p g rn : Nat} {d : Nat → Nat} {th rd : Nat → Nat → Nat} {sl sn : Nat → Nat} {sc : Nat → Nat → Int32} {ft tr : Int32} {k : Nat} {w : Nat} {a m : Nat} {y : Nat} (hJ : I1 n p g rn d th rd sl sn sc ft tr σ) (hk4 : k < 4) (hw2 : w ≤ 2) (hLw : sl k = w) (ham : a + m ≤ sn k) (hn0 : 0 < n) (hmn : m = n) (hal : ∀ x, x < m → nI 0 ≤ sc k (a + x) ∧ sc k (a + x) ≤ nI 23) (hyn : n ≤ y) (hy4 : y ≤ 4) : C1i l D ca ad yX6_hours wsX6_hours { frames := 5, cells := 0, slots := 0, locals := 135 } [.ref (ad 0), .int (nI k), .int (nI w), .int (nI a), .int (nI m), .int (nI (10 + y))] σ (fun r σ' => r = -9 ∧ I1 n p g rn d th rd sl sn sc (nI 0) tr σ') := by
  refine xk_entry cX6_hours 8 (some .int) (by decide) rfl (Nat.le_of_ble_eq_true rfl) ?_
  intro pP eE sS mM below meth cC hx hb hml hr hts hown hlk hP hK hX hS ls hl
  have hl : lv_has ls 8 [(0, .ref (ad 0)), (1, .int (nI k)), (2, .int (nI w)), (3, .int (nI a)), (4, .int (nI m)), (5, .int (nI (10 + y)))] := hl
  obtain ⟨hT, hR, hRd, hSh, hnp, hft, htr⟩ := id hJ
  have hn5 := hT.2.2.1
  have hg9 := hT.2.2.2.1
  have hp6 := hR.2.1
  have hrn8 := hRd.2.1
  refine lv_aload_n hx hb dX6_hours_0 rfl (lv_at hl 0 rfl) ?_
  refine lv_iconst (v := nI 0) hx hb dX6_hours_1 (by decide) ?_
  refine xk_put hx hb hts (inX6_hours_X6) tyX6 tyX6_ok nmX6 hown hK hI hP hS 0 (by omega) (ci := 6) e1_well rfl 11 (by decide) (flX6_hours_59 hts) rfl rfl (by decide +kernel) (Nat.le_of_ble_eq_true rfl) e1_loc (by rw [e1_well]; simp [up]) dX6_hours_2 (fun H locs hP hS => ?_)
  obtain ⟨σ0, hσ0⟩ : ∃ τ, τ = up σ 0 11 (nI 0) := ⟨_, rfl⟩
  rw [← hσ0] at hP
  have hJ0 : I1 n p g rn d th rd sl sn sc (nI 0) tr σ0 := by rw [hσ0]; exact I1_ft hJ
  obtain ⟨hT, hR, hRd, hSh, -, hft, htr⟩ := id hJ0
  have hZ := hSh k hk4
  have hL : sl k < 3 := by omega
  have hk60 := (hZ.2.2 hL).2.1
  have hp0 := hnp.mp hn0
  have hhh : ∀ x, x < n → sc k (a + x) = nI ((fun x => hv (sc k (a + x))) x) ∧ (fun x => hv (sc k (a + x))) x ≤ 23 := fun x hx => hv_in (hal x (by omega))
  refine lv_aload_n hx hb dX6_hours_5 rfl (lv_at hl 0 rfl) ?_
  refine lv_iload_n hx hb dX6_hours_6 rfl (lv_at hl 1 rfl) ?_
  refine xk_fa (va_runV (As := [.int (nI k)]) (rest := []) ⟨hx, hb, hml, hown, hts⟩ (k1_sheetAt_in l hI (x := k)  (by omega)) (cwV 1 hts gX6_hours_X6_sheetAt rfl rfl rfl (by decide +kernel) ⟨Nat.le_of_ble_eq_true rfl, Nat.le_of_ble_eq_true rfl⟩) (xk_preV X1_ok hK hX hP (xk_recv hK hP 0 (by omega) (ci := 6) e1_well rfl)) rfl rfl hl.1 rfl (lv_room (Nat.le_of_ble_eq_true rfl)) dX6_hours_7 ⟨Nat.le_of_ble_eq_true rfl, Nat.le_of_ble_eq_true rfl⟩) hS (fun H locs hP hS => ?_)
  refine lv_astore (lv' := [(6, .ref (ad (1 + k))), (0, .ref (ad 0)), (1, .int (nI k)), (2, .int (nI w)), (3, .int (nI a)), (4, .int (nI m)), (5, .int (nI (10 + y)))]) hx hb dX6_hours_10 hl (by decide) rfl (fun ls hl => ?_)
  refine lv_aload hx hb dX6_hours_12 (lv_at hl 0 rfl) ?_
  refine lv_ifnonnull (tgt := 19) hx hb dX6_hours_14 (by decide) ?_
  refine lv_iload_n hx hb dX6_hours_19 rfl (lv_at hl 3 rfl) ?_
  refine lv_iconst (v := nI 0) hx hb dX6_hours_20 (by decide) ?_
  refine lv_iconst (v := nI 2) hx hb dX6_hours_21 (by decide) ?_
  refine xk_fi (va_runS (As := [.int (nI w), .int (nI 0), .int (nI 2)]) (rest := []) ⟨hx, hb, hml, hown, hts⟩ (k1_within_t l hI (nI w) (nI 0) (nI 2) (xn_in (by omega) (by omega) (by omega))) (va_cwS 3 hts gX6_hours_X6_within rfl rfl rfl (by decide +kernel) ⟨Nat.le_of_ble_eq_true rfl, Nat.le_of_ble_eq_true rfl⟩) (xk_preS X1_ok hK hX hP) rfl rfl hl.1 rfl (lv_room (Nat.le_of_ble_eq_true rfl)) dX6_hours_22 ⟨Nat.le_of_ble_eq_true rfl, Nat.le_of_ble_eq_true rfl⟩) hS (fun H locs hP hS => ?_)
  refine xn_zeq (tgt := 36) hx hb dX6_hours_25 (by decide) (by omega) (fun c_25 => absurd c_25 (by omega)) (fun c_25 => ?_)
  refine lv_iload hx hb dX6_hours_28 (lv_at hl 6 rfl) ?_
  refine xk_fi (va_runS (As := [.int (nI (10 + y))]) (rest := []) ⟨hx, hb, hml, hown, hts⟩ (k1_asksOfHours_t l hI (nI (10 + y)) (Or.inr (xn_in (by omega) (by omega) (by omega)))) (va_cwS 1 hts gX6_hours_X6_asksOfHours rfl rfl rfl (by decide +kernel) ⟨Nat.le_of_ble_eq_true rfl, Nat.le_of_ble_eq_true rfl⟩) (xk_preS X1_ok hK hX hP) rfl rfl hl.1 rfl (lv_room (Nat.le_of_ble_eq_true rfl)) dX6_hours_30 ⟨Nat.le_of_ble_eq_true rfl, Nat.le_of_ble_eq_true rfl⟩) hS (fun H locs hP hS => ?_)
  refine xn_zne (tgt := 39) hx hb dX6_hours_33 (by decide) (by omega) (fun c_33 => ?_) (fun c_33 => absurd c_33 (by omega))
  refine lv_aload hx hb dX6_hours_39 (lv_at hl 0 rfl) ?_
  refine lv_iload_n hx hb dX6_hours_41 rfl (lv_at hl 3 rfl) ?_
  refine lv_iload_n hx hb dX6_hours_42 rfl (lv_at hl 4 rfl) ?_
  refine lv_iload hx hb dX6_hours_43 (lv_at hl 5 rfl) ?_
  refine xk_fi (va_runV (As := [.int (nI w), .int (nI a), .int (nI m)]) (rest := []) ⟨hx, hb, hml, hown, hts⟩ (k1_foc_ok l hI (w := w) (by omega) (by omega) hZ hw2 hLw ham) (cwV 3 hts gX6_hours_X2_faultOfCells rfl rfl rfl (by decide +kernel) ⟨Nat.le_of_ble_eq_true rfl, Nat.le_of_ble_eq_true rfl⟩) (xk_preV X1_ok hK hX hP (xk_recv hK hP (1 + k) (by omega) (ci := 2) (e1_sheet (by omega) (by omega)) rfl)) rfl rfl hl.1 rfl (lv_room (Nat.le_of_ble_eq_true rfl)) dX6_hours_45 ⟨Nat.le_of_ble_eq_true rfl, Nat.le_of_ble_eq_true rfl⟩) hS (fun H locs hP hS => ?_)
  refine lv_istore (lv' := [(7, .int (nI 0)), (6, .ref (ad (1 + k))), (0, .ref (ad 0)), (1, .int (nI k)), (2, .int (nI w)), (3, .int (nI a)), (4, .int (nI m)), (5, .int (nI (10 + y)))]) hx hb dX6_hours_48 hl (by decide) rfl (fun ls hl => ?_)
  refine lv_iload hx hb dX6_hours_50 (lv_at hl 0 rfl) ?_
  refine xn_zeq (tgt := 62) hx hb dX6_hours_52 (by decide) (by omega) (fun c_52 => ?_) (fun c_52 => absurd c_52 (by omega))
  refine lv_aload_n hx hb dX6_hours_62 rfl (lv_at hl 2 rfl) ?_
  refine xk_fi (va_runV (As := []) (rest := []) ⟨hx, hb, hml, hown, hts⟩ (k1_hasWell_t l hI hT.2.1 hn5 (by omega)) (cwV 0 hts gX6_hours_X6_hasWell rfl rfl rfl (by decide +kernel) ⟨Nat.le_of_ble_eq_true rfl, Nat.le_of_ble_eq_true rfl⟩) (xk_preV X1_ok hK hX hP (xk_recv hK hP 0 (by omega) (ci := 6) e1_well rfl)) rfl rfl hl.1 rfl (lv_room (Nat.le_of_ble_eq_true rfl)) dX6_hours_63 ⟨Nat.le_of_ble_eq_true rfl, Nat.le_of_ble_eq_true rfl⟩) hS (fun H locs hP hS => ?_)
  refine xn_zne (tgt := 72) hx hb dX6_hours_66 (by decide) (by omega) (fun c_66 => ?_) (fun c_66 => absurd c_66 (by omega))
  refine lv_iload hx hb dX6_hours_72 (lv_at hl 6 rfl) ?_
  refine lv_aload_n hx hb dX6_hours_74 rfl (lv_at hl 2 rfl) ?_
  refine xk_get hx hb hts (inX6_hours_X6) hown hK hP 0 (by omega) (ci := 6) e1_well rfl 9 (by decide) (flX6_hours_90 hts) rfl (.int (σ0 0 9)) rfl dX6_hours_75 ?_
  refine xn_eqi (y := nI n) hT.2.1 ?_
  refine xn_ine (tgt := 92) hx hb dX6_hours_78 (by decide) (by omega) (by omega) (fun c_78 => absurd c_78 (by omega)) (fun c_78 => ?_)
  refine lv_aload hx hb dX6_hours_81 (lv_at hl 1 rfl) ?_
  refine lv_iload_n hx hb dX6_hours_83 rfl (lv_at hl 5 rfl) ?_
  refine lv_iload hx hb dX6_hours_84 (lv_at hl 6 rfl) ?_
  refine xk_fi (va_runV (As := [.int (nI a), .int (nI m)]) (rest := []) ⟨hx, hb, hml, hown, hts⟩ (k1_holds_t l hI (k := 1 + k) (a := a) (b := m) (by omega) (by omega) hZ hL ham hal) (cwV 2 hts gX6_hours_X2_holdsHours rfl rfl rfl (by decide +kernel) ⟨Nat.le_of_ble_eq_true rfl, Nat.le_of_ble_eq_true rfl⟩) (xk_preV X1_ok hK hX hP (xk_recv hK hP (1 + k) (by omega) (ci := 2) (e1_sheet (by omega) (by omega)) rfl)) rfl rfl hl.1 rfl (lv_room (Nat.le_of_ble_eq_true rfl)) dX6_hours_86 ⟨Nat.le_of_ble_eq_true rfl, Nat.le_of_ble_eq_true rfl⟩) hS (fun H locs hP hS => ?_)
  refine xn_zne (tgt := 95) hx hb dX6_hours_89 (by decide) (by omega) (fun c_89 => ?_) (fun c_89 => absurd c_89 (by omega))
  refine lv_iload hx hb dX6_hours_95 (lv_at hl 7 rfl) ?_
  refine lv_tableOut (tgt := 148) hx hb dX6_hours_97 (Or.inr (by rw [nI_toInt (by omega)]; omega)) (by decide) ?_
  refine lv_aload_n hx hb dX6_hours_148 rfl (lv_at hl 2 rfl) ?_
  refine lv_aload hx hb dX6_hours_149 (lv_at hl 1 rfl) ?_
  refine lv_iload_n hx hb dX6_hours_151 rfl (lv_at hl 5 rfl) ?_
  refine lv_iload hx hb dX6_hours_152 (lv_at hl 7 rfl) ?_
  refine lv_bipush (v := nI 10) hx hb dX6_hours_154 (by decide) ?_
  refine xn_isub hx hb (by omega) dX6_hours_156 ?_
  refine xk_fi (va_runV (As := [.ref (ad (1 + k)), .int (nI a), .int (nI ((10 + y) - 10))]) (rest := []) ⟨hx, hb, hml, hown, hts⟩ (k1_drawerTold_no l hI (z := 1 + k) (a := a) (x := 10 + y - 10) hT (by omega) (by omega) (by omega) (by omega)) (cwV 3 hts gX6_hours_X6_drawerTold rfl rfl rfl (by decide +kernel) ⟨Nat.le_of_ble_eq_true rfl, Nat.le_of_ble_eq_true rfl⟩) (xk_preV X1_ok hK hX hP (xk_recv hK hP 0 (by omega) (ci := 6) e1_well rfl)) rfl rfl hl.1 rfl (lv_room (Nat.le_of_ble_eq_true rfl)) dX6_hours_157 ⟨Nat.le_of_ble_eq_true rfl, Nat.le_of_ble_eq_true rfl⟩) hS (fun H locs hP hS => ?_)
  exact xk_iret hx hb hr (vp_nar_int _) X1_ok hK hX hP hS hlk dX6_hours_160 (⟨rfl, hJ0⟩)

set_option maxHeartbeats 4000000 in
set_option maxRecDepth 100000 in
theorem a1_best_no (l : Launch) {D : va_G} {ca : Nat → ClassId} {ad : Nat → Nat} (hI : Ij ad 34) {σ : Sg} {n p g rn : Nat} {d : Nat → Nat} {th rd : Nat → Nat → Nat} {sl sn : Nat → Nat} {sc : Nat → Nat → Int32} {ft tr : Int32} {k : Int32} (hJ : I1 n p g rn d th rd sl sn sc ft tr σ) (hn0 : n = 0) : C1i l D ca ad yX6_best wsX6_best { frames := 6, cells := 0, slots := 0, locals := 154 } [.ref (ad 0), .int k] σ (fun r σ' => r = -3 ∧ I1 n p g rn d th rd sl sn sc ft tr σ') := by
  refine xk_entry cX6_best 3 (some .int) (by decide) rfl (Nat.le_of_ble_eq_true rfl) ?_
  intro pP eE sS mM below meth cC hx hb hml hr hts hown hlk hP hK hX hS ls hl
  have hl : lv_has ls 3 [(0, .ref (ad 0)), (1, .int k)] := hl
  obtain ⟨hT, hR, hRd, hSh, hnp, hft, htr⟩ := id hJ
  have hn5 := hT.2.2.1
  have hg9 := hT.2.2.2.1
  have hp6 := hR.2.1
  have hrn8 := hRd.2.1
  refine lv_aload_n hx hb dX6_best_0 rfl (lv_at hl 0 rfl) ?_
  refine xk_fi (va_runV (As := []) (rest := []) ⟨hx, hb, hml, hown, hts⟩ (k1_hasWell_f l hI hT.2.1 hn5 (by omega)) (cwV 0 hts gX6_best_X6_hasWell rfl rfl rfl (by decide +kernel) ⟨Nat.le_of_ble_eq_true rfl, Nat.le_of_ble_eq_true rfl⟩) (xk_preV X1_ok hK hX hP (xk_recv hK hP 0 (by omega) (ci := 6) e1_well rfl)) rfl rfl hl.1 rfl (lv_room (Nat.le_of_ble_eq_true rfl)) dX6_best_1 ⟨Nat.le_of_ble_eq_true rfl, Nat.le_of_ble_eq_true rfl⟩) hS (fun H locs hP hS => ?_)
  refine xn_zne (tgt := 10) hx hb dX6_best_4 (by decide) (by omega) (fun c_4 => absurd c_4 (by omega)) (fun c_4 => ?_)
  refine lv_bipush (v := (-3)) hx hb dX6_best_7 (by decide) ?_
  exact xk_iret hx hb hr (vp_nar_int _) X1_ok hK hX hP hS hlk dX6_best_9 (⟨rfl, hJ⟩)

set_option maxHeartbeats 4000000 in
set_option maxRecDepth 100000 in
theorem a1_best_ko (l : Launch) {D : va_G} {ca : Nat → ClassId} {ad : Nat → Nat} (hI : Ij ad 34) {σ : Sg} {n p g rn : Nat} {d : Nat → Nat} {th rd : Nat → Nat → Nat} {sl sn : Nat → Nat} {sc : Nat → Nat → Int32} {ft tr : Int32} {k : Int32} (hJ : I1 n p g rn d th rd sl sn sc ft tr σ) (hn0 : 0 < n) (hko : ¬ (-1 ≤ k ∧ k ≤ nI 5)) : C1i l D ca ad yX6_best wsX6_best { frames := 6, cells := 0, slots := 0, locals := 154 } [.ref (ad 0), .int k] σ (fun r σ' => r = -2 ∧ I1 n p g rn d th rd sl sn sc ft tr σ') := by
  refine xk_entry cX6_best 3 (some .int) (by decide) rfl (Nat.le_of_ble_eq_true rfl) ?_
  intro pP eE sS mM below meth cC hx hb hml hr hts hown hlk hP hK hX hS ls hl
  have hl : lv_has ls 3 [(0, .ref (ad 0)), (1, .int k)] := hl
  obtain ⟨hT, hR, hRd, hSh, hnp, hft, htr⟩ := id hJ
  have hn5 := hT.2.2.1
  have hg9 := hT.2.2.2.1
  have hp6 := hR.2.1
  have hrn8 := hRd.2.1
  have hp0 := hnp.mp (by omega)
  refine lv_aload_n hx hb dX6_best_0 rfl (lv_at hl 0 rfl) ?_
  refine xk_fi (va_runV (As := []) (rest := []) ⟨hx, hb, hml, hown, hts⟩ (k1_hasWell_t l hI hT.2.1 hn5 (by omega)) (cwV 0 hts gX6_best_X6_hasWell rfl rfl rfl (by decide +kernel) ⟨Nat.le_of_ble_eq_true rfl, Nat.le_of_ble_eq_true rfl⟩) (xk_preV X1_ok hK hX hP (xk_recv hK hP 0 (by omega) (ci := 6) e1_well rfl)) rfl rfl hl.1 rfl (lv_room (Nat.le_of_ble_eq_true rfl)) dX6_best_1 ⟨Nat.le_of_ble_eq_true rfl, Nat.le_of_ble_eq_true rfl⟩) hS (fun H locs hP hS => ?_)
  refine xn_zne (tgt := 10) hx hb dX6_best_4 (by decide) (by omega) (fun c_4 => ?_) (fun c_4 => absurd c_4 (by omega))
  refine lv_iload_n hx hb dX6_best_10 rfl (lv_at hl 1 rfl) ?_
  refine lv_iconst (v := (-1)) hx hb dX6_best_11 (by decide) ?_
  refine lv_iconst (v := nI 5) hx hb dX6_best_12 (by decide) ?_
  refine xk_fi (va_runS (As := [.int k, .int (-1), .int (nI 5)]) (rest := []) ⟨hx, hb, hml, hown, hts⟩ (k1_within_f l hI k (-1) (nI 5) hko) (va_cwS 3 hts gX6_best_X6_within rfl rfl rfl (by decide +kernel) ⟨Nat.le_of_ble_eq_true rfl, Nat.le_of_ble_eq_true rfl⟩) (xk_preS X1_ok hK hX hP) rfl rfl hl.1 rfl (lv_room (Nat.le_of_ble_eq_true rfl)) dX6_best_13 ⟨Nat.le_of_ble_eq_true rfl, Nat.le_of_ble_eq_true rfl⟩) hS (fun H locs hP hS => ?_)
  refine xn_zne (tgt := 22) hx hb dX6_best_16 (by decide) (by omega) (fun c_16 => absurd c_16 (by omega)) (fun c_16 => ?_)
  refine lv_bipush (v := (-2)) hx hb dX6_best_19 (by decide) ?_
  exact xk_iret hx hb hr (vp_nar_int _) X1_ok hK hX hP hS hlk dX6_best_21 (⟨rfl, hJ⟩)

set_option maxRecDepth 20000 in
theorem flX6_best_32 {s : State} {av : Array Value} (hts : ∀ w ∈ wsX6_best, w.before av s = true) : (Cond.fieldLink RX6 32 "WellBack" "rota" "LWellBack$Rota;").before av s = true := hts _ (by decide +kernel)
set_option maxRecDepth 20000 in
theorem flX6_best_175 {s : State} {av : Array Value} (hts : ∀ w ∈ wsX6_best, w.before av s = true) : (Cond.fieldLink RX6 175 "WellBack$Rota" "places" "I").before av s = true := hts _ (by decide +kernel)
set_option maxRecDepth 20000 in
theorem inX6_best_X1 : ∀ w ∈ u_ws RX1 TX1 2, w ∈ wsX6_best := by decide +kernel
set_option maxRecDepth 20000 in
theorem inX6_best_X6 : ∀ w ∈ u_ws RX6 TX6 13, w ∈ wsX6_best := by decide +kernel
set_option maxHeartbeats 4000000 in
set_option maxRecDepth 100000 in
theorem a1_best_kp (l : Launch) {D : va_G} {ca : Nat → ClassId} {ad : Nat → Nat} (hI : Ij ad 34) {σ : Sg} {n p g rn : Nat} {d : Nat → Nat} {th rd : Nat → Nat → Nat} {sl sn : Nat → Nat} {sc : Nat → Nat → Int32} {ft tr : Int32} {k : Nat} (hJ : I1 n p g rn d th rd sl sn sc ft tr σ) (hn0 : 0 < n) (hk5 : k ≤ 5) (hkp : p ≤ k) : C1i l D ca ad yX6_best wsX6_best { frames := 6, cells := 0, slots := 0, locals := 154 } [.ref (ad 0), .int (nI k)] σ (fun r σ' => r = -9 ∧ I1 n p g rn d th rd sl sn sc ft tr σ') := by
  refine xk_entry cX6_best 3 (some .int) (by decide) rfl (Nat.le_of_ble_eq_true rfl) ?_
  intro pP eE sS mM below meth cC hx hb hml hr hts hown hlk hP hK hX hS ls hl
  have hl : lv_has ls 3 [(0, .ref (ad 0)), (1, .int (nI k))] := hl
  obtain ⟨hT, hR, hRd, hSh, hnp, hft, htr⟩ := id hJ
  have hn5 := hT.2.2.1
  have hg9 := hT.2.2.2.1
  have hp6 := hR.2.1
  have hrn8 := hRd.2.1
  have hp0 := hnp.mp (by omega)
  refine lv_aload_n hx hb dX6_best_0 rfl (lv_at hl 0 rfl) ?_
  refine xk_fi (va_runV (As := []) (rest := []) ⟨hx, hb, hml, hown, hts⟩ (k1_hasWell_t l hI hT.2.1 hn5 (by omega)) (cwV 0 hts gX6_best_X6_hasWell rfl rfl rfl (by decide +kernel) ⟨Nat.le_of_ble_eq_true rfl, Nat.le_of_ble_eq_true rfl⟩) (xk_preV X1_ok hK hX hP (xk_recv hK hP 0 (by omega) (ci := 6) e1_well rfl)) rfl rfl hl.1 rfl (lv_room (Nat.le_of_ble_eq_true rfl)) dX6_best_1 ⟨Nat.le_of_ble_eq_true rfl, Nat.le_of_ble_eq_true rfl⟩) hS (fun H locs hP hS => ?_)
  refine xn_zne (tgt := 10) hx hb dX6_best_4 (by decide) (by omega) (fun c_4 => ?_) (fun c_4 => absurd c_4 (by omega))
  refine lv_iload_n hx hb dX6_best_10 rfl (lv_at hl 1 rfl) ?_
  refine lv_iconst (v := (-1)) hx hb dX6_best_11 (by decide) ?_
  refine lv_iconst (v := nI 5) hx hb dX6_best_12 (by decide) ?_
  refine xk_fi (va_runS (As := [.int (nI k), .int (-1), .int (nI 5)]) (rest := []) ⟨hx, hb, hml, hown, hts⟩ (k1_within_t l hI (nI k) (-1) (nI 5) ⟨m1_le (by omega), nI_le (by omega) (by omega)⟩) (va_cwS 3 hts gX6_best_X6_within rfl rfl rfl (by decide +kernel) ⟨Nat.le_of_ble_eq_true rfl, Nat.le_of_ble_eq_true rfl⟩) (xk_preS X1_ok hK hX hP) rfl rfl hl.1 rfl (lv_room (Nat.le_of_ble_eq_true rfl)) dX6_best_13 ⟨Nat.le_of_ble_eq_true rfl, Nat.le_of_ble_eq_true rfl⟩) hS (fun H locs hP hS => ?_)
  refine xn_zne (tgt := 22) hx hb dX6_best_16 (by decide) (by omega) (fun c_16 => ?_) (fun c_16 => absurd c_16 (by omega))
  refine lv_iload_n hx hb dX6_best_22 rfl (lv_at hl 1 rfl) ?_
  refine lv_aload_n hx hb dX6_best_23 rfl (lv_at hl 0 rfl) ?_
  refine xk_get hx hb hts (inX6_best_X6) hown hK hP 0 (by omega) (ci := 6) e1_well rfl 3 (by decide) (flX6_best_32 hts) rfl (.ref (ad 22)) rfl dX6_best_24 ?_
  refine xk_get hx hb hts (inX6_best_X1) hown hK hP 22 (by omega) (ci := 1) (e1_rota (by omega) (by omega)) rfl 1 (by decide) (flX6_best_175 hts) rfl (.int (σ 22 1)) rfl dX6_best_27 ?_
  refine xn_eqi (y := nI p) hR.1 ?_
  refine xn_ilt (tgt := 36) hx hb dX6_best_30 (by decide) (by omega) (by omega) (fun c_30 => absurd c_30 (by omega)) (fun c_30 => ?_)
  refine lv_bipush (v := (-9)) hx hb dX6_best_33 (by decide) ?_
  exact xk_iret hx hb hr (vp_nar_int _) X1_ok hK hX hP hS hlk dX6_best_35 (⟨rfl, hJ⟩)

set_option maxHeartbeats 4000000 in
set_option maxRecDepth 100000 in
theorem a1_best_m1 (l : Launch) {D : va_G} {ca : Nat → ClassId} {ad : Nat → Nat} (hI : Ij ad 34) {σ : Sg} {n p g rn : Nat} {d : Nat → Nat} {th rd : Nat → Nat → Nat} {sl sn : Nat → Nat} {sc : Nat → Nat → Int32} {ft tr : Int32} (hJ : I1 n p g rn d th rd sl sn sc ft tr σ) (hn0 : 0 < n) : C1i l D ca ad yX6_best wsX6_best { frames := 6, cells := 0, slots := 0, locals := 154 } [.ref (ad 0), .int (-1)] σ (fun r σ' => ∃ b m, IsBest p g th n d b m ∧ r = nI m ∧ I1 n p g rn d th rd sl sn sc ft tr σ') := by
  refine xk_entry cX6_best 3 (some .int) (by decide) rfl (Nat.le_of_ble_eq_true rfl) ?_
  intro pP eE sS mM below meth cC hx hb hml hr hts hown hlk hP hK hX hS ls hl
  have hl : lv_has ls 3 [(0, .ref (ad 0)), (1, .int (-1))] := hl
  obtain ⟨hT, hR, hRd, hSh, hnp, hft, htr⟩ := id hJ
  have hn5 := hT.2.2.1
  have hg9 := hT.2.2.2.1
  have hp6 := hR.2.1
  have hrn8 := hRd.2.1
  have hp0 := hnp.mp (by omega)
  refine lv_aload_n hx hb dX6_best_0 rfl (lv_at hl 0 rfl) ?_
  refine xk_fi (va_runV (As := []) (rest := []) ⟨hx, hb, hml, hown, hts⟩ (k1_hasWell_t l hI hT.2.1 hn5 (by omega)) (cwV 0 hts gX6_best_X6_hasWell rfl rfl rfl (by decide +kernel) ⟨Nat.le_of_ble_eq_true rfl, Nat.le_of_ble_eq_true rfl⟩) (xk_preV X1_ok hK hX hP (xk_recv hK hP 0 (by omega) (ci := 6) e1_well rfl)) rfl rfl hl.1 rfl (lv_room (Nat.le_of_ble_eq_true rfl)) dX6_best_1 ⟨Nat.le_of_ble_eq_true rfl, Nat.le_of_ble_eq_true rfl⟩) hS (fun H locs hP hS => ?_)
  refine xn_zne (tgt := 10) hx hb dX6_best_4 (by decide) (by omega) (fun c_4 => ?_) (fun c_4 => absurd c_4 (by omega))
  refine lv_iload_n hx hb dX6_best_10 rfl (lv_at hl 1 rfl) ?_
  refine lv_iconst (v := (-1)) hx hb dX6_best_11 (by decide) ?_
  refine lv_iconst (v := nI 5) hx hb dX6_best_12 (by decide) ?_
  refine xk_fi (va_runS (As := [.int (-1), .int (-1), .int (nI 5)]) (rest := []) ⟨hx, hb, hml, hown, hts⟩ (k1_within_t l hI (-1) (-1) (nI 5) (by decide)) (va_cwS 3 hts gX6_best_X6_within rfl rfl rfl (by decide +kernel) ⟨Nat.le_of_ble_eq_true rfl, Nat.le_of_ble_eq_true rfl⟩) (xk_preS X1_ok hK hX hP) rfl rfl hl.1 rfl (lv_room (Nat.le_of_ble_eq_true rfl)) dX6_best_13 ⟨Nat.le_of_ble_eq_true rfl, Nat.le_of_ble_eq_true rfl⟩) hS (fun H locs hP hS => ?_)
  refine xn_zne (tgt := 22) hx hb dX6_best_16 (by decide) (by omega) (fun c_16 => ?_) (fun c_16 => absurd c_16 (by omega))
  refine lv_iload_n hx hb dX6_best_22 rfl (lv_at hl 1 rfl) ?_
  refine lv_aload_n hx hb dX6_best_23 rfl (lv_at hl 0 rfl) ?_
  refine xk_get hx hb hts (inX6_best_X6) hown hK hP 0 (by omega) (ci := 6) e1_well rfl 3 (by decide) (flX6_best_32 hts) rfl (.ref (ad 22)) rfl dX6_best_24 ?_
  refine xk_get hx hb hts (inX6_best_X1) hown hK hP 22 (by omega) (ci := 1) (e1_rota (by omega) (by omega)) rfl 1 (by decide) (flX6_best_175 hts) rfl (.int (σ 22 1)) rfl dX6_best_27 ?_
  refine xn_eqi (y := nI p) hR.1 ?_
  refine lv_icmp_lt (tgt := 36) hx hb dX6_best_30 (by decide) (fun c_30 => ?_) (fun c_30 => absurd (m1_lt hp6) c_30)
  refine lv_aload_n hx hb dX6_best_36 rfl (lv_at hl 0 rfl) ?_
  refine xk_ci (va_runV (As := []) (rest := []) ⟨hx, hb, hml, hown, hts⟩ (k1_findBest l hI hT hR hp0) (cwV 0 hts gX6_best_X6_findBestRota rfl rfl rfl (by decide +kernel) ⟨Nat.le_of_ble_eq_true rfl, Nat.le_of_ble_eq_true rfl⟩) (xk_preV X1_ok hK hX hP (xk_recv hK hP 0 (by omega) (ci := 6) e1_well rfl)) rfl rfl hl.1 rfl (lv_room (Nat.le_of_ble_eq_true rfl)) dX6_best_37 ⟨Nat.le_of_ble_eq_true rfl, Nat.le_of_ble_eq_true rfl⟩) hS (fun r1 τ H locs hp hP hS => ?_)
  obtain ⟨b, m, rfl, hRb, hB, hfz⟩ := hp
  have hJt := I1_fr (τ := τ) hJ hfz
  refine lv_istore_n (lv' := [(2, .int (nI m)), (0, .ref (ad 0)), (1, .int (-1))]) hx hb dX6_best_40 rfl hl (by decide) rfl (fun ls hl => ?_)
  refine lv_iload_n hx hb dX6_best_41 rfl (lv_at hl 2 rfl) ?_
  refine lv_iconst (v := (-1)) hx hb dX6_best_42 (by decide) ?_
  refine lv_icmp_ne (tgt := 50) hx hb dX6_best_43 (by decide) (fun c_43 => absurd rfl c_43) (fun c_43 => ?_)
  refine lv_iload_n hx hb dX6_best_46 rfl (lv_at hl 0 rfl) ?_
  refine lv_goto (tgt := 58) hx hb dX6_best_47 (by decide) ?_
  exact xk_iret hx hb hr (vp_nar_int _) X1_ok hK hX hP hS hlk dX6_best_58 (⟨b, m, hB, rfl, hJt⟩)

set_option maxRecDepth 20000 in
theorem flX6_best_39 {s : State} {av : Array Value} (hts : ∀ w ∈ wsX6_best, w.before av s = true) : (Cond.fieldLink RX6 39 "WellBack" "bestRota" "LWellBack$Rota;").before av s = true := hts _ (by decide +kernel)
set_option maxHeartbeats 4000000 in
set_option maxRecDepth 100000 in
theorem a1_best_k (l : Launch) {D : va_G} {ca : Nat → ClassId} {ad : Nat → Nat} (hI : Ij ad 34) {σ : Sg} {n p g rn : Nat} {d : Nat → Nat} {th rd : Nat → Nat → Nat} {sl sn : Nat → Nat} {sc : Nat → Nat → Int32} {ft tr : Int32} {k : Nat} (hJ : I1 n p g rn d th rd sl sn sc ft tr σ) (hn0 : 0 < n) (hk5 : k ≤ 5) (hkp : k < p) : C1i l D ca ad yX6_best wsX6_best { frames := 6, cells := 0, slots := 0, locals := 154 } [.ref (ad 0), .int (nI k)] σ (fun r σ' => ∃ b m, IsBest p g th n d b m ∧ r = nI (b k) ∧ I1 n p g rn d th rd sl sn sc ft tr σ') := by
  refine xk_entry cX6_best 3 (some .int) (by decide) rfl (Nat.le_of_ble_eq_true rfl) ?_
  intro pP eE sS mM below meth cC hx hb hml hr hts hown hlk hP hK hX hS ls hl
  have hl : lv_has ls 3 [(0, .ref (ad 0)), (1, .int (nI k))] := hl
  obtain ⟨hT, hR, hRd, hSh, hnp, hft, htr⟩ := id hJ
  have hn5 := hT.2.2.1
  have hg9 := hT.2.2.2.1
  have hp6 := hR.2.1
  have hrn8 := hRd.2.1
  have hp0 := hnp.mp (by omega)
  refine lv_aload_n hx hb dX6_best_0 rfl (lv_at hl 0 rfl) ?_
  refine xk_fi (va_runV (As := []) (rest := []) ⟨hx, hb, hml, hown, hts⟩ (k1_hasWell_t l hI hT.2.1 hn5 (by omega)) (cwV 0 hts gX6_best_X6_hasWell rfl rfl rfl (by decide +kernel) ⟨Nat.le_of_ble_eq_true rfl, Nat.le_of_ble_eq_true rfl⟩) (xk_preV X1_ok hK hX hP (xk_recv hK hP 0 (by omega) (ci := 6) e1_well rfl)) rfl rfl hl.1 rfl (lv_room (Nat.le_of_ble_eq_true rfl)) dX6_best_1 ⟨Nat.le_of_ble_eq_true rfl, Nat.le_of_ble_eq_true rfl⟩) hS (fun H locs hP hS => ?_)
  refine xn_zne (tgt := 10) hx hb dX6_best_4 (by decide) (by omega) (fun c_4 => ?_) (fun c_4 => absurd c_4 (by omega))
  refine lv_iload_n hx hb dX6_best_10 rfl (lv_at hl 1 rfl) ?_
  refine lv_iconst (v := (-1)) hx hb dX6_best_11 (by decide) ?_
  refine lv_iconst (v := nI 5) hx hb dX6_best_12 (by decide) ?_
  refine xk_fi (va_runS (As := [.int (nI k), .int (-1), .int (nI 5)]) (rest := []) ⟨hx, hb, hml, hown, hts⟩ (k1_within_t l hI (nI k) (-1) (nI 5) ⟨m1_le (by omega), nI_le (by omega) (by omega)⟩) (va_cwS 3 hts gX6_best_X6_within rfl rfl rfl (by decide +kernel) ⟨Nat.le_of_ble_eq_true rfl, Nat.le_of_ble_eq_true rfl⟩) (xk_preS X1_ok hK hX hP) rfl rfl hl.1 rfl (lv_room (Nat.le_of_ble_eq_true rfl)) dX6_best_13 ⟨Nat.le_of_ble_eq_true rfl, Nat.le_of_ble_eq_true rfl⟩) hS (fun H locs hP hS => ?_)
  refine xn_zne (tgt := 22) hx hb dX6_best_16 (by decide) (by omega) (fun c_16 => ?_) (fun c_16 => absurd c_16 (by omega))
  refine lv_iload_n hx hb dX6_best_22 rfl (lv_at hl 1 rfl) ?_
  refine lv_aload_n hx hb dX6_best_23 rfl (lv_at hl 0 rfl) ?_
  refine xk_get hx hb hts (inX6_best_X6) hown hK hP 0 (by omega) (ci := 6) e1_well rfl 3 (by decide) (flX6_best_32 hts) rfl (.ref (ad 22)) rfl dX6_best_24 ?_
  refine xk_get hx hb hts (inX6_best_X1) hown hK hP 22 (by omega) (ci := 1) (e1_rota (by omega) (by omega)) rfl 1 (by decide) (flX6_best_175 hts) rfl (.int (σ 22 1)) rfl dX6_best_27 ?_
  refine xn_eqi (y := nI p) hR.1 ?_
  refine xn_ilt (tgt := 36) hx hb dX6_best_30 (by decide) (by omega) (by omega) (fun c_30 => ?_) (fun c_30 => absurd c_30 (by omega))
  refine lv_aload_n hx hb dX6_best_36 rfl (lv_at hl 0 rfl) ?_
  refine xk_ci (va_runV (As := []) (rest := []) ⟨hx, hb, hml, hown, hts⟩ (k1_findBest l hI hT hR hp0) (cwV 0 hts gX6_best_X6_findBestRota rfl rfl rfl (by decide +kernel) ⟨Nat.le_of_ble_eq_true rfl, Nat.le_of_ble_eq_true rfl⟩) (xk_preV X1_ok hK hX hP (xk_recv hK hP 0 (by omega) (ci := 6) e1_well rfl)) rfl rfl hl.1 rfl (lv_room (Nat.le_of_ble_eq_true rfl)) dX6_best_37 ⟨Nat.le_of_ble_eq_true rfl, Nat.le_of_ble_eq_true rfl⟩) hS (fun r1 τ H locs hp hP hS => ?_)
  obtain ⟨b, m, rfl, hRb, hB, hfz⟩ := hp
  have hJt := I1_fr (τ := τ) hJ hfz
  refine lv_istore_n (lv' := [(2, .int (nI m)), (0, .ref (ad 0)), (1, .int (nI k))]) hx hb dX6_best_40 rfl hl (by decide) rfl (fun ls hl => ?_)
  refine lv_iload_n hx hb dX6_best_41 rfl (lv_at hl 2 rfl) ?_
  refine lv_iconst (v := (-1)) hx hb dX6_best_42 (by decide) ?_
  refine lv_icmp_ne (tgt := 50) hx hb dX6_best_43 (by decide) (fun c_43 => ?_) (fun c_43 => absurd c_43 (m1_ne (by omega)))
  refine lv_aload_n hx hb dX6_best_50 rfl (lv_at hl 1 rfl) ?_
  refine xk_get hx hb hts (inX6_best_X6) hown hK hP 0 (by omega) (ci := 6) e1_well rfl 5 (by decide) (flX6_best_39 hts) rfl (.ref (ad 24)) rfl dX6_best_51 ?_
  refine lv_iload_n hx hb dX6_best_54 rfl (lv_at hl 2 rfl) ?_
  refine xk_fi (va_runV (As := [.int (nI k)]) (rest := []) ⟨hx, hb, hml, hown, hts⟩ (k1_drawerIn l hI (q := 24) (d := b) (h := k) (by omega) (by omega) hRb (by omega) (by omega)) (cwV 1 hts gX6_best_X1_drawerIn rfl rfl rfl (by decide +kernel) ⟨Nat.le_of_ble_eq_true rfl, Nat.le_of_ble_eq_true rfl⟩) (xk_preV X1_ok hK hX hP (xk_recv hK hP 24 (by omega) (ci := 1) (e1_rota (by omega) (by omega)) rfl)) rfl rfl hl.1 rfl (lv_room (Nat.le_of_ble_eq_true rfl)) dX6_best_55 ⟨Nat.le_of_ble_eq_true rfl, Nat.le_of_ble_eq_true rfl⟩) hS (fun H locs hP hS => ?_)
  rw [Nat.mod_eq_of_lt hkp]
  exact xk_iret hx hb hr (vp_nar_int _) X1_ok hK hX hP hS hlk dX6_best_58 (⟨b, m, hB, rfl, hJt⟩)
