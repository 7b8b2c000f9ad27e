set_option maxHeartbeats 4000000 in
set_option maxRecDepth 100000 in
theorem k1_within (l : Launch) {D : va_G} {ca : Nat → ClassId} {ad : Nat → Nat} (hI : Ij ad 34) {σ : Sg} (v a b : Int32)  : C1i l D ca ad yX6_within wsX6_within { frames := 0, cells := 0, slots := 0, locals := 0 } [.int v, .int a, .int b] σ (xFn (bz (a ≤ v ∧ v ≤ b)) σ) := by
  refine xk_entry cX6_within 3 (some .boolean) (by decide) rfl (Nat.le_of_ble_eq_true rfl) ?_
  intro pP eE sS mM below meth cC hx hb hml hr hts hown hlk hP hK hX hS ls hl
  have hl : lv_has ls 3 [(0, .int v), (1, .int a), (2, .int b)] := hl
  refine lv_iload_n hx hb dX6_within_0 rfl (lv_at hl 0 rfl) ?_
  refine lv_iload_n hx hb dX6_within_1 rfl (lv_at hl 1 rfl) ?_
  refine lv_icmp_lt (tgt := 14) hx hb dX6_within_2 (by decide) (fun c_2 => ?_) (fun c_2 => ?_)
  · refine lv_iconst (v := nI 0) hx hb dX6_within_14 (by decide) ?_
    exact xk_iret hx hb hr rfl X1_ok hK hX hP hS hlk dX6_within_15 (⟨(bz_f fun q => Int32.not_lt.mpr q.1 c_2).symm, rfl⟩)
  · refine lv_iload_n hx hb dX6_within_5 rfl (lv_at hl 0 rfl) ?_
    refine lv_iload_n hx hb dX6_within_6 rfl (lv_at hl 2 rfl) ?_
    refine lv_icmp_gt (tgt := 14) hx hb dX6_within_7 (by decide) (fun c_7 => ?_) (fun c_7 => ?_)
    · refine lv_iconst (v := nI 0) hx hb dX6_within_14 (by decide) ?_
      exact xk_iret hx hb hr rfl X1_ok hK hX hP hS hlk dX6_within_15 (⟨(bz_f fun q => Int32.not_lt.mpr q.2 c_7).symm, rfl⟩)
    · refine lv_iconst (v := nI 1) hx hb dX6_within_10 (by decide) ?_
      refine lv_goto (tgt := 15) hx hb dX6_within_11 (by decide) ?_
      exact xk_iret hx hb hr rfl X1_ok hK hX hP hS hlk dX6_within_15 (⟨(bz_t ⟨Int32.not_lt.mp c_2, Int32.not_lt.mp c_7⟩).symm, rfl⟩)

theorem k1_within_t (l : Launch) {D : va_G} {ca : Nat → ClassId} {ad : Nat → Nat} (hI : Ij ad 34) {σ : Sg} (v a b : Int32)  (h : a ≤ v ∧ v ≤ b) : C1i l D ca ad yX6_within wsX6_within { frames := 0, cells := 0, slots := 0, locals := 0 } [.int v, .int a, .int b] σ (xFn (nI 1) σ) := by
  have k := k1_within l (D := D) (ca := ca) hI (σ := σ) v a b
  rwa [bz_t h] at k
theorem k1_within_f (l : Launch) {D : va_G} {ca : Nat → ClassId} {ad : Nat → Nat} (hI : Ij ad 34) {σ : Sg} (v a b : Int32)  (h : ¬ (a ≤ v ∧ v ≤ b)) : C1i l D ca ad yX6_within wsX6_within { frames := 0, cells := 0, slots := 0, locals := 0 } [.int v, .int a, .int b] σ (xFn (nI 0) σ) := by
  have k := k1_within l (D := D) (ca := ca) hI (σ := σ) v a b
  rwa [bz_f h] at k

set_option maxHeartbeats 4000000 in
set_option maxRecDepth 100000 in
theorem k1_isDrawer (l : Launch) {D : va_G} {ca : Nat → ClassId} {ad : Nat → Nat} (hI : Ij ad 34) {σ : Sg} (v : Int32)  : C1i l D ca ad yX6_isDrawer wsX6_isDrawer { frames := 1, cells := 0, slots := 0, locals := 22 } [.int v] σ (xFn (bz (nI 0 ≤ v ∧ v ≤ nI 4)) σ) := by
  refine xk_entry cX6_isDrawer 1 (some .boolean) (by decide) rfl (Nat.le_of_ble_eq_true rfl) ?_
  intro pP eE sS mM below meth cC hx hb hml hr hts hown hlk hP hK hX hS ls hl
  have hl : lv_has ls 1 [(0, .int v)] := hl
  refine lv_iload_n hx hb dX6_isDrawer_0 rfl (lv_at hl 0 rfl) ?_
  refine lv_iconst (v := nI 0) hx hb dX6_isDrawer_1 (by decide) ?_
  refine lv_iconst (v := nI 4) hx hb dX6_isDrawer_2 (by decide) ?_
  by_cases q_3 : nI 0 ≤ v ∧ v ≤ nI 4
  · refine xk_fi (va_runS (As := [.int v, .int (nI 0), .int (nI 4)]) (rest := []) ⟨hx, hb, hml, hown, hts⟩ (k1_within_t l hI v (nI 0) (nI 4) q_3) (va_cwS 3 hts gX6_isDrawer_X6_within rfl rfl rfl (by decide +kernel) ⟨Nat.le_of_ble_eq_true rfl, Nat.le_of_ble_eq_true rfl⟩) (xk_preS X1_ok hK hX hP) rfl rfl hl.1 rfl (lv_room (Nat.le_of_ble_eq_true rfl)) dX6_isDrawer_3 ⟨Nat.le_of_ble_eq_true rfl, Nat.le_of_ble_eq_true rfl⟩) hS (fun H locs hP hS => ?_)
    exact xk_iret hx hb hr rfl X1_ok hK hX hP hS hlk dX6_isDrawer_6 (⟨(bz_t q_3).symm, rfl⟩)
  · refine xk_fi (va_runS (As := [.int v, .int (nI 0), .int (nI 4)]) (rest := []) ⟨hx, hb, hml, hown, hts⟩ (k1_within_f l hI v (nI 0) (nI 4) q_3) (va_cwS 3 hts gX6_isDrawer_X6_within rfl rfl rfl (by decide +kernel) ⟨Nat.le_of_ble_eq_true rfl, Nat.le_of_ble_eq_true rfl⟩) (xk_preS X1_ok hK hX hP) rfl rfl hl.1 rfl (lv_room (Nat.le_of_ble_eq_true rfl)) dX6_isDrawer_3 ⟨Nat.le_of_ble_eq_true rfl, Nat.le_of_ble_eq_true rfl⟩) hS (fun H locs hP hS => ?_)
    exact xk_iret hx hb hr rfl X1_ok hK hX hP hS hlk dX6_isDrawer_6 (⟨(bz_f q_3).symm, rfl⟩)

theorem k1_isDrawer_t (l : Launch) {D : va_G} {ca : Nat → ClassId} {ad : Nat → Nat} (hI : Ij ad 34) {σ : Sg} (v : Int32)  (h : nI 0 ≤ v ∧ v ≤ nI 4) : C1i l D ca ad yX6_isDrawer wsX6_isDrawer { frames := 1, cells := 0, slots := 0, locals := 22 } [.int v] σ (xFn (nI 1) σ) := by
  have k := k1_isDrawer l (D := D) (ca := ca) hI (σ := σ) v
  rwa [bz_t h] at k
theorem k1_isDrawer_f (l : Launch) {D : va_G} {ca : Nat → ClassId} {ad : Nat → Nat} (hI : Ij ad 34) {σ : Sg} (v : Int32)  (h : ¬ (nI 0 ≤ v ∧ v ≤ nI 4)) : C1i l D ca ad yX6_isDrawer wsX6_isDrawer { frames := 1, cells := 0, slots := 0, locals := 22 } [.int v] σ (xFn (nI 0) σ) := by
  have k := k1_isDrawer l (D := D) (ca := ca) hI (σ := σ) v
  rwa [bz_f h] at k

set_option maxHeartbeats 4000000 in
set_option maxRecDepth 100000 in
theorem k2_within (l : Launch) {D : va_G} {ca : Nat → ClassId} {ad : Nat → Nat} (hI : Ij ad 18) {σ : Sg} (v a b : Int32)  : C2i l D ca ad yX7_within wsX7_within { frames := 0, cells := 0, slots := 0, locals := 0 } [.int v, .int a, .int b] σ (xFn (bz (a ≤ v ∧ v ≤ b)) σ) := by
  refine xk_entry cX7_within 3 (some .boolean) (by decide) rfl (Nat.le_of_ble_eq_true rfl) ?_
  intro pP eE sS mM below meth cC hx hb hml hr hts hown hlk hP hK hX hS ls hl
  have hl : lv_has ls 3 [(0, .int v), (1, .int a), (2, .int b)] := hl
  refine lv_iload_n hx hb dX7_within_0 rfl (lv_at hl 0 rfl) ?_
  refine lv_iload_n hx hb dX7_within_1 rfl (lv_at hl 1 rfl) ?_
  refine lv_icmp_lt (tgt := 14) hx hb dX7_within_2 (by decide) (fun c_2 => ?_) (fun c_2 => ?_)
  · refine lv_iconst (v := nI 0) hx hb dX7_within_14 (by decide) ?_
    exact xk_iret hx hb hr rfl X2_ok hK hX hP hS hlk dX7_within_15 (⟨(bz_f fun q => Int32.not_lt.mpr q.1 c_2).symm, rfl⟩)
  · refine lv_iload_n hx hb dX7_within_5 rfl (lv_at hl 0 rfl) ?_
    refine lv_iload_n hx hb dX7_within_6 rfl (lv_at hl 2 rfl) ?_
    refine lv_icmp_gt (tgt := 14) hx hb dX7_within_7 (by decide) (fun c_7 => ?_) (fun c_7 => ?_)
    · refine lv_iconst (v := nI 0) hx hb dX7_within_14 (by decide) ?_
      exact xk_iret hx hb hr rfl X2_ok hK hX hP hS hlk dX7_within_15 (⟨(bz_f fun q => Int32.not_lt.mpr q.2 c_7).symm, rfl⟩)
    · refine lv_iconst (v := nI 1) hx hb dX7_within_10 (by decide) ?_
      refine lv_goto (tgt := 15) hx hb dX7_within_11 (by decide) ?_
      exact xk_iret hx hb hr rfl X2_ok hK hX hP hS hlk dX7_within_15 (⟨(bz_t ⟨Int32.not_lt.mp c_2, Int32.not_lt.mp c_7⟩).symm, rfl⟩)

theorem k2_within_t (l : Launch) {D : va_G} {ca : Nat → ClassId} {ad : Nat → Nat} (hI : Ij ad 18) {σ : Sg} (v a b : Int32)  (h : a ≤ v ∧ v ≤ b) : C2i l D ca ad yX7_within wsX7_within { frames := 0, cells := 0, slots := 0, locals := 0 } [.int v, .int a, .int b] σ (xFn (nI 1) σ) := by
  have k := k2_within l (D := D) (ca := ca) hI (σ := σ) v a b
  rwa [bz_t h] at k
theorem k2_within_f (l : Launch) {D : va_G} {ca : Nat → ClassId} {ad : Nat → Nat} (hI : Ij ad 18) {σ : Sg} (v a b : Int32)  (h : ¬ (a ≤ v ∧ v ≤ b)) : C2i l D ca ad yX7_within wsX7_within { frames := 0, cells := 0, slots := 0, locals := 0 } [.int v, .int a, .int b] σ (xFn (nI 0) σ) := by
  have k := k2_within l (D := D) (ca := ca) hI (σ := σ) v a b
  rwa [bz_f h] at k

set_option maxHeartbeats 4000000 in
set_option maxRecDepth 100000 in
theorem k2_isDrawer (l : Launch) {D : va_G} {ca : Nat → ClassId} {ad : Nat → Nat} (hI : Ij ad 18) {σ : Sg} (v : Int32)  : C2i l D ca ad yX7_isDrawer wsX7_isDrawer { frames := 1, cells := 0, slots := 0, locals := 22 } [.int v] σ (xFn (bz (nI 0 ≤ v ∧ v ≤ nI 4)) σ) := by
  refine xk_entry cX7_isDrawer 1 (some .boolean) (by decide) rfl (Nat.le_of_ble_eq_true rfl) ?_
  intro pP eE sS mM below meth cC hx hb hml hr hts hown hlk hP hK hX hS ls hl
  have hl : lv_has ls 1 [(0, .int v)] := hl
  refine lv_iload_n hx hb dX7_isDrawer_0 rfl (lv_at hl 0 rfl) ?_
  refine lv_iconst (v := nI 0) hx hb dX7_isDrawer_1 (by decide) ?_
  refine lv_iconst (v := nI 4) hx hb dX7_isDrawer_2 (by decide) ?_
  by_cases q_3 : nI 0 ≤ v ∧ v ≤ nI 4
  · refine xk_fi (va_runS (As := [.int v, .int (nI 0), .int (nI 4)]) (rest := []) ⟨hx, hb, hml, hown, hts⟩ (k2_within_t l hI v (nI 0) (nI 4) q_3) (va_cwS 3 hts gX7_isDrawer_X7_within rfl rfl rfl (by decide +kernel) ⟨Nat.le_of_ble_eq_true rfl, Nat.le_of_ble_eq_true rfl⟩) (xk_preS X2_ok hK hX hP) rfl rfl hl.1 rfl (lv_room (Nat.le_of_ble_eq_true rfl)) dX7_isDrawer_3 ⟨Nat.le_of_ble_eq_true rfl, Nat.le_of_ble_eq_true rfl⟩) hS (fun H locs hP hS => ?_)
    exact xk_iret hx hb hr rfl X2_ok hK hX hP hS hlk dX7_isDrawer_6 (⟨(bz_t q_3).symm, rfl⟩)
  · refine xk_fi (va_runS (As := [.int v, .int (nI 0), .int (nI 4)]) (rest := []) ⟨hx, hb, hml, hown, hts⟩ (k2_within_f l hI v (nI 0) (nI 4) q_3) (va_cwS 3 hts gX7_isDrawer_X7_within rfl rfl rfl (by decide +kernel) ⟨Nat.le_of_ble_eq_true rfl, Nat.le_of_ble_eq_true rfl⟩) (xk_preS X2_ok hK hX hP) rfl rfl hl.1 rfl (lv_room (Nat.le_of_ble_eq_true rfl)) dX7_isDrawer_3 ⟨Nat.le_of_ble_eq_true rfl, Nat.le_of_ble_eq_true rfl⟩) hS (fun H locs hP hS => ?_)
    exact xk_iret hx hb hr rfl X2_ok hK hX hP hS hlk dX7_isDrawer_6 (⟨(bz_f q_3).symm, rfl⟩)

theorem k2_isDrawer_t (l : Launch) {D : va_G} {ca : Nat → ClassId} {ad : Nat → Nat} (hI : Ij ad 18) {σ : Sg} (v : Int32)  (h : nI 0 ≤ v ∧ v ≤ nI 4) : C2i l D ca ad yX7_isDrawer wsX7_isDrawer { frames := 1, cells := 0, slots := 0, locals := 22 } [.int v] σ (xFn (nI 1) σ) := by
  have k := k2_isDrawer l (D := D) (ca := ca) hI (σ := σ) v
  rwa [bz_t h] at k
theorem k2_isDrawer_f (l : Launch) {D : va_G} {ca : Nat → ClassId} {ad : Nat → Nat} (hI : Ij ad 18) {σ : Sg} (v : Int32)  (h : ¬ (nI 0 ≤ v ∧ v ≤ nI 4)) : C2i l D ca ad yX7_isDrawer wsX7_isDrawer { frames := 1, cells := 0, slots := 0, locals := 22 } [.int v] σ (xFn (nI 0) σ) := by
  have k := k2_isDrawer l (D := D) (ca := ca) hI (σ := σ) v
  rwa [bz_f h] at k

set_option maxHeartbeats 4000000 in
set_option maxRecDepth 100000 in
theorem k2_isSheet (l : Launch) {D : va_G} {ca : Nat → ClassId} {ad : Nat → Nat} (hI : Ij ad 18) {σ : Sg} (v : Int32)  : C2i l D ca ad yX7_isSheet wsX7_isSheet { frames := 1, cells := 0, slots := 0, locals := 22 } [.int v] σ (xFn (bz (nI 0 ≤ v ∧ v ≤ nI 3)) σ) := by
  refine xk_entry cX7_isSheet 1 (some .boolean) (by decide) rfl (Nat.le_of_ble_eq_true rfl) ?_
  intro pP eE sS mM below meth cC hx hb hml hr hts hown hlk hP hK hX hS ls hl
  have hl : lv_has ls 1 [(0, .int v)] := hl
  refine lv_iload_n hx hb dX7_isSheet_0 rfl (lv_at hl 0 rfl) ?_
  refine lv_iconst (v := nI 0) hx hb dX7_isSheet_1 (by decide) ?_
  refine lv_iconst (v := nI 3) hx hb dX7_isSheet_2 (by decide) ?_
  by_cases q_3 : nI 0 ≤ v ∧ v ≤ nI 3
  · refine xk_fi (va_runS (As := [.int v, .int (nI 0), .int (nI 3)]) (rest := []) ⟨hx, hb, hml, hown, hts⟩ (k2_within_t l hI v (nI 0) (nI 3) q_3) (va_cwS 3 hts gX7_isSheet_X7_within rfl rfl rfl (by decide +kernel) ⟨Nat.le_of_ble_eq_true rfl, Nat.le_of_ble_eq_true rfl⟩) (xk_preS X2_ok hK hX hP) rfl rfl hl.1 rfl (lv_room (Nat.le_of_ble_eq_true rfl)) dX7_isSheet_3 ⟨Nat.le_of_ble_eq_true rfl, Nat.le_of_ble_eq_true rfl⟩) hS (fun H locs hP hS => ?_)
    exact xk_iret hx hb hr rfl X2_ok hK hX hP hS hlk dX7_isSheet_6 (⟨(bz_t q_3).symm, rfl⟩)
  · refine xk_fi (va_runS (As := [.int v, .int (nI 0), .int (nI 3)]) (rest := []) ⟨hx, hb, hml, hown, hts⟩ (k2_within_f l hI v (nI 0) (nI 3) q_3) (va_cwS 3 hts gX7_isSheet_X7_within rfl rfl rfl (by decide +kernel) ⟨Nat.le_of_ble_eq_true rfl, Nat.le_of_ble_eq_true rfl⟩) (xk_preS X2_ok hK hX hP) rfl rfl hl.1 rfl (lv_room (Nat.le_of_ble_eq_true rfl)) dX7_isSheet_3 ⟨Nat.le_of_ble_eq_true rfl, Nat.le_of_ble_eq_true rfl⟩) hS (fun H locs hP hS => ?_)
    exact xk_iret hx hb hr rfl X2_ok hK hX hP hS hlk dX7_isSheet_6 (⟨(bz_f q_3).symm, rfl⟩)

theorem k2_isSheet_t (l : Launch) {D : va_G} {ca : Nat → ClassId} {ad : Nat → Nat} (hI : Ij ad 18) {σ : Sg} (v : Int32)  (h : nI 0 ≤ v ∧ v ≤ nI 3) : C2i l D ca ad yX7_isSheet wsX7_isSheet { frames := 1, cells := 0, slots := 0, locals := 22 } [.int v] σ (xFn (nI 1) σ) := by
  have k := k2_isSheet l (D := D) (ca := ca) hI (σ := σ) v
  rwa [bz_t h] at k
theorem k2_isSheet_f (l : Launch) {D : va_G} {ca : Nat → ClassId} {ad : Nat → Nat} (hI : Ij ad 18) {σ : Sg} (v : Int32)  (h : ¬ (nI 0 ≤ v ∧ v ≤ nI 3)) : C2i l D ca ad yX7_isSheet wsX7_isSheet { frames := 1, cells := 0, slots := 0, locals := 22 } [.int v] σ (xFn (nI 0) σ) := by
  have k := k2_isSheet l (D := D) (ca := ca) hI (σ := σ) v
  rwa [bz_f h] at k

set_option maxHeartbeats 4000000 in
set_option maxRecDepth 100000 in
theorem k2_isSort (l : Launch) {D : va_G} {ca : Nat → ClassId} {ad : Nat → Nat} (hI : Ij ad 18) {σ : Sg} (v : Int32)  : C2i l D ca ad yX7_isSort wsX7_isSort { frames := 1, cells := 0, slots := 0, locals := 22 } [.int v] σ (xFn (bz (nI 0 ≤ v ∧ v ≤ nI 2)) σ) := by
  refine xk_entry cX7_isSort 1 (some .boolean) (by decide) rfl (Nat.le_of_ble_eq_true rfl) ?_
  intro pP eE sS mM below meth cC hx hb hml hr hts hown hlk hP hK hX hS ls hl
  have hl : lv_has ls 1 [(0, .int v)] := hl
  refine lv_iload_n hx hb dX7_isSort_0 rfl (lv_at hl 0 rfl) ?_
  refine lv_iconst (v := nI 0) hx hb dX7_isSort_1 (by decide) ?_
  refine lv_iconst (v := nI 2) hx hb dX7_isSort_2 (by decide) ?_
  by_cases q_3 : nI 0 ≤ v ∧ v ≤ nI 2
  · refine xk_fi (va_runS (As := [.int v, .int (nI 0), .int (nI 2)]) (rest := []) ⟨hx, hb, hml, hown, hts⟩ (k2_within_t l hI v (nI 0) (nI 2) q_3) (va_cwS 3 hts gX7_isSort_X7_within rfl rfl rfl (by decide +kernel) ⟨Nat.le_of_ble_eq_true rfl, Nat.le_of_ble_eq_true rfl⟩) (xk_preS X2_ok hK hX hP) rfl rfl hl.1 rfl (lv_room (Nat.le_of_ble_eq_true rfl)) dX7_isSort_3 ⟨Nat.le_of_ble_eq_true rfl, Nat.le_of_ble_eq_true rfl⟩) hS (fun H locs hP hS => ?_)
    exact xk_iret hx hb hr rfl X2_ok hK hX hP hS hlk dX7_isSort_6 (⟨(bz_t q_3).symm, rfl⟩)
  · refine xk_fi (va_runS (As := [.int v, .int (nI 0), .int (nI 2)]) (rest := []) ⟨hx, hb, hml, hown, hts⟩ (k2_within_f l hI v (nI 0) (nI 2) q_3) (va_cwS 3 hts gX7_isSort_X7_within rfl rfl rfl (by decide +kernel) ⟨Nat.le_of_ble_eq_true rfl, Nat.le_of_ble_eq_true rfl⟩) (xk_preS X2_ok hK hX hP) rfl rfl hl.1 rfl (lv_room (Nat.le_of_ble_eq_true rfl)) dX7_isSort_3 ⟨Nat.le_of_ble_eq_true rfl, Nat.le_of_ble_eq_true rfl⟩) hS (fun H locs hP hS => ?_)
    exact xk_iret hx hb hr rfl X2_ok hK hX hP hS hlk dX7_isSort_6 (⟨(bz_f q_3).symm, rfl⟩)

theorem k2_isSort_t (l : Launch) {D : va_G} {ca : Nat → ClassId} {ad : Nat → Nat} (hI : Ij ad 18) {σ : Sg} (v : Int32)  (h : nI 0 ≤ v ∧ v ≤ nI 2) : C2i l D ca ad yX7_isSort wsX7_isSort { frames := 1, cells := 0, slots := 0, locals := 22 } [.int v] σ (xFn (nI 1) σ) := by
  have k := k2_isSort l (D := D) (ca := ca) hI (σ := σ) v
  rwa [bz_t h] at k
theorem k2_isSort_f (l : Launch) {D : va_G} {ca : Nat → ClassId} {ad : Nat → Nat} (hI : Ij ad 18) {σ : Sg} (v : Int32)  (h : ¬ (nI 0 ≤ v ∧ v ≤ nI 2)) : C2i l D ca ad yX7_isSort wsX7_isSort { frames := 1, cells := 0, slots := 0, locals := 22 } [.int v] σ (xFn (nI 0) σ) := by
  have k := k2_isSort l (D := D) (ca := ca) hI (σ := σ) v
  rwa [bz_f h] at k

set_option maxHeartbeats 4000000 in
set_option maxRecDepth 100000 in
theorem k1_asksOfHours (l : Launch) {D : va_G} {ca : Nat → ClassId} {ad : Nat → Nat} (hI : Ij ad 34) {σ : Sg} (v : Int32)  : C1i l D ca ad yX6_asksOfHours wsX6_asksOfHours { frames := 1, cells := 0, slots := 0, locals := 22 } [.int v] σ (xFn (bz ((nI 0 ≤ v ∧ v ≤ nI 2) ∨ (nI 10 ≤ v ∧ v ≤ nI 14))) σ) := by
  refine xk_entry cX6_asksOfHours 1 (some .boolean) (by decide) rfl (Nat.le_of_ble_eq_true rfl) ?_
  intro pP eE sS mM below meth cC hx hb hml hr hts hown hlk hP hK hX hS ls hl
  have hl : lv_has ls 1 [(0, .int v)] := hl
  refine lv_iload_n hx hb dX6_asksOfHours_0 rfl (lv_at hl 0 rfl) ?_
  refine lv_iconst (v := nI 0) hx hb dX6_asksOfHours_1 (by decide) ?_
  refine lv_iconst (v := nI 2) hx hb dX6_asksOfHours_2 (by decide) ?_
  by_cases q_3 : nI 0 ≤ v ∧ v ≤ nI 2
  · refine xk_fi (va_runS (As := [.int v, .int (nI 0), .int (nI 2)]) (rest := []) ⟨hx, hb, hml, hown, hts⟩ (k1_within_t l hI v (nI 0) (nI 2) q_3) (va_cwS 3 hts gX6_asksOfHours_X6_within rfl rfl rfl (by decide +kernel) ⟨Nat.le_of_ble_eq_true rfl, Nat.le_of_ble_eq_true rfl⟩) (xk_preS X1_ok hK hX hP) rfl rfl hl.1 rfl (lv_room (Nat.le_of_ble_eq_true rfl)) dX6_asksOfHours_3 ⟨Nat.le_of_ble_eq_true rfl, Nat.le_of_ble_eq_true rfl⟩) hS (fun H locs hP hS => ?_)
    refine xn_zne (tgt := 20) hx hb dX6_asksOfHours_6 (by decide) (by omega) (fun c_6 => ?_) (fun c_6 => absurd c_6 (by omega))
    refine lv_iconst (v := nI 1) hx hb dX6_asksOfHours_20 (by decide) ?_
    refine lv_goto (tgt := 25) hx hb dX6_asksOfHours_21 (by decide) ?_
    exact xk_iret hx hb hr rfl X1_ok hK hX hP hS hlk dX6_asksOfHours_25 (⟨(bz_t (Or.inl q_3)).symm, rfl⟩)
  · refine xk_fi (va_runS (As := [.int v, .int (nI 0), .int (nI 2)]) (rest := []) ⟨hx, hb, hml, hown, hts⟩ (k1_within_f l hI v (nI 0) (nI 2) q_3) (va_cwS 3 hts gX6_asksOfHours_X6_within rfl rfl rfl (by decide +kernel) ⟨Nat.le_of_ble_eq_true rfl, Nat.le_of_ble_eq_true rfl⟩) (xk_preS X1_ok hK hX hP) rfl rfl hl.1 rfl (lv_room (Nat.le_of_ble_eq_true rfl)) dX6_asksOfHours_3 ⟨Nat.le_of_ble_eq_true rfl, Nat.le_of_ble_eq_true rfl⟩) hS (fun H locs hP hS => ?_)
    refine xn_zne (tgt := 20) hx hb dX6_asksOfHours_6 (by decide) (by omega) (fun c_6 => absurd c_6 (by omega)) (fun c_6 => ?_)
    refine lv_iload_n hx hb dX6_asksOfHours_9 rfl (lv_at hl 0 rfl) ?_
    refine lv_bipush (v := nI 10) hx hb dX6_asksOfHours_10 (by decide) ?_
    refine lv_bipush (v := nI 14) hx hb dX6_asksOfHours_12 (by decide) ?_
    by_cases q_14 : nI 10 ≤ v ∧ v ≤ nI 14
    · refine xk_fi (va_runS (As := [.int v, .int (nI 10), .int (nI 14)]) (rest := []) ⟨hx, hb, hml, hown, hts⟩ (k1_within_t l hI v (nI 10) (nI 14) q_14) (va_cwS 3 hts gX6_asksOfHours_X6_within rfl rfl rfl (by decide +kernel) ⟨Nat.le_of_ble_eq_true rfl, Nat.le_of_ble_eq_true rfl⟩) (xk_preS X1_ok hK hX hP) rfl rfl hl.1 rfl (lv_room (Nat.le_of_ble_eq_true rfl)) dX6_asksOfHours_14 ⟨Nat.le_of_ble_eq_true rfl, Nat.le_of_ble_eq_true rfl⟩) hS (fun H locs hP hS => ?_)
      refine xn_zeq (tgt := 24) hx hb dX6_asksOfHours_17 (by decide) (by omega) (fun c_17 => absurd c_17 (by omega)) (fun c_17 => ?_)
      refine lv_iconst (v := nI 1) hx hb dX6_asksOfHours_20 (by decide) ?_
      refine lv_goto (tgt := 25) hx hb dX6_asksOfHours_21 (by decide) ?_
      exact xk_iret hx hb hr rfl X1_ok hK hX hP hS hlk dX6_asksOfHours_25 (⟨(bz_t (Or.inr q_14)).symm, rfl⟩)
    · refine xk_fi (va_runS (As := [.int v, .int (nI 10), .int (nI 14)]) (rest := []) ⟨hx, hb, hml, hown, hts⟩ (k1_within_f l hI v (nI 10) (nI 14) q_14) (va_cwS 3 hts gX6_asksOfHours_X6_within rfl rfl rfl (by decide +kernel) ⟨Nat.le_of_ble_eq_true rfl, Nat.le_of_ble_eq_true rfl⟩) (xk_preS X1_ok hK hX hP) rfl rfl hl.1 rfl (lv_room (Nat.le_of_ble_eq_true rfl)) dX6_asksOfHours_14 ⟨Nat.le_of_ble_eq_true rfl, Nat.le_of_ble_eq_true rfl⟩) hS (fun H locs hP hS => ?_)
      refine xn_zeq (tgt := 24) hx hb dX6_asksOfHours_17 (by decide) (by omega) (fun c_17 => ?_) (fun c_17 => absurd c_17 (by omega))
      refine lv_iconst (v := nI 0) hx hb dX6_asksOfHours_24 (by decide) ?_
      exact xk_iret hx hb hr rfl X1_ok hK hX hP hS hlk dX6_asksOfHours_25 (⟨(bz_f fun z => z.elim q_3 q_14).symm, rfl⟩)

theorem k1_asksOfHours_t (l : Launch) {D : va_G} {ca : Nat → ClassId} {ad : Nat → Nat} (hI : Ij ad 34) {σ : Sg} (v : Int32)  (h : (nI 0 ≤ v ∧ v ≤ nI 2) ∨ (nI 10 ≤ v ∧ v ≤ nI 14)) : C1i l D ca ad yX6_asksOfHours wsX6_asksOfHours { frames := 1, cells := 0, slots := 0, locals := 22 } [.int v] σ (xFn (nI 1) σ) := by
  have k := k1_asksOfHours l (D := D) (ca := ca) hI (σ := σ) v
  rwa [bz_t h] at k
theorem k1_asksOfHours_f (l : Launch) {D : va_G} {ca : Nat → ClassId} {ad : Nat → Nat} (hI : Ij ad 34) {σ : Sg} (v : Int32)  (h : ¬ ((nI 0 ≤ v ∧ v ≤ nI 2) ∨ (nI 10 ≤ v ∧ v ≤ nI 14))) : C1i l D ca ad yX6_asksOfHours wsX6_asksOfHours { frames := 1, cells := 0, slots := 0, locals := 22 } [.int v] σ (xFn (nI 0) σ) := by
  have k := k1_asksOfHours l (D := D) (ca := ca) hI (σ := σ) v
  rwa [bz_f h] at k

set_option maxRecDepth 20000 in
theorem flX6_hasWell_90 {s : State} {av : Array Value} (hts : ∀ w ∈ wsX6_hasWell, w.before av s = true) : (Cond.fieldLink RX6 90 "WellBack" "thingCount" "I").before av s = true := hts _ (by decide +kernel)
set_option maxRecDepth 20000 in
theorem inX6_hasWell_X6 : ∀ w ∈ u_ws RX6 TX6 13, w ∈ wsX6_hasWell := by decide +kernel
set_option maxHeartbeats 4000000 in
set_option maxRecDepth 100000 in
theorem k1_hasWell (l : Launch) {D : va_G} {ca : Nat → ClassId} {ad : Nat → Nat} (hI : Ij ad 34) {σ : Sg} {n : Nat} (hn : σ 0 9 = nI n) (hn5 : n ≤ 5) : C1i l D ca ad yX6_hasWell wsX6_hasWell { frames := 0, cells := 0, slots := 0, locals := 0 } [.ref (ad 0)] σ (xFn (bz (0 < n)) σ) := by
  refine xk_entry cX6_hasWell 1 (some .boolean) (by decide) rfl (Nat.le_of_ble_eq_true rfl) ?_
  intro pP eE sS mM below meth cC hx hb hml hr hts hown hlk hP hK hX hS ls hl
  have hl : lv_has ls 1 [(0, .ref (ad 0))] := hl
  refine lv_aload_n hx hb dX6_hasWell_0 rfl (lv_at hl 0 rfl) ?_
  refine xk_get hx hb hts (inX6_hasWell_X6) hown hK hP 0 (by omega) (ci := 6) e1_well rfl 9 (by decide) (flX6_hasWell_90 hts) rfl (.int (σ 0 9)) rfl dX6_hasWell_1 ?_
  refine xn_eqi (y := nI n) hn ?_
  refine xn_zle (tgt := 11) hx hb dX6_hasWell_4 (by decide) (by omega) (fun c_4 => ?_) (fun c_4 => ?_)
  · refine lv_iconst (v := nI 0) hx hb dX6_hasWell_11 (by decide) ?_
    exact xk_iret hx hb hr rfl X1_ok hK hX hP hS hlk dX6_hasWell_12 (⟨(bz_f (by omega)).symm, rfl⟩)
  · refine lv_iconst (v := nI 1) hx hb dX6_hasWell_7 (by decide) ?_
    refine lv_goto (tgt := 12) hx hb dX6_hasWell_8 (by decide) ?_
    exact xk_iret hx hb hr rfl X1_ok hK hX hP hS hlk dX6_hasWell_12 (⟨(bz_t (by omega)).symm, rfl⟩)

theorem k1_hasWell_t (l : Launch) {D : va_G} {ca : Nat → ClassId} {ad : Nat → Nat} (hI : Ij ad 34) {σ : Sg} {n : Nat} (hn : σ 0 9 = nI n) (hn5 : n ≤ 5) (h : 0 < n) : C1i l D ca ad yX6_hasWell wsX6_hasWell { frames := 0, cells := 0, slots := 0, locals := 0 } [.ref (ad 0)] σ (xFn (nI 1) σ) := by
  have k := k1_hasWell l (D := D) (ca := ca) hI (σ := σ) hn hn5
  rwa [bz_t h] at k
theorem k1_hasWell_f (l : Launch) {D : va_G} {ca : Nat → ClassId} {ad : Nat → Nat} (hI : Ij ad 34) {σ : Sg} {n : Nat} (hn : σ 0 9 = nI n) (hn5 : n ≤ 5) (h : ¬ (0 < n)) : C1i l D ca ad yX6_hasWell wsX6_hasWell { frames := 0, cells := 0, slots := 0, locals := 0 } [.ref (ad 0)] σ (xFn (nI 0) σ) := by
  have k := k1_hasWell l (D := D) (ca := ca) hI (σ := σ) hn hn5
  rwa [bz_f h] at k

set_option maxRecDepth 20000 in
theorem flX6_sheetAt_13 {s : State} {av : Array Value} (hts : ∀ w ∈ wsX6_sheetAt, w.before av s = true) : (Cond.fieldLink RX6 13 "WellBack" "sheets" "[LWellBack$Sheet;").before av s = true := hts _ (by decide +kernel)
set_option maxRecDepth 20000 in
theorem inX6_sheetAt_X6 : ∀ w ∈ u_ws RX6 TX6 13, w ∈ wsX6_sheetAt := by decide +kernel
set_option maxHeartbeats 4000000 in
set_option maxRecDepth 100000 in
theorem k1_sheetAt_in (l : Launch) {D : va_G} {ca : Nat → ClassId} {ad : Nat → Nat} (hI : Ij ad 34) {σ : Sg} {x : Nat} (hxx : x < 4) : C1q l D ca ad yX6_sheetAt wsX6_sheetAt { frames := 0, cells := 0, slots := 0, locals := 0 } [.ref (ad 0), .int (nI x)] σ (xFq (some (ad (1 + x))) σ) := by
  refine xk_entry cX6_sheetAt 2 (some (.object "WellBack$Sheet")) (by decide) rfl (Nat.le_of_ble_eq_true rfl) ?_
  intro pP eE sS mM below meth cC hx hb hml hr hts hown hlk hP hK hX hS ls hl
  have hl : lv_has ls 2 [(0, .ref (ad 0)), (1, .int (nI x))] := hl
  refine lv_iload_n hx hb dX6_sheetAt_0 rfl (lv_at hl 1 rfl) ?_
  refine xn_zlt (tgt := 22) hx hb dX6_sheetAt_1 (by decide) (by omega) (fun c_1 => absurd c_1 (by omega)) (fun c_1 => ?_)
  refine lv_iload_n hx hb dX6_sheetAt_4 rfl (lv_at hl 1 rfl) ?_
  refine lv_aload_n hx hb dX6_sheetAt_5 rfl (lv_at hl 0 rfl) ?_
  refine xk_get hx hb hts (inX6_sheetAt_X6) hown hK hP 0 (by omega) (ci := 6) e1_well rfl 0 (by decide) (flX6_sheetAt_13 hts) rfl (.ref (ad 31)) rfl dX6_sheetAt_6 ?_
  refine xk_alen hx hb hK hP 31 (by omega) e1_sheets 1 rfl 4 rfl dX6_sheetAt_9 ?_
  refine xn_ige (tgt := 22) hx hb dX6_sheetAt_10 (by decide) (by omega) (by omega) (fun c_10 => absurd c_10 (by omega)) (fun c_10 => ?_)
  refine lv_aload_n hx hb dX6_sheetAt_13 rfl (lv_at hl 0 rfl) ?_
  refine xk_get hx hb hts (inX6_sheetAt_X6) hown hK hP 0 (by omega) (ci := 6) e1_well rfl 0 (by decide) (flX6_sheetAt_13 hts) rfl (.ref (ad 31)) rfl dX6_sheetAt_14 ?_
  refine lv_iload_n hx hb dX6_sheetAt_17 rfl (lv_at hl 1 rfl) ?_
  refine xk_aald hx hb hK hP 31 (by omega) (n := 4) e1_sheets 1 rfl x (by omega) (by decide) _ rfl dX6_sheetAt_18 ?_
  refine lv_goto (tgt := 23) hx hb dX6_sheetAt_19 (by decide) ?_
  exact xk_aret (some (ad (1 + x))) hx hb hr ⟨_, rfl⟩ X1_ok hK hX hP hS hlk dX6_sheetAt_23 (⟨rfl, rfl⟩)

set_option maxHeartbeats 4000000 in
set_option maxRecDepth 100000 in
theorem k1_sheetAt_out (l : Launch) {D : va_G} {ca : Nat → ClassId} {ad : Nat → Nat} (hI : Ij ad 34) {σ : Sg} {x : Int32} (hxx : ∀ j, j < 4 → x ≠ nI j) : C1q l D ca ad yX6_sheetAt wsX6_sheetAt { frames := 0, cells := 0, slots := 0, locals := 0 } [.ref (ad 0), .int x] σ (xFq none σ) := by
  refine xk_entry cX6_sheetAt 2 (some (.object "WellBack$Sheet")) (by decide) rfl (Nat.le_of_ble_eq_true rfl) ?_
  intro pP eE sS mM below meth cC hx hb hml hr hts hown hlk hP hK hX hS ls hl
  have hl : lv_has ls 2 [(0, .ref (ad 0)), (1, .int x)] := hl
  refine lv_iload_n hx hb dX6_sheetAt_0 rfl (lv_at hl 1 rfl) ?_
  refine lv_if_lt (tgt := 22) hx hb dX6_sheetAt_1 (by decide) (fun c_1 => ?_) (fun c_1 => ?_)
  · refine lv_null hx hb dX6_sheetAt_22 ?_
    exact xk_aret none hx hb hr ⟨_, rfl⟩ X1_ok hK hX hP hS hlk dX6_sheetAt_23 (⟨rfl, rfl⟩)
  · obtain ⟨j, hj, rfl⟩ := nI_of c_1
    refine lv_iload_n hx hb dX6_sheetAt_4 rfl (lv_at hl 1 rfl) ?_
    refine lv_aload_n hx hb dX6_sheetAt_5 rfl (lv_at hl 0 rfl) ?_
    refine xk_get hx hb hts (inX6_sheetAt_X6) hown hK hP 0 (by omega) (ci := 6) e1_well rfl 0 (by decide) (flX6_sheetAt_13 hts) rfl (.ref (ad 31)) rfl dX6_sheetAt_6 ?_
    refine xk_alen hx hb hK hP 31 (by omega) e1_sheets 1 rfl 4 rfl dX6_sheetAt_9 ?_
    refine xn_ige (tgt := 22) hx hb dX6_sheetAt_10 (by decide) (by omega) (by omega) (fun c_10 => ?_) (fun c_10 => ?_)
    · refine lv_null hx hb dX6_sheetAt_22 ?_
      exact xk_aret none hx hb hr ⟨_, rfl⟩ X1_ok hK hX hP hS hlk dX6_sheetAt_23 (⟨rfl, rfl⟩)
    · exact absurd rfl (hxx j c_10)

set_option maxRecDepth 20000 in
theorem flX6_thingAt_19 {s : State} {av : Array Value} (hts : ∀ w ∈ wsX6_thingAt, w.before av s = true) : (Cond.fieldLink RX6 19 "WellBack" "things" "[LWellBack$Thing;").before av s = true := hts _ (by decide +kernel)
set_option maxRecDepth 20000 in
theorem flX6_thingAt_90 {s : State} {av : Array Value} (hts : ∀ w ∈ wsX6_thingAt, w.before av s = true) : (Cond.fieldLink RX6 90 "WellBack" "thingCount" "I").before av s = true := hts _ (by decide +kernel)
set_option maxRecDepth 20000 in
theorem inX6_thingAt_X6 : ∀ w ∈ u_ws RX6 TX6 13, w ∈ wsX6_thingAt := by decide +kernel
set_option maxHeartbeats 4000000 in
set_option maxRecDepth 100000 in
theorem k1_thingAt_in (l : Launch) {D : va_G} {ca : Nat → ClassId} {ad : Nat → Nat} (hI : Ij ad 34) {σ : Sg} {n : Nat} {x : Nat} (hn : σ 0 9 = nI n) (hn5 : n ≤ 5) (hxx : x < n) : C1q l D ca ad yX6_thingAt wsX6_thingAt { frames := 0, cells := 0, slots := 0, locals := 0 } [.ref (ad 0), .int (nI x)] σ (xFq (some (ad (9 + x))) σ) := by
  refine xk_entry cX6_thingAt 2 (some (.object "WellBack$Thing")) (by decide) rfl (Nat.le_of_ble_eq_true rfl) ?_
  intro pP eE sS mM below meth cC hx hb hml hr hts hown hlk hP hK hX hS ls hl
  have hl : lv_has ls 2 [(0, .ref (ad 0)), (1, .int (nI x))] := hl
  refine lv_iload_n hx hb dX6_thingAt_0 rfl (lv_at hl 1 rfl) ?_
  refine xn_zlt (tgt := 30) hx hb dX6_thingAt_1 (by decide) (by omega) (fun c_1 => absurd c_1 (by omega)) (fun c_1 => ?_)
  refine lv_iload_n hx hb dX6_thingAt_4 rfl (lv_at hl 1 rfl) ?_
  refine lv_aload_n hx hb dX6_thingAt_5 rfl (lv_at hl 0 rfl) ?_
  refine xk_get hx hb hts (inX6_thingAt_X6) hown hK hP 0 (by omega) (ci := 6) e1_well rfl 9 (by decide) (flX6_thingAt_90 hts) rfl (.int (σ 0 9)) rfl dX6_thingAt_6 ?_
  refine xn_eqi (y := nI n) hn ?_
  refine xn_ige (tgt := 30) hx hb dX6_thingAt_9 (by decide) (by omega) (by omega) (fun c_9 => absurd c_9 (by omega)) (fun c_9 => ?_)
  refine lv_iload_n hx hb dX6_thingAt_12 rfl (lv_at hl 1 rfl) ?_
  refine lv_aload_n hx hb dX6_thingAt_13 rfl (lv_at hl 0 rfl) ?_
  refine xk_get hx hb hts (inX6_thingAt_X6) hown hK hP 0 (by omega) (ci := 6) e1_well rfl 1 (by decide) (flX6_thingAt_19 hts) rfl (.ref (ad 32)) rfl dX6_thingAt_14 ?_
  refine xk_alen hx hb hK hP 32 (by omega) e1_things 2 rfl 5 rfl dX6_thingAt_17 ?_
  refine xn_ige (tgt := 30) hx hb dX6_thingAt_18 (by decide) (by omega) (by omega) (fun c_18 => absurd c_18 (by omega)) (fun c_18 => ?_)
  refine lv_aload_n hx hb dX6_thingAt_21 rfl (lv_at hl 0 rfl) ?_
  refine xk_get hx hb hts (inX6_thingAt_X6) hown hK hP 0 (by omega) (ci := 6) e1_well rfl 1 (by decide) (flX6_thingAt_19 hts) rfl (.ref (ad 32)) rfl dX6_thingAt_22 ?_
  refine lv_iload_n hx hb dX6_thingAt_25 rfl (lv_at hl 1 rfl) ?_
  refine xk_aald hx hb hK hP 32 (by omega) (n := 5) e1_things 2 rfl x (by omega) (by decide) _ rfl dX6_thingAt_26 ?_
  refine lv_goto (tgt := 31) hx hb dX6_thingAt_27 (by decide) ?_
  exact xk_aret (some (ad (9 + x))) hx hb hr ⟨_, rfl⟩ X1_ok hK hX hP hS hlk dX6_thingAt_31 (⟨rfl, rfl⟩)

set_option maxHeartbeats 4000000 in
set_option maxRecDepth 100000 in
theorem k1_thingAt_out (l : Launch) {D : va_G} {ca : Nat → ClassId} {ad : Nat → Nat} (hI : Ij ad 34) {σ : Sg} {n : Nat} {x : Int32} (hn : σ 0 9 = nI n) (hn5 : n ≤ 5) (hxx : ∀ j, j < n → x ≠ nI j) : C1q l D ca ad yX6_thingAt wsX6_thingAt { frames := 0, cells := 0, slots := 0, locals := 0 } [.ref (ad 0), .int x] σ (xFq none σ) := by
  refine xk_entry cX6_thingAt 2 (some (.object "WellBack$Thing")) (by decide) rfl (Nat.le_of_ble_eq_true rfl) ?_
  intro pP eE sS mM below meth cC hx hb hml hr hts hown hlk hP hK hX hS ls hl
  have hl : lv_has ls 2 [(0, .ref (ad 0)), (1, .int x)] := hl
  refine lv_iload_n hx hb dX6_thingAt_0 rfl (lv_at hl 1 rfl) ?_
  refine lv_if_lt (tgt := 30) hx hb dX6_thingAt_1 (by decide) (fun c_1 => ?_) (fun c_1 => ?_)
  · refine lv_null hx hb dX6_thingAt_30 ?_
    exact xk_aret none hx hb hr ⟨_, rfl⟩ X1_ok hK hX hP hS hlk dX6_thingAt_31 (⟨rfl, rfl⟩)
  · obtain ⟨j, hj, rfl⟩ := nI_of c_1
    refine lv_iload_n hx hb dX6_thingAt_4 rfl (lv_at hl 1 rfl) ?_
    refine lv_aload_n hx hb dX6_thingAt_5 rfl (lv_at hl 0 rfl) ?_
    refine xk_get hx hb hts (inX6_thingAt_X6) hown hK hP 0 (by omega) (ci := 6) e1_well rfl 9 (by decide) (flX6_thingAt_90 hts) rfl (.int (σ 0 9)) rfl dX6_thingAt_6 ?_
    refine xn_eqi (y := nI n) hn ?_
    refine xn_ige (tgt := 30) hx hb dX6_thingAt_9 (by decide) (by omega) (by omega) (fun c_9 => ?_) (fun c_9 => ?_)
    · refine lv_null hx hb dX6_thingAt_30 ?_
      exact xk_aret none hx hb hr ⟨_, rfl⟩ X1_ok hK hX hP hS hlk dX6_thingAt_31 (⟨rfl, rfl⟩)
    · exact absurd rfl (hxx j c_9)

set_option maxRecDepth 20000 in
theorem flX6_readingAt_25 {s : State} {av : Array Value} (hts : ∀ w ∈ wsX6_readingAt, w.before av s = true) : (Cond.fieldLink RX6 25 "WellBack" "readings" "[LWellBack$Reading;").before av s = true := hts _ (by decide +kernel)
set_option maxRecDepth 20000 in
theorem inX6_readingAt_X6 : ∀ w ∈ u_ws RX6 TX6 13, w ∈ wsX6_readingAt := by decide +kernel
set_option maxHeartbeats 4000000 in
set_option maxRecDepth 100000 in
theorem k1_readingAt_in (l : Launch) {D : va_G} {ca : Nat → ClassId} {ad : Nat → Nat} (hI : Ij ad 34) {σ : Sg} {x : Nat} (hxx : x < 8) : C1q l D ca ad yX6_readingAt wsX6_readingAt { frames := 0, cells := 0, slots := 0, locals := 0 } [.ref (ad 0), .int (nI x)] σ (xFq (some (ad (14 + x))) σ) := by
  refine xk_entry cX6_readingAt 2 (some (.object "WellBack$Reading")) (by decide) rfl (Nat.le_of_ble_eq_true rfl) ?_
  intro pP eE sS mM below meth cC hx hb hml hr hts hown hlk hP hK hX hS ls hl
  have hl : lv_has ls 2 [(0, .ref (ad 0)), (1, .int (nI x))] := hl
  refine lv_iload_n hx hb dX6_readingAt_0 rfl (lv_at hl 1 rfl) ?_
  refine xn_zlt (tgt := 22) hx hb dX6_readingAt_1 (by decide) (by omega) (fun c_1 => absurd c_1 (by omega)) (fun c_1 => ?_)
  refine lv_iload_n hx hb dX6_readingAt_4 rfl (lv_at hl 1 rfl) ?_
  refine lv_aload_n hx hb dX6_readingAt_5 rfl (lv_at hl 0 rfl) ?_
  refine xk_get hx hb hts (inX6_readingAt_X6) hown hK hP 0 (by omega) (ci := 6) e1_well rfl 2 (by decide) (flX6_readingAt_25 hts) rfl (.ref (ad 33)) rfl dX6_readingAt_6 ?_
  refine xk_alen hx hb hK hP 33 (by omega) e1_reads 3 rfl 8 rfl dX6_readingAt_9 ?_
  refine xn_ige (tgt := 22) hx hb dX6_readingAt_10 (by decide) (by omega) (by omega) (fun c_10 => absurd c_10 (by omega)) (fun c_10 => ?_)
  refine lv_aload_n hx hb dX6_readingAt_13 rfl (lv_at hl 0 rfl) ?_
  refine xk_get hx hb hts (inX6_readingAt_X6) hown hK hP 0 (by omega) (ci := 6) e1_well rfl 2 (by decide) (flX6_readingAt_25 hts) rfl (.ref (ad 33)) rfl dX6_readingAt_14 ?_
  refine lv_iload_n hx hb dX6_readingAt_17 rfl (lv_at hl 1 rfl) ?_
  refine xk_aald hx hb hK hP 33 (by omega) (n := 8) e1_reads 3 rfl x (by omega) (by decide) _ rfl dX6_readingAt_18 ?_
  refine lv_goto (tgt := 23) hx hb dX6_readingAt_19 (by decide) ?_
  exact xk_aret (some (ad (14 + x))) hx hb hr ⟨_, rfl⟩ X1_ok hK hX hP hS hlk dX6_readingAt_23 (⟨rfl, rfl⟩)

set_option maxHeartbeats 4000000 in
set_option maxRecDepth 100000 in
theorem k1_readingAt_out (l : Launch) {D : va_G} {ca : Nat → ClassId} {ad : Nat → Nat} (hI : Ij ad 34) {σ : Sg} {x : Int32} (hxx : ∀ j, j < 8 → x ≠ nI j) : C1q l D ca ad yX6_readingAt wsX6_readingAt { frames := 0, cells := 0, slots := 0, locals := 0 } [.ref (ad 0), .int x] σ (xFq none σ) := by
  refine xk_entry cX6_readingAt 2 (some (.object "WellBack$Reading")) (by decide) rfl (Nat.le_of_ble_eq_true rfl) ?_
  intro pP eE sS mM below meth cC hx hb hml hr hts hown hlk hP hK hX hS ls hl
  have hl : lv_has ls 2 [(0, .ref (ad 0)), (1, .int x)] := hl
  refine lv_iload_n hx hb dX6_readingAt_0 rfl (lv_at hl 1 rfl) ?_
  refine lv_if_lt (tgt := 22) hx hb dX6_readingAt_1 (by decide) (fun c_1 => ?_) (fun c_1 => ?_)
  · refine lv_null hx hb dX6_readingAt_22 ?_
    exact xk_aret none hx hb hr ⟨_, rfl⟩ X1_ok hK hX hP hS hlk dX6_readingAt_23 (⟨rfl, rfl⟩)
  · obtain ⟨j, hj, rfl⟩ := nI_of c_1
    refine lv_iload_n hx hb dX6_readingAt_4 rfl (lv_at hl 1 rfl) ?_
    refine lv_aload_n hx hb dX6_readingAt_5 rfl (lv_at hl 0 rfl) ?_
    refine xk_get hx hb hts (inX6_readingAt_X6) hown hK hP 0 (by omega) (ci := 6) e1_well rfl 2 (by decide) (flX6_readingAt_25 hts) rfl (.ref (ad 33)) rfl dX6_readingAt_6 ?_
    refine xk_alen hx hb hK hP 33 (by omega) e1_reads 3 rfl 8 rfl dX6_readingAt_9 ?_
    refine xn_ige (tgt := 22) hx hb dX6_readingAt_10 (by decide) (by omega) (by omega) (fun c_10 => ?_) (fun c_10 => ?_)
    · refine lv_null hx hb dX6_readingAt_22 ?_
      exact xk_aret none hx hb hr ⟨_, rfl⟩ X1_ok hK hX hP hS hlk dX6_readingAt_23 (⟨rfl, rfl⟩)
    · exact absurd rfl (hxx j c_10)

set_option maxRecDepth 20000 in
theorem flX6_faulted_59 {s : State} {av : Array Value} (hts : ∀ w ∈ wsX6_faulted, w.before av s = true) : (Cond.fieldLink RX6 59 "WellBack" "latestFault" "I").before av s = true := hts _ (by decide +kernel)
set_option maxRecDepth 20000 in
theorem inX6_faulted_X6 : ∀ w ∈ u_ws RX6 TX6 13, w ∈ wsX6_faulted := by decide +kernel
set_option maxHeartbeats 4000000 in
set_option maxRecDepth 100000 in
theorem k1_faulted (l : Launch) {D : va_G} {ca : Nat → ClassId} {ad : Nat → Nat} (hI : Ij ad 34) {σ : Sg} (f : Nat)  : C1i l D ca ad yX6_faulted wsX6_faulted { frames := 0, cells := 0, slots := 0, locals := 0 } [.ref (ad 0), .int (nI f)] σ (xFn ((-10) - nI f) (up σ 0 11 (nI f))) := by
  refine xk_entry cX6_faulted 2 (some .int) (by decide) rfl (Nat.le_of_ble_eq_true rfl) ?_
  intro pP eE sS mM below meth cC hx hb hml hr hts hown hlk hP hK hX hS ls hl
  have hl : lv_has ls 2 [(0, .ref (ad 0)), (1, .int (nI f))] := hl
  refine lv_aload_n hx hb dX6_faulted_0 rfl (lv_at hl 0 rfl) ?_
  refine lv_iload_n hx hb dX6_faulted_1 rfl (lv_at hl 1 rfl) ?_
  refine xk_put hx hb hts (inX6_faulted_X6) tyX6 tyX6_ok nmX6 hown hK hI hP hS 0 (by omega) (ci := 6) e1_well rfl 11 (by decide) (flX6_faulted_59 hts) rfl rfl (by decide +kernel) (Nat.le_of_ble_eq_true rfl) e1_loc (by rw [e1_well]; simp [up]) dX6_faulted_2 (fun H locs hP hS => ?_)
  refine lv_bipush (v := (-10)) hx hb dX6_faulted_5 (by decide) ?_
  refine lv_iload_n hx hb dX6_faulted_7 rfl (lv_at hl 1 rfl) ?_
  refine lv_isub hx hb dX6_faulted_8 ?_
  exact xk_iret hx hb hr (vp_nar_int _) X1_ok hK hX hP hS hlk dX6_faulted_9 (⟨rfl, rfl⟩)
