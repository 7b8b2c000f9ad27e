/-! sheets: the lane (3: it has nothing), how many cells, the cells -/
def lz (L : Nat) : Int32 := if L = 3 then -9 else nI L
theorem lz_lt {L : Nat} (h : L < 3) : lz L = nI L := if_neg (by omega)
theorem lz_3 : lz 3 = -9 := rfl
theorem lz_ne {L : Nat} (h : L < 3) : ¬ nI L = -9 := by
  rcases (show L = 0 ∨ L = 1 ∨ L = 2 by omega) with h | h | h <;> subst h <;> decide
def SheetAt (σ : Sg) (k L n : Nat) (cc : Nat → Int32) : Prop := σ k 1 = lz L ∧ L ≤ 3 ∧ (L < 3 → σ k 2 = nI n ∧ n ≤ 60 ∧ ∀ i, i < n → σ (k + 4) i = cc i)
theorem SheetAt_fr {σ τ : Sg} {k L n : Nat} {cc : Nat → Int32} (h : SheetAt σ k L n cc) (h1 : τ k = σ k) (h2 : τ (k + 4) = σ (k + 4)) : SheetAt τ k L n cc := by
  unfold SheetAt
  rw [h1, h2]
  exact h
def cutI (L : Nat) (v : Int32) : Int32 := if L = 0 then v.toInt8.toInt32 else if L = 1 then v.toInt16.toInt32 else v
/-- what the machine has against a sheet taken as a row of lane w -/
def fL (L w : Nat) : Nat := if L = 3 then 1 else if L = w then 0 else 2

set_option maxRecDepth 20000 in
theorem flX2_hasRow_15 {s : State} {av : Array Value} (hts : ∀ w ∈ wsX2_hasRow, w.before av s = true) : (Cond.fieldLink RX2 15 "WellBack$Sheet" "lane" "I").before av s = true := hts _ (by decide +kernel)
set_option maxRecDepth 20000 in
theorem inX2_hasRow_X2 : ∀ w ∈ u_ws RX2 TX2 3, w ∈ wsX2_hasRow := by decide +kernel
set_option maxHeartbeats 4000000 in
set_option maxRecDepth 100000 in
theorem k1_hasRow_t (l : Launch) {D : va_G} {ca : Nat → ClassId} {ad : Nat → Nat} (hI : Ij ad 34) {σ : Sg} {k L n : Nat} {cc : Nat → Int32} (hk1 : 1 ≤ k) (hk2 : k < 5) (hZ : SheetAt σ k L n cc) (hL : L < 3) : C1i l D ca ad yX2_hasRow wsX2_hasRow { frames := 0, cells := 0, slots := 0, locals := 0 } [.ref (ad k)] σ (xFn (nI 1) σ) := by
  refine xk_entry cX2_hasRow 1 (some .boolean) (by decide) rfl (Nat.le_of_ble_eq_true rfl) ?_
  intro pP eE sS mM below meth cC hx hb hml hr hts hown hlk hP hK hX hS ls hl
  have hl : lv_has ls 1 [(0, .ref (ad k))] := hl
  have hlen := (hZ.2.2 hL).1
  have hn60 := (hZ.2.2 hL).2.1
  have hlan := hZ.1.trans (lz_lt hL)
  refine lv_aload_n hx hb dX2_hasRow_0 rfl (lv_at hl 0 rfl) ?_
  refine xk_get hx hb hts (inX2_hasRow_X2) hown hK hP k (by omega) (ci := 2) (e1_sheet (by omega) (by omega)) rfl 1 (by decide) (flX2_hasRow_15 hts) rfl (.int (σ k 1)) rfl dX2_hasRow_1 ?_
  refine xn_eqi (y := nI L) hlan ?_
  refine lv_bipush (v := (-9)) hx hb dX2_hasRow_4 (by decide) ?_
  refine lv_icmp_eq (tgt := 13) hx hb dX2_hasRow_6 (by decide) (fun c_6 => absurd c_6 (lz_ne hL)) (fun c_6 => ?_)
  refine lv_iconst (v := nI 1) hx hb dX2_hasRow_9 (by decide) ?_
  refine lv_goto (tgt := 14) hx hb dX2_hasRow_10 (by decide) ?_
  exact xk_iret hx hb hr rfl X1_ok hK hX hP hS hlk dX2_hasRow_14 (⟨rfl, rfl⟩)

set_option maxHeartbeats 4000000 in
set_option maxRecDepth 100000 in
theorem k1_hasRow_f (l : Launch) {D : va_G} {ca : Nat → ClassId} {ad : Nat → Nat} (hI : Ij ad 34) {σ : Sg} {k L n : Nat} {cc : Nat → Int32} (hk1 : 1 ≤ k) (hk2 : k < 5) (hZ : SheetAt σ k L n cc) (hL : L = 3) : C1i l D ca ad yX2_hasRow wsX2_hasRow { frames := 0, cells := 0, slots := 0, locals := 0 } [.ref (ad k)] σ (xFn (nI 0) σ) := by
  refine xk_entry cX2_hasRow 1 (some .boolean) (by decide) rfl (Nat.le_of_ble_eq_true rfl) ?_
  intro pP eE sS mM below meth cC hx hb hml hr hts hown hlk hP hK hX hS ls hl
  have hl : lv_has ls 1 [(0, .ref (ad k))] := hl
  have hlan : σ k 1 = -9 := by rw [hZ.1, hL]; rfl
  refine lv_aload_n hx hb dX2_hasRow_0 rfl (lv_at hl 0 rfl) ?_
  refine xk_get hx hb hts (inX2_hasRow_X2) hown hK hP k (by omega) (ci := 2) (e1_sheet (by omega) (by omega)) rfl 1 (by decide) (flX2_hasRow_15 hts) rfl (.int (σ k 1)) rfl dX2_hasRow_1 ?_
  refine xn_eqi (y := (-9)) hlan ?_
  refine lv_bipush (v := (-9)) hx hb dX2_hasRow_4 (by decide) ?_
  refine lv_icmp_eq (tgt := 13) hx hb dX2_hasRow_6 (by decide) (fun c_6 => ?_) (fun c_6 => absurd rfl c_6)
  refine lv_iconst (v := nI 0) hx hb dX2_hasRow_13 (by decide) ?_
  exact xk_iret hx hb hr rfl X1_ok hK hX hP hS hlk dX2_hasRow_14 (⟨rfl, rfl⟩)

set_option maxRecDepth 20000 in
theorem flX2_empty_15 {s : State} {av : Array Value} (hts : ∀ w ∈ wsX2_empty, w.before av s = true) : (Cond.fieldLink RX2 15 "WellBack$Sheet" "lane" "I").before av s = true := hts _ (by decide +kernel)
set_option maxRecDepth 20000 in
theorem flX2_empty_19 {s : State} {av : Array Value} (hts : ∀ w ∈ wsX2_empty, w.before av s = true) : (Cond.fieldLink RX2 19 "WellBack$Sheet" "length" "I").before av s = true := hts _ (by decide +kernel)
set_option maxRecDepth 20000 in
theorem inX2_empty_X2 : ∀ w ∈ u_ws RX2 TX2 3, w ∈ wsX2_empty := by decide +kernel
set_option maxHeartbeats 4000000 in
set_option maxRecDepth 100000 in
theorem k1_empty (l : Launch) {D : va_G} {ca : Nat → ClassId} {ad : Nat → Nat} (hI : Ij ad 34) {σ : Sg} {k L n : Nat} {cc : Nat → Int32} (hk1 : 1 ≤ k) (hk2 : k < 5) (hZ : SheetAt σ k L n cc) : C1v l D ca ad yX2_empty wsX2_empty { frames := 0, cells := 0, slots := 0, locals := 0 } [.ref (ad k)] σ (xFv (up (up σ k 1 (-9)) k 2 (nI 0))) := by
  refine xk_entry cX2_empty 1 none (by decide) rfl (Nat.le_of_ble_eq_true rfl) ?_
  intro pP eE sS mM below meth cC hx hb hml hr hts hown hlk hP hK hX hS ls hl
  have hl : lv_has ls 1 [(0, .ref (ad k))] := hl
  refine lv_aload_n hx hb dX2_empty_0 rfl (lv_at hl 0 rfl) ?_
  refine lv_bipush (v := (-9)) hx hb dX2_empty_1 (by decide) ?_
  refine xk_put hx hb hts (inX2_empty_X2) tyX2 tyX2_ok nmX2 hown hK hI hP hS k (by omega) (ci := 2) (e1_sheet (by omega) (by omega)) rfl 1 (by decide) (flX2_empty_15 hts) rfl rfl (by decide +kernel) (Nat.le_of_ble_eq_true rfl) e1_loc (by rw [e1_sheet (by omega) (by omega)]; simp [up]) dX2_empty_3 (fun H locs hP hS => ?_)
  refine lv_aload_n hx hb dX2_empty_6 rfl (lv_at hl 0 rfl) ?_
  refine lv_iconst (v := nI 0) hx hb dX2_empty_7 (by decide) ?_
  refine xk_put hx hb hts (inX2_empty_X2) tyX2 tyX2_ok nmX2 hown hK hI hP hS k (by omega) (ci := 2) (e1_sheet (by omega) (by omega)) rfl 2 (by decide) (flX2_empty_19 hts) rfl rfl (by decide +kernel) (Nat.le_of_ble_eq_true rfl) e1_loc (by rw [e1_sheet (by omega) (by omega)]; simp [up]) dX2_empty_8 (fun H locs hP hS => ?_)
  exact xk_vret hx hb hr X1_ok hK hX hP hS hlk dX2_empty_11 rfl

set_option maxRecDepth 20000 in
theorem flX2_hasCell_9 {s : State} {av : Array Value} (hts : ∀ w ∈ wsX2_hasCell, w.before av s = true) : (Cond.fieldLink RX2 9 "WellBack$Sheet" "cells" "[I").before av s = true := hts _ (by decide +kernel)
set_option maxRecDepth 20000 in
theorem flX2_hasCell_19 {s : State} {av : Array Value} (hts : ∀ w ∈ wsX2_hasCell, w.before av s = true) : (Cond.fieldLink RX2 19 "WellBack$Sheet" "length" "I").before av s = true := hts _ (by decide +kernel)
set_option maxRecDepth 20000 in
theorem inX2_hasCell_X2 : ∀ w ∈ u_ws RX2 TX2 3, w ∈ wsX2_hasCell := by decide +kernel
set_option maxHeartbeats 4000000 in
set_option maxRecDepth 100000 in
theorem k1_hasCell_in (l : Launch) {D : va_G} {ca : Nat → ClassId} {ad : Nat → Nat} (hI : Ij ad 34) {σ : Sg} {k L n : Nat} {cc : Nat → Int32} {j : Nat} (hk1 : 1 ≤ k) (hk2 : k < 5) (hZ : SheetAt σ k L n cc) (hL : L < 3) (hj : j < n) : C1i l D ca ad yX2_hasCell wsX2_hasCell { frames := 0, cells := 0, slots := 0, locals := 0 } [.ref (ad k), .int (nI j)] σ (xFn (nI 1) σ) := by
  refine xk_entry cX2_hasCell 2 (some .boolean) (by decide) rfl (Nat.le_of_ble_eq_true rfl) ?_
  intro pP eE sS mM below meth cC hx hb hml hr hts hown hlk hP hK hX hS ls hl
  have hl : lv_has ls 2 [(0, .ref (ad k)), (1, .int (nI j))] := hl
  have hlen := (hZ.2.2 hL).1
  have hn60 := (hZ.2.2 hL).2.1
  have hlan := hZ.1.trans (lz_lt hL)
  refine lv_iload_n hx hb dX2_hasCell_0 rfl (lv_at hl 1 rfl) ?_
  refine xn_zlt (tgt := 25) hx hb dX2_hasCell_1 (by decide) (by omega) (fun c_1 => absurd c_1 (by omega)) (fun c_1 => ?_)
  refine lv_iload_n hx hb dX2_hasCell_4 rfl (lv_at hl 1 rfl) ?_
  refine lv_aload_n hx hb dX2_hasCell_5 rfl (lv_at hl 0 rfl) ?_
  refine xk_get hx hb hts (inX2_hasCell_X2) hown hK hP k (by omega) (ci := 2) (e1_sheet (by omega) (by omega)) rfl 2 (by decide) (flX2_hasCell_19 hts) rfl (.int (σ k 2)) rfl dX2_hasCell_6 ?_
  refine xn_eqi (y := nI n) hlen ?_
  refine xn_ige (tgt := 25) hx hb dX2_hasCell_9 (by decide) (by omega) (by omega) (fun c_9 => absurd c_9 (by omega)) (fun c_9 => ?_)
  refine lv_iload_n hx hb dX2_hasCell_12 rfl (lv_at hl 1 rfl) ?_
  refine lv_aload_n hx hb dX2_hasCell_13 rfl (lv_at hl 0 rfl) ?_
  refine xk_get hx hb hts (inX2_hasCell_X2) hown hK hP k (by omega) (ci := 2) (e1_sheet (by omega) (by omega)) rfl 0 (by decide) (flX2_hasCell_9 hts) rfl (.ref (ad (k + 4))) rfl dX2_hasCell_14 ?_
  refine xk_alen hx hb hK hP (k + 4) (by omega) (e1_cells (by omega) (by omega)) 0 rfl 60 rfl dX2_hasCell_17 ?_
  refine xn_ige (tgt := 25) hx hb dX2_hasCell_18 (by decide) (by omega) (by omega) (fun c_18 => absurd c_18 (by omega)) (fun c_18 => ?_)
  refine lv_iconst (v := nI 1) hx hb dX2_hasCell_21 (by decide) ?_
  refine lv_goto (tgt := 26) hx hb dX2_hasCell_22 (by decide) ?_
  exact xk_iret hx hb hr rfl X1_ok hK hX hP hS hlk dX2_hasCell_26 (⟨rfl, rfl⟩)

set_option maxHeartbeats 4000000 in
set_option maxRecDepth 100000 in
theorem k1_hasCell_out (l : Launch) {D : va_G} {ca : Nat → ClassId} {ad : Nat → Nat} (hI : Ij ad 34) {σ : Sg} {k L n : Nat} {cc : Nat → Int32} {x : Int32} (hk1 : 1 ≤ k) (hk2 : k < 5) (hZ : SheetAt σ k L n cc) (hL : L < 3) (hxx : ∀ j, j < n → x ≠ nI j) : C1i l D ca ad yX2_hasCell wsX2_hasCell { frames := 0, cells := 0, slots := 0, locals := 0 } [.ref (ad k), .int x] σ (xFn (nI 0) σ) := by
  refine xk_entry cX2_hasCell 2 (some .boolean) (by decide) rfl (Nat.le_of_ble_eq_true rfl) ?_
  intro pP eE sS mM below meth cC hx hb hml hr hts hown hlk hP hK hX hS ls hl
  have hl : lv_has ls 2 [(0, .ref (ad k)), (1, .int x)] := hl
  have hlen := (hZ.2.2 hL).1
  have hn60 := (hZ.2.2 hL).2.1
  have hlan := hZ.1.trans (lz_lt hL)
  refine lv_iload_n hx hb dX2_hasCell_0 rfl (lv_at hl 1 rfl) ?_
  refine lv_if_lt (tgt := 25) hx hb dX2_hasCell_1 (by decide) (fun c_1 => ?_) (fun c_1 => ?_)
  · refine lv_iconst (v := nI 0) hx hb dX2_hasCell_25 (by decide) ?_
    exact xk_iret hx hb hr rfl X1_ok hK hX hP hS hlk dX2_hasCell_26 (⟨rfl, rfl⟩)
  · obtain ⟨j, hj, rfl⟩ := nI_of c_1
    refine lv_iload_n hx hb dX2_hasCell_4 rfl (lv_at hl 1 rfl) ?_
    refine lv_aload_n hx hb dX2_hasCell_5 rfl (lv_at hl 0 rfl) ?_
    refine xk_get hx hb hts (inX2_hasCell_X2) hown hK hP k (by omega) (ci := 2) (e1_sheet (by omega) (by omega)) rfl 2 (by decide) (flX2_hasCell_19 hts) rfl (.int (σ k 2)) rfl dX2_hasCell_6 ?_
    refine xn_eqi (y := nI n) hlen ?_
    refine xn_ige (tgt := 25) hx hb dX2_hasCell_9 (by decide) (by omega) (by omega) (fun c_9 => ?_) (fun c_9 => ?_)
    · refine lv_iconst (v := nI 0) hx hb dX2_hasCell_25 (by decide) ?_
      exact xk_iret hx hb hr rfl X1_ok hK hX hP hS hlk dX2_hasCell_26 (⟨rfl, rfl⟩)
    · exact absurd rfl (hxx j c_9)

set_option maxRecDepth 20000 in
theorem flX2_hasCells_9 {s : State} {av : Array Value} (hts : ∀ w ∈ wsX2_hasCells, w.before av s = true) : (Cond.fieldLink RX2 9 "WellBack$Sheet" "cells" "[I").before av s = true := hts _ (by decide +kernel)
set_option maxRecDepth 20000 in
theorem flX2_hasCells_19 {s : State} {av : Array Value} (hts : ∀ w ∈ wsX2_hasCells, w.before av s = true) : (Cond.fieldLink RX2 19 "WellBack$Sheet" "length" "I").before av s = true := hts _ (by decide +kernel)
set_option maxRecDepth 20000 in
theorem inX2_hasCells_X2 : ∀ w ∈ u_ws RX2 TX2 3, w ∈ wsX2_hasCells := by decide +kernel
set_option maxHeartbeats 4000000 in
set_option maxRecDepth 100000 in
theorem k1_hasCells_in (l : Launch) {D : va_G} {ca : Nat → ClassId} {ad : Nat → Nat} (hI : Ij ad 34) {σ : Sg} {k L n : Nat} {cc : Nat → Int32} {a b : Nat} (hk1 : 1 ≤ k) (hk2 : k < 5) (hZ : SheetAt σ k L n cc) (hL : L < 3) (hab : a + b ≤ n) : C1i l D ca ad yX2_hasCells wsX2_hasCells { frames := 0, cells := 0, slots := 0, locals := 0 } [.ref (ad k), .int (nI a), .int (nI b)] σ (xFn (nI 1) σ) := by
  refine xk_entry cX2_hasCells 3 (some .boolean) (by decide) rfl (Nat.le_of_ble_eq_true rfl) ?_
  intro pP eE sS mM below meth cC hx hb hml hr hts hown hlk hP hK hX hS ls hl
  have hl : lv_has ls 3 [(0, .ref (ad k)), (1, .int (nI a)), (2, .int (nI b))] := hl
  have hlen := (hZ.2.2 hL).1
  have hn60 := (hZ.2.2 hL).2.1
  have hlan := hZ.1.trans (lz_lt hL)
  refine lv_aload_n hx hb dX2_hasCells_0 rfl (lv_at hl 0 rfl) ?_
  refine xk_get hx hb hts (inX2_hasCells_X2) hown hK hP k (by omega) (ci := 2) (e1_sheet (by omega) (by omega)) rfl 2 (by decide) (flX2_hasCells_19 hts) rfl (.int (σ k 2)) rfl dX2_hasCells_1 ?_
  refine xn_eqi (y := nI n) hlen ?_
  refine lv_aload_n hx hb dX2_hasCells_4 rfl (lv_at hl 0 rfl) ?_
  refine xk_get hx hb hts (inX2_hasCells_X2) hown hK hP k (by omega) (ci := 2) (e1_sheet (by omega) (by omega)) rfl 0 (by decide) (flX2_hasCells_9 hts) rfl (.ref (ad (k + 4))) rfl dX2_hasCells_5 ?_
  refine xk_alen hx hb hK hP (k + 4) (by omega) (e1_cells (by omega) (by omega)) 0 rfl 60 rfl dX2_hasCells_8 ?_
  refine xn_igt (tgt := 42) hx hb dX2_hasCells_9 (by decide) (by omega) (by omega) (fun c_9 => absurd c_9 (by omega)) (fun c_9 => ?_)
  refine lv_iload_n hx hb dX2_hasCells_12 rfl (lv_at hl 1 rfl) ?_
  refine xn_zlt (tgt := 42) hx hb dX2_hasCells_13 (by decide) (by omega) (fun c_13 => absurd c_13 (by omega)) (fun c_13 => ?_)
  refine lv_iload_n hx hb dX2_hasCells_16 rfl (lv_at hl 1 rfl) ?_
  refine lv_aload_n hx hb dX2_hasCells_17 rfl (lv_at hl 0 rfl) ?_
  refine xk_get hx hb hts (inX2_hasCells_X2) hown hK hP k (by omega) (ci := 2) (e1_sheet (by omega) (by omega)) rfl 2 (by decide) (flX2_hasCells_19 hts) rfl (.int (σ k 2)) rfl dX2_hasCells_18 ?_
  refine xn_eqi (y := nI n) hlen ?_
  refine xn_igt (tgt := 42) hx hb dX2_hasCells_21 (by decide) (by omega) (by omega) (fun c_21 => absurd c_21 (by omega)) (fun c_21 => ?_)
  refine lv_iload_n hx hb dX2_hasCells_24 rfl (lv_at hl 2 rfl) ?_
  refine xn_zlt (tgt := 42) hx hb dX2_hasCells_25 (by decide) (by omega) (fun c_25 => absurd c_25 (by omega)) (fun c_25 => ?_)
  refine lv_iload_n hx hb dX2_hasCells_28 rfl (lv_at hl 2 rfl) ?_
  refine lv_aload_n hx hb dX2_hasCells_29 rfl (lv_at hl 0 rfl) ?_
  refine xk_get hx hb hts (inX2_hasCells_X2) hown hK hP k (by omega) (ci := 2) (e1_sheet (by omega) (by omega)) rfl 2 (by decide) (flX2_hasCells_19 hts) rfl (.int (σ k 2)) rfl dX2_hasCells_30 ?_
  refine xn_eqi (y := nI n) hlen ?_
  refine lv_iload_n hx hb dX2_hasCells_33 rfl (lv_at hl 1 rfl) ?_
  refine xn_isub hx hb (by omega) dX2_hasCells_34 ?_
  refine xn_igt (tgt := 42) hx hb dX2_hasCells_35 (by decide) (by omega) (by omega) (fun c_35 => absurd c_35 (by omega)) (fun c_35 => ?_)
  refine lv_iconst (v := nI 1) hx hb dX2_hasCells_38 (by decide) ?_
  refine lv_goto (tgt := 43) hx hb dX2_hasCells_39 (by decide) ?_
  exact xk_iret hx hb hr rfl X1_ok hK hX hP hS hlk dX2_hasCells_43 (⟨rfl, rfl⟩)

set_option maxHeartbeats 4000000 in
set_option maxRecDepth 100000 in
theorem k1_hasCells_out (l : Launch) {D : va_G} {ca : Nat → ClassId} {ad : Nat → Nat} (hI : Ij ad 34) {σ : Sg} {k L n : Nat} {cc : Nat → Int32} {x y : Int32} (hk1 : 1 ≤ k) (hk2 : k < 5) (hZ : SheetAt σ k L n cc) (hL : L < 3) (hxy : ∀ a b, a + b ≤ n → ¬ (x = nI a ∧ y = nI b)) : C1i l D ca ad yX2_hasCells wsX2_hasCells { frames := 0, cells := 0, slots := 0, locals := 0 } [.ref (ad k), .int x, .int y] σ (xFn (nI 0) σ) := by
  refine xk_entry cX2_hasCells 3 (some .boolean) (by decide) rfl (Nat.le_of_ble_eq_true rfl) ?_
  intro pP eE sS mM below meth cC hx hb hml hr hts hown hlk hP hK hX hS ls hl
  have hl : lv_has ls 3 [(0, .ref (ad k)), (1, .int x), (2, .int y)] := hl
  have hlen := (hZ.2.2 hL).1
  have hn60 := (hZ.2.2 hL).2.1
  have hlan := hZ.1.trans (lz_lt hL)
  refine lv_aload_n hx hb dX2_hasCells_0 rfl (lv_at hl 0 rfl) ?_
  refine xk_get hx hb hts (inX2_hasCells_X2) hown hK hP k (by omega) (ci := 2) (e1_sheet (by omega) (by omega)) rfl 2 (by decide) (flX2_hasCells_19 hts) rfl (.int (σ k 2)) rfl dX2_hasCells_1 ?_
  refine xn_eqi (y := nI n) hlen ?_
  refine lv_aload_n hx hb dX2_hasCells_4 rfl (lv_at hl 0 rfl) ?_
  refine xk_get hx hb hts (inX2_hasCells_X2) hown hK hP k (by omega) (ci := 2) (e1_sheet (by omega) (by omega)) rfl 0 (by decide) (flX2_hasCells_9 hts) rfl (.ref (ad (k + 4))) rfl dX2_hasCells_5 ?_
  refine xk_alen hx hb hK hP (k + 4) (by omega) (e1_cells (by omega) (by omega)) 0 rfl 60 rfl dX2_hasCells_8 ?_
  refine xn_igt (tgt := 42) hx hb dX2_hasCells_9 (by decide) (by omega) (by omega) (fun c_9 => absurd c_9 (by omega)) (fun c_9 => ?_)
  refine lv_iload_n hx hb dX2_hasCells_12 rfl (lv_at hl 1 rfl) ?_
  refine lv_if_lt (tgt := 42) hx hb dX2_hasCells_13 (by decide) (fun c_13 => ?_) (fun c_13 => ?_)
  · refine lv_iconst (v := nI 0) hx hb dX2_hasCells_42 (by decide) ?_
    exact xk_iret hx hb hr rfl X1_ok hK hX hP hS hlk dX2_hasCells_43 (⟨rfl, rfl⟩)
  · obtain ⟨a1, ha1, rfl⟩ := nI_of c_13
    refine lv_iload_n hx hb dX2_hasCells_16 rfl (lv_at hl 1 rfl) ?_
    refine lv_aload_n hx hb dX2_hasCells_17 rfl (lv_at hl 0 rfl) ?_
    refine xk_get hx hb hts (inX2_hasCells_X2) hown hK hP k (by omega) (ci := 2) (e1_sheet (by omega) (by omega)) rfl 2 (by decide) (flX2_hasCells_19 hts) rfl (.int (σ k 2)) rfl dX2_hasCells_18 ?_
    refine xn_eqi (y := nI n) hlen ?_
    refine xn_igt (tgt := 42) hx hb dX2_hasCells_21 (by decide) (by omega) (by omega) (fun c_21 => ?_) (fun c_21 => ?_)
    · refine lv_iconst (v := nI 0) hx hb dX2_hasCells_42 (by decide) ?_
      exact xk_iret hx hb hr rfl X1_ok hK hX hP hS hlk dX2_hasCells_43 (⟨rfl, rfl⟩)
    · refine lv_iload_n hx hb dX2_hasCells_24 rfl (lv_at hl 2 rfl) ?_
      refine lv_if_lt (tgt := 42) hx hb dX2_hasCells_25 (by decide) (fun c_25 => ?_) (fun c_25 => ?_)
      · refine lv_iconst (v := nI 0) hx hb dX2_hasCells_42 (by decide) ?_
        exact xk_iret hx hb hr rfl X1_ok hK hX hP hS hlk dX2_hasCells_43 (⟨rfl, rfl⟩)
      · obtain ⟨b1, hb1, rfl⟩ := nI_of c_25
        refine lv_iload_n hx hb dX2_hasCells_28 rfl (lv_at hl 2 rfl) ?_
        refine lv_aload_n hx hb dX2_hasCells_29 rfl (lv_at hl 0 rfl) ?_
        refine xk_get hx hb hts (inX2_hasCells_X2) hown hK hP k (by omega) (ci := 2) (e1_sheet (by omega) (by omega)) rfl 2 (by decide) (flX2_hasCells_19 hts) rfl (.int (σ k 2)) rfl dX2_hasCells_30 ?_
        refine xn_eqi (y := nI n) hlen ?_
        refine lv_iload_n hx hb dX2_hasCells_33 rfl (lv_at hl 1 rfl) ?_
        refine xn_isub hx hb (by omega) dX2_hasCells_34 ?_
        refine xn_igt (tgt := 42) hx hb dX2_hasCells_35 (by decide) (by omega) (by omega) (fun c_35 => ?_) (fun c_35 => ?_)
        · refine lv_iconst (v := nI 0) hx hb dX2_hasCells_42 (by decide) ?_
          exact xk_iret hx hb hr rfl X1_ok hK hX hP hS hlk dX2_hasCells_43 (⟨rfl, rfl⟩)
        · exact absurd ⟨rfl, rfl⟩ (hxy a1 b1 (by omega))

set_option maxRecDepth 20000 in
theorem flX2_numberAt_9 {s : State} {av : Array Value} (hts : ∀ w ∈ wsX2_numberAt, w.before av s = true) : (Cond.fieldLink RX2 9 "WellBack$Sheet" "cells" "[I").before av s = true := hts _ (by decide +kernel)
set_option maxRecDepth 20000 in
theorem inX2_numberAt_X2 : ∀ w ∈ u_ws RX2 TX2 3, w ∈ wsX2_numberAt := by decide +kernel
set_option maxHeartbeats 4000000 in
set_option maxRecDepth 100000 in
theorem k1_numberAt (l : Launch) {D : va_G} {ca : Nat → ClassId} {ad : Nat → Nat} (hI : Ij ad 34) {σ : Sg} {k L n : Nat} {cc : Nat → Int32} {j : Nat} (hk1 : 1 ≤ k) (hk2 : k < 5) (hZ : SheetAt σ k L n cc) (hL : L < 3) (hj : j < n) : C1i l D ca ad yX2_numberAt wsX2_numberAt { frames := 1, cells := 0, slots := 0, locals := 21 } [.ref (ad k), .int (nI j)] σ (xFn (cc j) σ) := by
  refine xk_entry cX2_numberAt 2 (some .int) (by decide) rfl (Nat.le_of_ble_eq_true rfl) ?_
  intro pP eE sS mM below meth cC hx hb hml hr hts hown hlk hP hK hX hS ls hl
  have hl : lv_has ls 2 [(0, .ref (ad k)), (1, .int (nI j))] := hl
  have hlen := (hZ.2.2 hL).1
  have hn60 := (hZ.2.2 hL).2.1
  have hlan := hZ.1.trans (lz_lt hL)
  refine lv_aload_n hx hb dX2_numberAt_0 rfl (lv_at hl 0 rfl) ?_
  refine lv_iload_n hx hb dX2_numberAt_1 rfl (lv_at hl 1 rfl) ?_
  refine xk_fi (va_runV (As := [.int (nI j)]) (rest := []) ⟨hx, hb, hml, hown, hts⟩ (k1_hasCell_in l hI (by omega) (by omega) hZ hL (by omega)) (cwV 1 hts gX2_numberAt_X2_hasCell rfl rfl rfl (by decide +kernel) ⟨Nat.le_of_ble_eq_true rfl, Nat.le_of_ble_eq_true rfl⟩) (xk_preV X1_ok hK hX hP (xk_recv hK hP k (by omega) (ci := 2) (e1_sheet (by omega) (by omega)) rfl)) rfl rfl hl.1 rfl (lv_room (Nat.le_of_ble_eq_true rfl)) dX2_numberAt_2 ⟨Nat.le_of_ble_eq_true rfl, Nat.le_of_ble_eq_true rfl⟩) hS (fun H locs hP hS => ?_)
  refine xn_zeq (tgt := 17) hx hb dX2_numberAt_5 (by decide) (by omega) (fun c_5 => absurd c_5 (by omega)) (fun c_5 => ?_)
  refine lv_aload_n hx hb dX2_numberAt_8 rfl (lv_at hl 0 rfl) ?_
  refine xk_get hx hb hts (inX2_numberAt_X2) hown hK hP k (by omega) (ci := 2) (e1_sheet (by omega) (by omega)) rfl 0 (by decide) (flX2_numberAt_9 hts) rfl (.ref (ad (k + 4))) rfl dX2_numberAt_9 ?_
  refine lv_iload_n hx hb dX2_numberAt_12 rfl (lv_at hl 1 rfl) ?_
  refine xk_iald hx hb hK hP (k + 4) (by omega) (n := 60) (e1_cells (by omega) (by omega)) rfl j (by omega) (by decide) dX2_numberAt_13 ?_
  refine xn_eqi (y := cc j) ((hZ.2.2 hL).2.2 _ hj) ?_
  refine lv_goto (tgt := 18) hx hb dX2_numberAt_14 (by decide) ?_
  exact xk_iret hx hb hr (vp_nar_int _) X1_ok hK hX hP hS hlk dX2_numberAt_18 (⟨rfl, rfl⟩)

set_option maxRecDepth 20000 in
theorem flX2_cutToLane_15 {s : State} {av : Array Value} (hts : ∀ w ∈ wsX2_cutToLane, w.before av s = true) : (Cond.fieldLink RX2 15 "WellBack$Sheet" "lane" "I").before av s = true := hts _ (by decide +kernel)
set_option maxRecDepth 20000 in
theorem inX2_cutToLane_X2 : ∀ w ∈ u_ws RX2 TX2 3, w ∈ wsX2_cutToLane := by decide +kernel
set_option maxHeartbeats 4000000 in
set_option maxRecDepth 100000 in
theorem k1_cut (l : Launch) {D : va_G} {ca : Nat → ClassId} {ad : Nat → Nat} (hI : Ij ad 34) {σ : Sg} {k L n : Nat} {cc : Nat → Int32} {v : Int32} (hk1 : 1 ≤ k) (hk2 : k < 5) (hZ : SheetAt σ k L n cc) (hL : L < 3) : C1i l D ca ad yX2_cutToLane wsX2_cutToLane { frames := 0, cells := 0, slots := 0, locals := 0 } [.ref (ad k), .int v] σ (xFn (cutI L v) σ) := by
  refine xk_entry cX2_cutToLane 2 (some .int) (by decide) rfl (Nat.le_of_ble_eq_true rfl) ?_
  intro pP eE sS mM below meth cC hx hb hml hr hts hown hlk hP hK hX hS ls hl
  have hl : lv_has ls 2 [(0, .ref (ad k)), (1, .int v)] := hl
  have hlen := (hZ.2.2 hL).1
  have hn60 := (hZ.2.2 hL).2.1
  have hlan := hZ.1.trans (lz_lt hL)
  refine lv_aload_n hx hb dX2_cutToLane_0 rfl (lv_at hl 0 rfl) ?_
  refine xk_get hx hb hts (inX2_cutToLane_X2) hown hK hP k (by omega) (ci := 2) (e1_sheet (by omega) (by omega)) rfl 1 (by decide) (flX2_cutToLane_15 hts) rfl (.int (σ k 1)) rfl dX2_cutToLane_1 ?_
  refine xn_eqi (y := nI L) hlan ?_
  refine xn_zne (tgt := 10) hx hb dX2_cutToLane_4 (by decide) (by omega) (fun c_4 => ?_) (fun c_4 => ?_)
  · refine lv_aload_n hx hb dX2_cutToLane_10 rfl (lv_at hl 0 rfl) ?_
    refine xk_get hx hb hts (inX2_cutToLane_X2) hown hK hP k (by omega) (ci := 2) (e1_sheet (by omega) (by omega)) rfl 1 (by decide) (flX2_cutToLane_15 hts) rfl (.int (σ k 1)) rfl dX2_cutToLane_11 ?_
    refine xn_eqi (y := nI L) hlan ?_
    refine lv_iconst (v := nI 1) hx hb dX2_cutToLane_14 (by decide) ?_
    refine xn_ine (tgt := 23) hx hb dX2_cutToLane_15 (by decide) (by omega) (by omega) (fun c_15 => ?_) (fun c_15 => ?_)
    · refine lv_iload_n hx hb dX2_cutToLane_23 rfl (lv_at hl 1 rfl) ?_
      exact xk_iret hx hb hr (vp_nar_int _) X1_ok hK hX hP hS hlk dX2_cutToLane_24 (⟨by rw [cutI, if_neg c_4, if_neg c_15], rfl⟩)
    · refine lv_iload_n hx hb dX2_cutToLane_18 rfl (lv_at hl 1 rfl) ?_
      refine lv_i2s hx hb dX2_cutToLane_19 rfl ?_
      refine lv_goto (tgt := 24) hx hb dX2_cutToLane_20 (by decide) ?_
      exact xk_iret hx hb hr (vp_nar_int _) X1_ok hK hX hP hS hlk dX2_cutToLane_24 (⟨by rw [cutI, if_neg c_4, if_pos c_15], rfl⟩)
  · refine lv_iload_n hx hb dX2_cutToLane_7 rfl (lv_at hl 1 rfl) ?_
    refine lv_i2b hx hb dX2_cutToLane_8 rfl ?_
    exact xk_iret hx hb hr (vp_nar_int _) X1_ok hK hX hP hS hlk dX2_cutToLane_9 (⟨by rw [cutI, if_pos c_4], rfl⟩)

set_option maxRecDepth 20000 in
theorem flX2_write_9 {s : State} {av : Array Value} (hts : ∀ w ∈ wsX2_write, w.before av s = true) : (Cond.fieldLink RX2 9 "WellBack$Sheet" "cells" "[I").before av s = true := hts _ (by decide +kernel)
set_option maxRecDepth 20000 in
theorem inX2_write_X2 : ∀ w ∈ u_ws RX2 TX2 3, w ∈ wsX2_write := by decide +kernel
set_option maxHeartbeats 4000000 in
set_option maxRecDepth 100000 in
theorem k1_write (l : Launch) {D : va_G} {ca : Nat → ClassId} {ad : Nat → Nat} (hI : Ij ad 34) {σ : Sg} {k L n : Nat} {cc : Nat → Int32} {j : Nat} {v : Int32} (hk1 : 1 ≤ k) (hk2 : k < 5) (hZ : SheetAt σ k L n cc) (hL : L < 3) (hj : j < n) : C1v l D ca ad yX2_write wsX2_write { frames := 1, cells := 0, slots := 0, locals := 21 } [.ref (ad k), .int (nI j), .int v] σ (xFv (up σ (k + 4) j (cutI L v))) := by
  refine xk_entry cX2_write 3 none (by decide) rfl (Nat.le_of_ble_eq_true rfl) ?_
  intro pP eE sS mM below meth cC hx hb hml hr hts hown hlk hP hK hX hS ls hl
  have hl : lv_has ls 3 [(0, .ref (ad k)), (1, .int (nI j)), (2, .int v)] := hl
  have hlen := (hZ.2.2 hL).1
  have hn60 := (hZ.2.2 hL).2.1
  have hlan := hZ.1.trans (lz_lt hL)
  refine lv_aload_n hx hb dX2_write_0 rfl (lv_at hl 0 rfl) ?_
  refine lv_iload_n hx hb dX2_write_1 rfl (lv_at hl 1 rfl) ?_
  refine xk_fi (va_runV (As := [.int (nI j)]) (rest := []) ⟨hx, hb, hml, hown, hts⟩ (k1_hasCell_in l hI (by omega) (by omega) hZ hL (by omega)) (cwV 1 hts gX2_write_X2_hasCell rfl rfl rfl (by decide +kernel) ⟨Nat.le_of_ble_eq_true rfl, Nat.le_of_ble_eq_true rfl⟩) (xk_preV X1_ok hK hX hP (xk_recv hK hP k (by omega) (ci := 2) (e1_sheet (by omega) (by omega)) rfl)) rfl rfl hl.1 rfl (lv_room (Nat.le_of_ble_eq_true rfl)) dX2_write_2 ⟨Nat.le_of_ble_eq_true rfl, Nat.le_of_ble_eq_true rfl⟩) hS (fun H locs hP hS => ?_)
  refine xn_zeq (tgt := 19) hx hb dX2_write_5 (by decide) (by omega) (fun c_5 => absurd c_5 (by omega)) (fun c_5 => ?_)
  refine lv_aload_n hx hb dX2_write_8 rfl (lv_at hl 0 rfl) ?_
  refine xk_get hx hb hts (inX2_write_X2) hown hK hP k (by omega) (ci := 2) (e1_sheet (by omega) (by omega)) rfl 0 (by decide) (flX2_write_9 hts) rfl (.ref (ad (k + 4))) rfl dX2_write_9 ?_
  refine lv_iload_n hx hb dX2_write_12 rfl (lv_at hl 1 rfl) ?_
  refine lv_aload_n hx hb dX2_write_13 rfl (lv_at hl 0 rfl) ?_
  refine lv_iload_n hx hb dX2_write_14 rfl (lv_at hl 2 rfl) ?_
  refine xk_fi (va_runV (As := [.int v]) (rest := [.int (nI j), .ref (ad (k + 4))]) ⟨hx, hb, hml, hown, hts⟩ (k1_cut l hI (by omega) (by omega) hZ hL) (cwV 1 hts gX2_write_X2_cutToLane rfl rfl rfl (by decide +kernel) ⟨Nat.le_of_ble_eq_true rfl, Nat.le_of_ble_eq_true rfl⟩) (xk_preV X1_ok hK hX hP (xk_recv hK hP k (by omega) (ci := 2) (e1_sheet (by omega) (by omega)) rfl)) rfl rfl hl.1 rfl (lv_room (Nat.le_of_ble_eq_true rfl)) dX2_write_15 ⟨Nat.le_of_ble_eq_true rfl, Nat.le_of_ble_eq_true rfl⟩) hS (fun H locs hP hS => ?_)
  refine xk_iast hx hb hK hI hP hS (k + 4) (by omega) (n := 60) (fun τ => (e1_cells (by omega) (by omega))) rfl j (by omega) (by decide) e1_loc dX2_write_18 (fun H locs hP hS => ?_)
  exact xk_vret hx hb hr X1_ok hK hX hP hS hlk dX2_write_19 rfl

set_option maxRecDepth 20000 in
theorem flX2_faultOfLane_15 {s : State} {av : Array Value} (hts : ∀ w ∈ wsX2_faultOfLane, w.before av s = true) : (Cond.fieldLink RX2 15 "WellBack$Sheet" "lane" "I").before av s = true := hts _ (by decide +kernel)
set_option maxRecDepth 20000 in
theorem inX2_faultOfLane_X2 : ∀ w ∈ u_ws RX2 TX2 3, w ∈ wsX2_faultOfLane := by decide +kernel
set_option maxHeartbeats 4000000 in
set_option maxRecDepth 100000 in
theorem k1_fol (l : Launch) {D : va_G} {ca : Nat → ClassId} {ad : Nat → Nat} (hI : Ij ad 34) {σ : Sg} {k L n : Nat} {cc : Nat → Int32} {w : Nat} (hk1 : 1 ≤ k) (hk2 : k < 5) (hZ : SheetAt σ k L n cc) (hw : w ≤ 2) : C1i l D ca ad yX2_faultOfLane wsX2_faultOfLane { frames := 1, cells := 0, slots := 0, locals := 20 } [.ref (ad k), .int (nI w)] σ (xFn (nI (fL L w)) σ) := by
  refine xk_entry cX2_faultOfLane 2 (some .int) (by decide) rfl (Nat.le_of_ble_eq_true rfl) ?_
  intro pP eE sS mM below meth cC hx hb hml hr hts hown hlk hP hK hX hS ls hl
  have hl : lv_has ls 2 [(0, .ref (ad k)), (1, .int (nI w))] := hl
  refine lv_aload_n hx hb dX2_faultOfLane_0 rfl (lv_at hl 0 rfl) ?_
  by_cases q_1 : L = 3
  · refine xk_fi (va_runV (As := []) (rest := []) ⟨hx, hb, hml, hown, hts⟩ (k1_hasRow_f l hI (by omega) (by omega) hZ q_1) (cwV 0 hts gX2_faultOfLane_X2_hasRow rfl rfl rfl (by decide +kernel) ⟨Nat.le_of_ble_eq_true rfl, Nat.le_of_ble_eq_true rfl⟩) (xk_preV X1_ok hK hX hP (xk_recv hK hP k (by omega) (ci := 2) (e1_sheet (by omega) (by omega)) rfl)) rfl rfl hl.1 rfl (lv_room (Nat.le_of_ble_eq_true rfl)) dX2_faultOfLane_1 ⟨Nat.le_of_ble_eq_true rfl, Nat.le_of_ble_eq_true rfl⟩) hS (fun H locs hP hS => ?_)
    refine xn_zne (tgt := 9) hx hb dX2_faultOfLane_4 (by decide) (by omega) (fun c_4 => absurd c_4 (by omega)) (fun c_4 => ?_)
    refine lv_iconst (v := nI 1) hx hb dX2_faultOfLane_7 (by decide) ?_
    exact xk_iret hx hb hr (vp_nar_int _) X1_ok hK hX hP hS hlk dX2_faultOfLane_8 (⟨by rw [fL, if_pos q_1], rfl⟩)
  · have hL : L < 3 := by have := hZ.2.1; omega
    have hlan := hZ.1.trans (lz_lt hL)
    refine xk_fi (va_runV (As := []) (rest := []) ⟨hx, hb, hml, hown, hts⟩ (k1_hasRow_t l hI (by omega) (by omega) hZ hL) (cwV 0 hts gX2_faultOfLane_X2_hasRow rfl rfl rfl (by decide +kernel) ⟨Nat.le_of_ble_eq_true rfl, Nat.le_of_ble_eq_true rfl⟩) (xk_preV X1_ok hK hX hP (xk_recv hK hP k (by omega) (ci := 2) (e1_sheet (by omega) (by omega)) rfl)) rfl rfl hl.1 rfl (lv_room (Nat.le_of_ble_eq_true rfl)) dX2_faultOfLane_1 ⟨Nat.le_of_ble_eq_true rfl, Nat.le_of_ble_eq_true rfl⟩) hS (fun H locs hP hS => ?_)
    refine xn_zne (tgt := 9) hx hb dX2_faultOfLane_4 (by decide) (by omega) (fun c_4 => ?_) (fun c_4 => absurd c_4 (by omega))
    refine lv_aload_n hx hb dX2_faultOfLane_9 rfl (lv_at hl 0 rfl) ?_
    refine xk_get hx hb hts (inX2_faultOfLane_X2) hown hK hP k (by omega) (ci := 2) (e1_sheet (by omega) (by omega)) rfl 1 (by decide) (flX2_faultOfLane_15 hts) rfl (.int (σ k 1)) rfl dX2_faultOfLane_10 ?_
    refine xn_eqi (y := nI L) hlan ?_
    refine lv_iload_n hx hb dX2_faultOfLane_13 rfl (lv_at hl 1 rfl) ?_
    refine xn_ine (tgt := 21) hx hb dX2_faultOfLane_14 (by decide) (by omega) (by omega) (fun c_14 => ?_) (fun c_14 => ?_)
    · refine lv_iconst (v := nI 2) hx hb dX2_faultOfLane_21 (by decide) ?_
      exact xk_iret hx hb hr (vp_nar_int _) X1_ok hK hX hP hS hlk dX2_faultOfLane_22 (⟨by rw [fL, if_neg q_1, if_neg c_14], rfl⟩)
    · refine lv_iconst (v := nI 0) hx hb dX2_faultOfLane_17 (by decide) ?_
      refine lv_goto (tgt := 22) hx hb dX2_faultOfLane_18 (by decide) ?_
      exact xk_iret hx hb hr (vp_nar_int _) X1_ok hK hX hP hS hlk dX2_faultOfLane_22 (⟨by rw [fL, if_neg q_1, if_pos c_14], rfl⟩)

set_option maxHeartbeats 4000000 in
set_option maxRecDepth 100000 in
theorem k1_foc_lane (l : Launch) {D : va_G} {ca : Nat → ClassId} {ad : Nat → Nat} (hI : Ij ad 34) {σ : Sg} {k L n : Nat} {cc : Nat → Int32} {w : Nat} {x y : Int32} (hk1 : 1 ≤ k) (hk2 : k < 5) (hZ : SheetAt σ k L n cc) (hw : w ≤ 2) (hf : fL L w ≠ 0) : C1i l D ca ad yX2_faultOfCells wsX2_faultOfCells { frames := 2, cells := 0, slots := 0, locals := 41 } [.ref (ad k), .int (nI w), .int x, .int y] σ (xFn (nI (fL L w)) σ) := by
  refine xk_entry cX2_faultOfCells 5 (some .int) (by decide) rfl (Nat.le_of_ble_eq_true rfl) ?_
  intro pP eE sS mM below meth cC hx hb hml hr hts hown hlk hP hK hX hS ls hl
  have hl : lv_has ls 5 [(0, .ref (ad k)), (1, .int (nI w)), (2, .int x), (3, .int y)] := hl
  refine lv_aload_n hx hb dX2_faultOfCells_0 rfl (lv_at hl 0 rfl) ?_
  refine lv_iload_n hx hb dX2_faultOfCells_1 rfl (lv_at hl 1 rfl) ?_
  refine xk_fi (va_runV (As := [.int (nI w)]) (rest := []) ⟨hx, hb, hml, hown, hts⟩ (k1_fol l hI (w := w) (by omega) (by omega) hZ (by omega)) (cwV 1 hts gX2_faultOfCells_X2_faultOfLane rfl rfl rfl (by decide +kernel) ⟨Nat.le_of_ble_eq_true rfl, Nat.le_of_ble_eq_true rfl⟩) (xk_preV X1_ok hK hX hP (xk_recv hK hP k (by omega) (ci := 2) (e1_sheet (by omega) (by omega)) rfl)) rfl rfl hl.1 rfl (lv_room (Nat.le_of_ble_eq_true rfl)) dX2_faultOfCells_2 ⟨Nat.le_of_ble_eq_true rfl, Nat.le_of_ble_eq_true rfl⟩) hS (fun H locs hP hS => ?_)
  have hfl : fL L w ≤ 2 := by unfold fL; split <;> (try split) <;> omega
  refine lv_istore (lv' := [(4, .int (nI (fL L w))), (0, .ref (ad k)), (1, .int (nI w)), (2, .int x), (3, .int y)]) hx hb dX2_faultOfCells_5 hl (by decide) rfl (fun ls hl => ?_)
  refine lv_iload hx hb dX2_faultOfCells_7 (lv_at hl 0 rfl) ?_
  refine xn_zeq (tgt := 15) hx hb dX2_faultOfCells_9 (by decide) (by omega) (fun c_9 => absurd c_9 (by omega)) (fun c_9 => ?_)
  refine lv_iload hx hb dX2_faultOfCells_12 (lv_at hl 0 rfl) ?_
  exact xk_iret hx hb hr (vp_nar_int _) X1_ok hK hX hP hS hlk dX2_faultOfCells_14 (⟨rfl, rfl⟩)

set_option maxHeartbeats 4000000 in
set_option maxRecDepth 100000 in
theorem k1_foc_size (l : Launch) {D : va_G} {ca : Nat → ClassId} {ad : Nat → Nat} (hI : Ij ad 34) {σ : Sg} {k L n : Nat} {cc : Nat → Int32} {w : Nat} {x y : Int32} (hk1 : 1 ≤ k) (hk2 : k < 5) (hZ : SheetAt σ k L n cc) (hw : w ≤ 2) (hLw : L = w) (hy : y < 0) : C1i l D ca ad yX2_faultOfCells wsX2_faultOfCells { frames := 2, cells := 0, slots := 0, locals := 41 } [.ref (ad k), .int (nI w), .int x, .int y] σ (xFn (nI 4) σ) := by
  refine xk_entry cX2_faultOfCells 5 (some .int) (by decide) rfl (Nat.le_of_ble_eq_true rfl) ?_
  intro pP eE sS mM below meth cC hx hb hml hr hts hown hlk hP hK hX hS ls hl
  have hl : lv_has ls 5 [(0, .ref (ad k)), (1, .int (nI w)), (2, .int x), (3, .int y)] := hl
  have hL : L < 3 := by omega
  have hf0 : fL L w = 0 := by rw [fL, if_neg (by omega), if_pos hLw]
  refine lv_aload_n hx hb dX2_faultOfCells_0 rfl (lv_at hl 0 rfl) ?_
  refine lv_iload_n hx hb dX2_faultOfCells_1 rfl (lv_at hl 1 rfl) ?_
  refine xk_fi (va_runV (As := [.int (nI w)]) (rest := []) ⟨hx, hb, hml, hown, hts⟩ (k1_fol l hI (w := w) (by omega) (by omega) hZ (by omega)) (cwV 1 hts gX2_faultOfCells_X2_faultOfLane rfl rfl rfl (by decide +kernel) ⟨Nat.le_of_ble_eq_true rfl, Nat.le_of_ble_eq_true rfl⟩) (xk_preV X1_ok hK hX hP (xk_recv hK hP k (by omega) (ci := 2) (e1_sheet (by omega) (by omega)) rfl)) rfl rfl hl.1 rfl (lv_room (Nat.le_of_ble_eq_true rfl)) dX2_faultOfCells_2 ⟨Nat.le_of_ble_eq_true rfl, Nat.le_of_ble_eq_true rfl⟩) hS (fun H locs hP hS => ?_)
  have hfl : fL L w ≤ 2 := by unfold fL; split <;> (try split) <;> omega
  refine lv_istore (lv' := [(4, .int (nI (fL L w))), (0, .ref (ad k)), (1, .int (nI w)), (2, .int x), (3, .int y)]) hx hb dX2_faultOfCells_5 hl (by decide) rfl (fun ls hl => ?_)
  refine lv_iload hx hb dX2_faultOfCells_7 (lv_at hl 0 rfl) ?_
  refine xn_zeq (tgt := 15) hx hb dX2_faultOfCells_9 (by decide) (by omega) (fun c_9 => ?_) (fun c_9 => absurd c_9 (by omega))
  refine lv_iload_n hx hb dX2_faultOfCells_15 rfl (lv_at hl 4 rfl) ?_
  refine lv_if_ge (tgt := 21) hx hb dX2_faultOfCells_16 (by decide) (fun c_16 => absurd c_16 (fun z => Int32.not_lt.mpr z hy)) (fun c_16 => ?_)
  refine lv_iconst (v := nI 4) hx hb dX2_faultOfCells_19 (by decide) ?_
  exact xk_iret hx hb hr (vp_nar_int _) X1_ok hK hX hP hS hlk dX2_faultOfCells_20 (⟨rfl, rfl⟩)

set_option maxHeartbeats 4000000 in
set_option maxRecDepth 100000 in
theorem k1_foc_idx (l : Launch) {D : va_G} {ca : Nat → ClassId} {ad : Nat → Nat} (hI : Ij ad 34) {σ : Sg} {k L n : Nat} {cc : Nat → Int32} {w : Nat} {x y : Int32} (hk1 : 1 ≤ k) (hk2 : k < 5) (hZ : SheetAt σ k L n cc) (hw : w ≤ 2) (hLw : L = w) (hy : ¬ y < 0) (hxy : ∀ a b, a + b ≤ n → ¬ (x = nI a ∧ y = nI b)) : C1i l D ca ad yX2_faultOfCells wsX2_faultOfCells { frames := 2, cells := 0, slots := 0, locals := 41 } [.ref (ad k), .int (nI w), .int x, .int y] σ (xFn (nI 3) σ) := by
  refine xk_entry cX2_faultOfCells 5 (some .int) (by decide) rfl (Nat.le_of_ble_eq_true rfl) ?_
  intro pP eE sS mM below meth cC hx hb hml hr hts hown hlk hP hK hX hS ls hl
  have hl : lv_has ls 5 [(0, .ref (ad k)), (1, .int (nI w)), (2, .int x), (3, .int y)] := hl
  have hL : L < 3 := by omega
  have hf0 : fL L w = 0 := by rw [fL, if_neg (by omega), if_pos hLw]
  refine lv_aload_n hx hb dX2_faultOfCells_0 rfl (lv_at hl 0 rfl) ?_
  refine lv_iload_n hx hb dX2_faultOfCells_1 rfl (lv_at hl 1 rfl) ?_
  refine xk_fi (va_runV (As := [.int (nI w)]) (rest := []) ⟨hx, hb, hml, hown, hts⟩ (k1_fol l hI (w := w) (by omega) (by omega) hZ (by omega)) (cwV 1 hts gX2_faultOfCells_X2_faultOfLane rfl rfl rfl (by decide +kernel) ⟨Nat.le_of_ble_eq_true rfl, Nat.le_of_ble_eq_true rfl⟩) (xk_preV X1_ok hK hX hP (xk_recv hK hP k (by omega) (ci := 2) (e1_sheet (by omega) (by omega)) rfl)) rfl rfl hl.1 rfl (lv_room (Nat.le_of_ble_eq_true rfl)) dX2_faultOfCells_2 ⟨Nat.le_of_ble_eq_true rfl, Nat.le_of_ble_eq_true rfl⟩) hS (fun H locs hP hS => ?_)
  have hfl : fL L w ≤ 2 := by unfold fL; split <;> (try split) <;> omega
  refine lv_istore (lv' := [(4, .int (nI (fL L w))), (0, .ref (ad k)), (1, .int (nI w)), (2, .int x), (3, .int y)]) hx hb dX2_faultOfCells_5 hl (by decide) rfl (fun ls hl => ?_)
  refine lv_iload hx hb dX2_faultOfCells_7 (lv_at hl 0 rfl) ?_
  refine xn_zeq (tgt := 15) hx hb dX2_faultOfCells_9 (by decide) (by omega) (fun c_9 => ?_) (fun c_9 => absurd c_9 (by omega))
  refine lv_iload_n hx hb dX2_faultOfCells_15 rfl (lv_at hl 4 rfl) ?_
  refine lv_if_ge (tgt := 21) hx hb dX2_faultOfCells_16 (by decide) (fun c_16 => ?_) (fun c_16 => absurd (Int32.not_lt.mp hy) c_16)
  refine lv_aload_n hx hb dX2_faultOfCells_21 rfl (lv_at hl 1 rfl) ?_
  refine lv_iload_n hx hb dX2_faultOfCells_22 rfl (lv_at hl 3 rfl) ?_
  refine lv_iload_n hx hb dX2_faultOfCells_23 rfl (lv_at hl 4 rfl) ?_
  refine xk_fi (va_runV (As := [.int x, .int y]) (rest := []) ⟨hx, hb, hml, hown, hts⟩ (k1_hasCells_out l hI (by omega) (by omega) hZ hL hxy) (cwV 2 hts gX2_faultOfCells_X2_hasCells rfl rfl rfl (by decide +kernel) ⟨Nat.le_of_ble_eq_true rfl, Nat.le_of_ble_eq_true rfl⟩) (xk_preV X1_ok hK hX hP (xk_recv hK hP k (by omega) (ci := 2) (e1_sheet (by omega) (by omega)) rfl)) rfl rfl hl.1 rfl (lv_room (Nat.le_of_ble_eq_true rfl)) dX2_faultOfCells_24 ⟨Nat.le_of_ble_eq_true rfl, Nat.le_of_ble_eq_true rfl⟩) hS (fun H locs hP hS => ?_)
  refine xn_zeq (tgt := 34) hx hb dX2_faultOfCells_27 (by decide) (by omega) (fun c_27 => ?_) (fun c_27 => absurd c_27 (by omega))
  refine lv_iconst (v := nI 3) hx hb dX2_faultOfCells_34 (by decide) ?_
  exact xk_iret hx hb hr (vp_nar_int _) X1_ok hK hX hP hS hlk dX2_faultOfCells_35 (⟨rfl, rfl⟩)

set_option maxHeartbeats 4000000 in
set_option maxRecDepth 100000 in
theorem k1_foc_ok (l : Launch) {D : va_G} {ca : Nat → ClassId} {ad : Nat → Nat} (hI : Ij ad 34) {σ : Sg} {k L n : Nat} {cc : Nat → Int32} {w a b : Nat} (hk1 : 1 ≤ k) (hk2 : k < 5) (hZ : SheetAt σ k L n cc) (hw : w ≤ 2) (hLw : L = w) (hab : a + b ≤ n) : C1i l D ca ad yX2_faultOfCells wsX2_faultOfCells { frames := 2, cells := 0, slots := 0, locals := 41 } [.ref (ad k), .int (nI w), .int (nI a), .int (nI b)] σ (xFn (nI 0) σ) := by
  refine xk_entry cX2_faultOfCells 5 (some .int) (by decide) rfl (Nat.le_of_ble_eq_true rfl) ?_
  intro pP eE sS mM below meth cC hx hb hml hr hts hown hlk hP hK hX hS ls hl
  have hl : lv_has ls 5 [(0, .ref (ad k)), (1, .int (nI w)), (2, .int (nI a)), (3, .int (nI b))] := hl
  have hL : L < 3 := by omega
  have hf0 : fL L w = 0 := by rw [fL, if_neg (by omega), if_pos hLw]
  have hn60 := (hZ.2.2 hL).2.1
  refine lv_aload_n hx hb dX2_faultOfCells_0 rfl (lv_at hl 0 rfl) ?_
  refine lv_iload_n hx hb dX2_faultOfCells_1 rfl (lv_at hl 1 rfl) ?_
  refine xk_fi (va_runV (As := [.int (nI w)]) (rest := []) ⟨hx, hb, hml, hown, hts⟩ (k1_fol l hI (w := w) (by omega) (by omega) hZ (by omega)) (cwV 1 hts gX2_faultOfCells_X2_faultOfLane rfl rfl rfl (by decide +kernel) ⟨Nat.le_of_ble_eq_true rfl, Nat.le_of_ble_eq_true rfl⟩) (xk_preV X1_ok hK hX hP (xk_recv hK hP k (by omega) (ci := 2) (e1_sheet (by omega) (by omega)) rfl)) rfl rfl hl.1 rfl (lv_room (Nat.le_of_ble_eq_true rfl)) dX2_faultOfCells_2 ⟨Nat.le_of_ble_eq_true rfl, Nat.le_of_ble_eq_true rfl⟩) hS (fun H locs hP hS => ?_)
  have hfl : fL L w ≤ 2 := by unfold fL; split <;> (try split) <;> omega
  refine lv_istore (lv' := [(4, .int (nI (fL L w))), (0, .ref (ad k)), (1, .int (nI w)), (2, .int (nI a)), (3, .int (nI b))]) hx hb dX2_faultOfCells_5 hl (by decide) rfl (fun ls hl => ?_)
  refine lv_iload hx hb dX2_faultOfCells_7 (lv_at hl 0 rfl) ?_
  refine xn_zeq (tgt := 15) hx hb dX2_faultOfCells_9 (by decide) (by omega) (fun c_9 => ?_) (fun c_9 => absurd c_9 (by omega))
  refine lv_iload_n hx hb dX2_faultOfCells_15 rfl (lv_at hl 4 rfl) ?_
  refine xn_zge (tgt := 21) hx hb dX2_faultOfCells_16 (by decide) (by omega) (fun c_16 => ?_) (fun c_16 => absurd c_16 (by omega))
  refine lv_aload_n hx hb dX2_faultOfCells_21 rfl (lv_at hl 1 rfl) ?_
  refine lv_iload_n hx hb dX2_faultOfCells_22 rfl (lv_at hl 3 rfl) ?_
  refine lv_iload_n hx hb dX2_faultOfCells_23 rfl (lv_at hl 4 rfl) ?_
  refine xk_fi (va_runV (As := [.int (nI a), .int (nI b)]) (rest := []) ⟨hx, hb, hml, hown, hts⟩ (k1_hasCells_in l hI (by omega) (by omega) hZ hL hab) (cwV 2 hts gX2_faultOfCells_X2_hasCells rfl rfl rfl (by decide +kernel) ⟨Nat.le_of_ble_eq_true rfl, Nat.le_of_ble_eq_true rfl⟩) (xk_preV X1_ok hK hX hP (xk_recv hK hP k (by omega) (ci := 2) (e1_sheet (by omega) (by omega)) rfl)) rfl rfl hl.1 rfl (lv_room (Nat.le_of_ble_eq_true rfl)) dX2_faultOfCells_24 ⟨Nat.le_of_ble_eq_true rfl, Nat.le_of_ble_eq_true rfl⟩) hS (fun H locs hP hS => ?_)
  refine xn_zeq (tgt := 34) hx hb dX2_faultOfCells_27 (by decide) (by omega) (fun c_27 => absurd c_27 (by omega)) (fun c_27 => ?_)
  refine lv_iconst (v := nI 0) hx hb dX2_faultOfCells_30 (by decide) ?_
  refine lv_goto (tgt := 35) hx hb dX2_faultOfCells_31 (by decide) ?_
  exact xk_iret hx hb hr (vp_nar_int _) X1_ok hK hX hP hS hlk dX2_faultOfCells_35 (⟨rfl, rfl⟩)

set_option maxRecDepth 20000 in
theorem flX2_begin_9 {s : State} {av : Array Value} (hts : ∀ w ∈ wsX2_begin, w.before av s = true) : (Cond.fieldLink RX2 9 "WellBack$Sheet" "cells" "[I").before av s = true := hts _ (by decide +kernel)
set_option maxRecDepth 20000 in
theorem flX2_begin_15 {s : State} {av : Array Value} (hts : ∀ w ∈ wsX2_begin, w.before av s = true) : (Cond.fieldLink RX2 15 "WellBack$Sheet" "lane" "I").before av s = true := hts _ (by decide +kernel)
set_option maxRecDepth 20000 in
theorem flX2_begin_19 {s : State} {av : Array Value} (hts : ∀ w ∈ wsX2_begin, w.before av s = true) : (Cond.fieldLink RX2 19 "WellBack$Sheet" "length" "I").before av s = true := hts _ (by decide +kernel)
set_option maxRecDepth 20000 in
theorem inX2_begin_X2 : ∀ w ∈ u_ws RX2 TX2 3, w ∈ wsX2_begin := by decide +kernel
set_option maxHeartbeats 4000000 in
set_option maxRecDepth 100000 in
theorem k1_beginS (l : Launch) {D : va_G} {ca : Nat → ClassId} {ad : Nat → Nat} (hI : Ij ad 34) {σ : Sg} {k w m : Nat} (hk1 : 1 ≤ k) (hk2 : k < 5) (hw : w < 3) (hm : m ≤ 60) : C1v l D ca ad yX2_begin wsX2_begin { frames := 0, cells := 0, slots := 0, locals := 0 } [.ref (ad k), .int (nI w), .int (nI m)] σ (fun σ' => (∀ i, i ≠ k → i ≠ k + 4 → σ' i = σ i) ∧ SheetAt σ' k w m (fun _ => nI 0)) := by
  refine xk_entry cX2_begin 4 none (by decide) rfl (Nat.le_of_ble_eq_true rfl) ?_
  intro pP eE sS mM below meth cC hx hb hml hr hts hown hlk hP hK hX hS ls hl
  have hl : lv_has ls 4 [(0, .ref (ad k)), (1, .int (nI w)), (2, .int (nI m))] := hl
  refine lv_aload_n hx hb dX2_begin_0 rfl (lv_at hl 0 rfl) ?_
  refine lv_iload_n hx hb dX2_begin_1 rfl (lv_at hl 1 rfl) ?_
  refine xk_put hx hb hts (inX2_begin_X2) tyX2 tyX2_ok nmX2 hown hK hI hP hS k (by omega) (ci := 2) (e1_sheet (by omega) (by omega)) rfl 1 (by decide) (flX2_begin_15 hts) rfl rfl (by decide +kernel) (Nat.le_of_ble_eq_true rfl) e1_loc (by rw [e1_sheet (by omega) (by omega)]; simp [up]) dX2_begin_2 (fun H locs hP hS => ?_)
  refine lv_aload_n hx hb dX2_begin_5 rfl (lv_at hl 0 rfl) ?_
  refine lv_iload_n hx hb dX2_begin_6 rfl (lv_at hl 2 rfl) ?_
  refine xk_put hx hb hts (inX2_begin_X2) tyX2 tyX2_ok nmX2 hown hK hI hP hS k (by omega) (ci := 2) (e1_sheet (by omega) (by omega)) rfl 2 (by decide) (flX2_begin_19 hts) rfl rfl (by decide +kernel) (Nat.le_of_ble_eq_true rfl) e1_loc (by rw [e1_sheet (by omega) (by omega)]; simp [up]) dX2_begin_7 (fun H locs hP hS => ?_)
  refine lv_iconst (v := nI 0) hx hb dX2_begin_10 (by decide) ?_
  refine lv_istore_n (lv' := [(3, .int (nI 0)), (0, .ref (ad k)), (1, .int (nI w)), (2, .int (nI m))]) hx hb dX2_begin_11 rfl hl (by decide) rfl (fun ls hl => ?_)
  have LP_12 : ∀ (n_12 : Nat) (j : Nat) (τ : Sg), (j ≤ 60) → (∀ i, i ≠ k → i ≠ k + 4 → τ i = σ i) → (τ k 1 = nI w) → (τ k 2 = nI m) → (∀ i, i < j → τ (k + 4) i = nI 0) → (60 - j) < n_12 → ∀ (H : Heap) (locs : List Loc) (ls : Array Slot), va_P D vwCl (wl ad 34 (en1 ad ca τ)) H → va_S (AA ad 34) sS.heap H locs → lv_has ls 4 [(0, .ref (ad k)), (3, .int (nI j))] → Wwv1 pP l eE { frames := 0, cells := 0, slots := 0, locals := 0 } sS mM [.ref (ad k), .int (nI w), .int (nI m)] below meth cC D ca ad (fun σ' => (∀ i, i ≠ k → i ≠ k + 4 → σ' i = σ i) ∧ SheetAt σ' k w m (fun _ => nI 0)) H locs (F0 mM 12 ls []) := by
    intro n_12
    induction n_12 with
    | zero =>
      intro j τ hj hfr h1 h2 h0 hn_12
      exact absurd hn_12 (Nat.not_lt_zero _)
    | succ n_12 ih_12 =>
      intro j τ hj hfr h1 h2 h0 hn_12 H locs ls hP hS hl
      refine lv_iload_n hx hb dX2_begin_12 rfl (lv_at hl 1 rfl) ?_
      refine lv_aload_n hx hb dX2_begin_13 rfl (lv_at hl 0 rfl) ?_
      refine xk_get hx hb hts (inX2_begin_X2) hown hK hP k (by omega) (ci := 2) (e1_sheet (by omega) (by omega)) rfl 0 (by decide) (flX2_begin_9 hts) rfl (.ref (ad (k + 4))) rfl dX2_begin_14 ?_
      refine xk_alen hx hb hK hP (k + 4) (by omega) (e1_cells (by omega) (by omega)) 0 rfl 60 rfl dX2_begin_17 ?_
      refine xn_ige (tgt := 34) hx hb dX2_begin_18 (by decide) (by omega) (by omega) (fun c_18 => ?_) (fun c_18 => ?_)
      · exact xk_vret hx hb hr X1_ok hK hX hP hS hlk dX2_begin_34 (⟨hfr, by rw [h1, lz_lt hw], by omega, fun _ => ⟨h2, hm, fun i hi => h0 i (by omega)⟩⟩)
      · refine lv_aload_n hx hb dX2_begin_21 rfl (lv_at hl 0 rfl) ?_
        refine xk_get hx hb hts (inX2_begin_X2) hown hK hP k (by omega) (ci := 2) (e1_sheet (by omega) (by omega)) rfl 0 (by decide) (flX2_begin_9 hts) rfl (.ref (ad (k + 4))) rfl dX2_begin_22 ?_
        refine lv_iload_n hx hb dX2_begin_25 rfl (lv_at hl 1 rfl) ?_
        refine lv_iconst (v := nI 0) hx hb dX2_begin_26 (by decide) ?_
        refine xk_iast hx hb hK hI hP hS (k + 4) (by omega) (n := 60) (fun τ => (e1_cells (by omega) (by omega))) rfl j (by omega) (by decide) e1_loc dX2_begin_27 (fun H locs hP hS => ?_)
        refine lv_iinc (v := nI (j + 1)) (lv' := [(3, .int (nI (j + 1))), (0, .ref (ad k))]) hx hb dX2_begin_28 hl (k := 1) rfl (xn_inc _ 1) (by decide) rfl (fun ls hl => ?_)
        refine lv_goto (tgt := 12) hx hb dX2_begin_31 (by decide) ?_
        exact ih_12 (j + 1) (up τ (k + 4) j (nI 0)) (by omega) (fun i h1 h2 => by rw [up_r h2]; exact hfr i h1 h2) (by rw [up_r (by omega)]; exact h1) (by rw [up_r (by omega)]; exact h2) (fun i hi => by
          by_cases hij : i = j
          · rw [hij, up_s]
          · rw [up_n (by omega)]; exact h0 i (by omega)) (by omega) _ _ _ hP hS (lv_sub hl [1, 0] rfl)
  exact LP_12 _ 0 (up (up σ k 1 (nI w)) k 2 (nI m)) (by omega) (fun i h1 _ => by rw [up_r h1, up_r h1]) (by rw [up_n (by omega), up_s]) up_s (fun i hi => absurd hi (Nat.not_lt_zero _)) (Nat.lt_succ_self _) _ _ _ hP hS (lv_sub hl [1, 0] rfl)

set_option maxHeartbeats 4000000 in
set_option maxRecDepth 100000 in
theorem k1_holds_t (l : Launch) {D : va_G} {ca : Nat → ClassId} {ad : Nat → Nat} (hI : Ij ad 34) {σ : Sg} {k L n : Nat} {cc : Nat → Int32} {a b : Nat} (hk1 : 1 ≤ k) (hk2 : k < 5) (hZ : SheetAt σ k L n cc) (hL : L < 3) (hab : a + b ≤ n) (hh : ∀ j, j < b → nI 0 ≤ cc (a + j) ∧ cc (a + j) ≤ nI 23) : C1i l D ca ad yX2_holdsHours wsX2_holdsHours { frames := 2, cells := 0, slots := 0, locals := 42 } [.ref (ad k), .int (nI a), .int (nI b)] σ (xFn (nI 1) σ) := by
  refine xk_entry cX2_holdsHours 4 (some .boolean) (by decide) rfl (Nat.le_of_ble_eq_true rfl) ?_
  intro pP eE sS mM below meth cC hx hb hml hr hts hown hlk hP hK hX hS ls hl
  have hl : lv_has ls 4 [(0, .ref (ad k)), (1, .int (nI a)), (2, .int (nI b))] := hl
  have hlen := (hZ.2.2 hL).1
  have hn60 := (hZ.2.2 hL).2.1
  have hlan := hZ.1.trans (lz_lt hL)
  refine lv_iconst (v := nI 0) hx hb dX2_holdsHours_0 (by decide) ?_
  refine lv_istore_n (lv' := [(3, .int (nI 0)), (0, .ref (ad k)), (1, .int (nI a)), (2, .int (nI b))]) hx hb dX2_holdsHours_1 rfl hl (by decide) rfl (fun ls hl => ?_)
  have LP_2 : ∀ (n_2 : Nat) (j : Nat), (j ≤ b) → (b - j) < n_2 → ∀ (H : Heap) (locs : List Loc) (ls : Array Slot), va_P D vwCl (wl ad 34 (en1 ad ca σ)) H → va_S (AA ad 34) sS.heap H locs → lv_has ls 4 [(0, .ref (ad k)), (1, .int (nI a)), (2, .int (nI b)), (3, .int (nI j))] → Wwi1 pP l eE { frames := 2, cells := 0, slots := 0, locals := 42 } sS mM [.ref (ad k), .int (nI a), .int (nI b)] below meth cC D ca ad (xFn (nI 1) σ) H locs (F0 mM 2 ls []) := by
    intro n_2
    induction n_2 with
    | zero =>
      intro j hj hn_2
      exact absurd hn_2 (Nat.not_lt_zero _)
    | succ n_2 ih_2 =>
      intro j hj hn_2 H locs ls hP hS hl
      refine lv_iload_n hx hb dX2_holdsHours_2 rfl (lv_at hl 3 rfl) ?_
      refine lv_iload_n hx hb dX2_holdsHours_3 rfl (lv_at hl 2 rfl) ?_
      refine xn_ige (tgt := 31) hx hb dX2_holdsHours_4 (by decide) (by omega) (by omega) (fun c_4 => ?_) (fun c_4 => ?_)
      · refine lv_iconst (v := nI 1) hx hb dX2_holdsHours_31 (by decide) ?_
        exact xk_iret hx hb hr rfl X1_ok hK hX hP hS hlk dX2_holdsHours_32 (⟨rfl, rfl⟩)
      · refine lv_aload_n hx hb dX2_holdsHours_7 rfl (lv_at hl 0 rfl) ?_
        refine lv_iload_n hx hb dX2_holdsHours_8 rfl (lv_at hl 1 rfl) ?_
        refine lv_iload_n hx hb dX2_holdsHours_9 rfl (lv_at hl 3 rfl) ?_
        refine xn_iadd hx hb dX2_holdsHours_10 ?_
        refine xk_fi (va_runV (As := [.int (nI (a + j))]) (rest := []) ⟨hx, hb, hml, hown, hts⟩ (k1_numberAt l hI (j := a + j) (by omega) (by omega) hZ hL (by omega)) (cwV 1 hts gX2_holdsHours_X2_numberAt rfl rfl rfl (by decide +kernel) ⟨Nat.le_of_ble_eq_true rfl, Nat.le_of_ble_eq_true rfl⟩) (xk_preV X1_ok hK hX hP (xk_recv hK hP k (by omega) (ci := 2) (e1_sheet (by omega) (by omega)) rfl)) rfl rfl hl.1 rfl (lv_room (Nat.le_of_ble_eq_true rfl)) dX2_holdsHours_11 ⟨Nat.le_of_ble_eq_true rfl, Nat.le_of_ble_eq_true rfl⟩) hS (fun H locs hP hS => ?_)
        refine lv_iconst (v := nI 0) hx hb dX2_holdsHours_14 (by decide) ?_
        refine lv_bipush (v := nI 23) hx hb dX2_holdsHours_15 (by decide) ?_
        refine xk_fi (va_runSN (As := [.int (cc (a + j)), .int (nI 0), .int (nI 23)]) (rest := []) ⟨hx, hb, hml, hown, hts⟩ (k1_within_t l hI (cc (a + j)) (nI 0) (nI 23) (hh j c_4)) ⟨va_cnB 3 hts gX2_holdsHours_X6_within_n44 rfl rfl rfl hX.1 (hts (.initialized RX6) (by decide +kernel)) (by decide +kernel) ⟨Nat.le_of_ble_eq_true rfl, Nat.le_of_ble_eq_true rfl⟩, hts (.static yX6_within) (by decide +kernel), trivial⟩ (xk_preS X1_ok hK hX hP) rfl rfl hl.1 rfl (lv_room (Nat.le_of_ble_eq_true rfl)) dX2_holdsHours_17 ⟨Nat.le_of_ble_eq_true rfl, Nat.le_of_ble_eq_true rfl⟩) hS (fun H locs hP hS => ?_)
        refine xn_zne (tgt := 25) hx hb dX2_holdsHours_20 (by decide) (by omega) (fun c_20 => ?_) (fun c_20 => absurd c_20 (by omega))
        refine lv_iinc (v := nI (j + 1)) (lv' := [(3, .int (nI (j + 1))), (0, .ref (ad k)), (1, .int (nI a)), (2, .int (nI b))]) hx hb dX2_holdsHours_25 hl (k := 3) rfl (xn_inc _ 1) (by decide) rfl (fun ls hl => ?_)
        refine lv_goto (tgt := 2) hx hb dX2_holdsHours_28 (by decide) ?_
        exact ih_2 (j + 1) (by omega) (by omega) _ _ _ hP hS (lv_sub hl [1, 2, 3, 0] rfl)
  exact LP_2 _ 0 (by omega) (Nat.lt_succ_self _) _ _ _ hP hS (lv_sub hl [1, 2, 3, 0] rfl)

set_option maxHeartbeats 4000000 in
set_option maxRecDepth 100000 in
theorem k1_holds_f (l : Launch) {D : va_G} {ca : Nat → ClassId} {ad : Nat → Nat} (hI : Ij ad 34) {σ : Sg} {k L n : Nat} {cc : Nat → Int32} {a b : Nat} (hk1 : 1 ≤ k) (hk2 : k < 5) (hZ : SheetAt σ k L n cc) (hL : L < 3) (hab : a + b ≤ n) (hh : ¬ ∀ j, j < b → nI 0 ≤ cc (a + j) ∧ cc (a + j) ≤ nI 23) : C1i l D ca ad yX2_holdsHours wsX2_holdsHours { frames := 2, cells := 0, slots := 0, locals := 42 } [.ref (ad k), .int (nI a), .int (nI b)] σ (xFn (nI 0) σ) := by
  refine xk_entry cX2_holdsHours 4 (some .boolean) (by decide) rfl (Nat.le_of_ble_eq_true rfl) ?_
  intro pP eE sS mM below meth cC hx hb hml hr hts hown hlk hP hK hX hS ls hl
  have hl : lv_has ls 4 [(0, .ref (ad k)), (1, .int (nI a)), (2, .int (nI b))] := hl
  have hlen := (hZ.2.2 hL).1
  have hn60 := (hZ.2.2 hL).2.1
  have hlan := hZ.1.trans (lz_lt hL)
  refine lv_iconst (v := nI 0) hx hb dX2_holdsHours_0 (by decide) ?_
  refine lv_istore_n (lv' := [(3, .int (nI 0)), (0, .ref (ad k)), (1, .int (nI a)), (2, .int (nI b))]) hx hb dX2_holdsHours_1 rfl hl (by decide) rfl (fun ls hl => ?_)
  have LP_2 : ∀ (n_2 : Nat) (j : Nat), (j ≤ b) → (∀ i, i < j → nI 0 ≤ cc (a + i) ∧ cc (a + i) ≤ nI 23) → (b - j) < n_2 → ∀ (H : Heap) (locs : List Loc) (ls : Array Slot), va_P D vwCl (wl ad 34 (en1 ad ca σ)) H → va_S (AA ad 34) sS.heap H locs → lv_has ls 4 [(0, .ref (ad k)), (1, .int (nI a)), (2, .int (nI b)), (3, .int (nI j))] → Wwi1 pP l eE { frames := 2, cells := 0, slots := 0, locals := 42 } sS mM [.ref (ad k), .int (nI a), .int (nI b)] below meth cC D ca ad (xFn (nI 0) σ) H locs (F0 mM 2 ls []) := by
    intro n_2
    induction n_2 with
    | zero =>
      intro j hj hall hn_2
      exact absurd hn_2 (Nat.not_lt_zero _)
    | succ n_2 ih_2 =>
      intro j hj hall hn_2 H locs ls hP hS hl
      refine lv_iload_n hx hb dX2_holdsHours_2 rfl (lv_at hl 3 rfl) ?_
      refine lv_iload_n hx hb dX2_holdsHours_3 rfl (lv_at hl 2 rfl) ?_
      refine xn_ige (tgt := 31) hx hb dX2_holdsHours_4 (by decide) (by omega) (by omega) (fun c_4 => ?_) (fun c_4 => ?_)
      · exact absurd (fun i hi => hall i (by omega)) hh
      · refine lv_aload_n hx hb dX2_holdsHours_7 rfl (lv_at hl 0 rfl) ?_
        refine lv_iload_n hx hb dX2_holdsHours_8 rfl (lv_at hl 1 rfl) ?_
        refine lv_iload_n hx hb dX2_holdsHours_9 rfl (lv_at hl 3 rfl) ?_
        refine xn_iadd hx hb dX2_holdsHours_10 ?_
        refine xk_fi (va_runV (As := [.int (nI (a + j))]) (rest := []) ⟨hx, hb, hml, hown, hts⟩ (k1_numberAt l hI (j := a + j) (by omega) (by omega) hZ hL (by omega)) (cwV 1 hts gX2_holdsHours_X2_numberAt rfl rfl rfl (by decide +kernel) ⟨Nat.le_of_ble_eq_true rfl, Nat.le_of_ble_eq_true rfl⟩) (xk_preV X1_ok hK hX hP (xk_recv hK hP k (by omega) (ci := 2) (e1_sheet (by omega) (by omega)) rfl)) rfl rfl hl.1 rfl (lv_room (Nat.le_of_ble_eq_true rfl)) dX2_holdsHours_11 ⟨Nat.le_of_ble_eq_true rfl, Nat.le_of_ble_eq_true rfl⟩) hS (fun H locs hP hS => ?_)
        refine lv_iconst (v := nI 0) hx hb dX2_holdsHours_14 (by decide) ?_
        refine lv_bipush (v := nI 23) hx hb dX2_holdsHours_15 (by decide) ?_
        by_cases q_17 : nI 0 ≤ cc (a + j) ∧ cc (a + j) ≤ nI 23
        · refine xk_fi (va_runSN (As := [.int (cc (a + j)), .int (nI 0), .int (nI 23)]) (rest := []) ⟨hx, hb, hml, hown, hts⟩ (k1_within_t l hI (cc (a + j)) (nI 0) (nI 23) q_17) ⟨va_cnB 3 hts gX2_holdsHours_X6_within_n44 rfl rfl rfl hX.1 (hts (.initialized RX6) (by decide +kernel)) (by decide +kernel) ⟨Nat.le_of_ble_eq_true rfl, Nat.le_of_ble_eq_true rfl⟩, hts (.static yX6_within) (by decide +kernel), trivial⟩ (xk_preS X1_ok hK hX hP) rfl rfl hl.1 rfl (lv_room (Nat.le_of_ble_eq_true rfl)) dX2_holdsHours_17 ⟨Nat.le_of_ble_eq_true rfl, Nat.le_of_ble_eq_true rfl⟩) hS (fun H locs hP hS => ?_)
          refine xn_zne (tgt := 25) hx hb dX2_holdsHours_20 (by decide) (by omega) (fun c_20 => ?_) (fun c_20 => absurd c_20 (by omega))
          refine lv_iinc (v := nI (j + 1)) (lv' := [(3, .int (nI (j + 1))), (0, .ref (ad k)), (1, .int (nI a)), (2, .int (nI b))]) hx hb dX2_holdsHours_25 hl (k := 3) rfl (xn_inc _ 1) (by decide) rfl (fun ls hl => ?_)
          refine lv_goto (tgt := 2) hx hb dX2_holdsHours_28 (by decide) ?_
          exact ih_2 (j + 1) (by omega) (fun i hi => by
            by_cases hij : i = j
            · rw [hij]; exact q_17
            · exact hall i (by omega)) (by omega) _ _ _ hP hS (lv_sub hl [1, 2, 3, 0] rfl)
        · refine xk_fi (va_runSN (As := [.int (cc (a + j)), .int (nI 0), .int (nI 23)]) (rest := []) ⟨hx, hb, hml, hown, hts⟩ (k1_within_f l hI (cc (a + j)) (nI 0) (nI 23) q_17) ⟨va_cnB 3 hts gX2_holdsHours_X6_within_n44 rfl rfl rfl hX.1 (hts (.initialized RX6) (by decide +kernel)) (by decide +kernel) ⟨Nat.le_of_ble_eq_true rfl, Nat.le_of_ble_eq_true rfl⟩, hts (.static yX6_within) (by decide +kernel), trivial⟩ (xk_preS X1_ok hK hX hP) rfl rfl hl.1 rfl (lv_room (Nat.le_of_ble_eq_true rfl)) dX2_holdsHours_17 ⟨Nat.le_of_ble_eq_true rfl, Nat.le_of_ble_eq_true rfl⟩) hS (fun H locs hP hS => ?_)
          refine xn_zne (tgt := 25) hx hb dX2_holdsHours_20 (by decide) (by omega) (fun c_20 => absurd c_20 (by omega)) (fun c_20 => ?_)
          refine lv_iconst (v := nI 0) hx hb dX2_holdsHours_23 (by decide) ?_
          exact xk_iret hx hb hr rfl X1_ok hK hX hP hS hlk dX2_holdsHours_24 (⟨rfl, rfl⟩)
  exact LP_2 _ 0 (by omega) (fun i hi => absurd hi (Nat.not_lt_zero _)) (Nat.lt_succ_self _) _ _ _ hP hS (lv_sub hl [1, 2, 3, 0] rfl)

theorem cta_0 {p : Nat} {d : Nat → Nat} {e h y : Nat} (hp : 0 < p) (hc : ¬ cta p d e h y p 1 = 0) : 0 < cta p d e h y p 1 ∧ cta p d e h y p 1 ≤ p := by
  rcases cta_le p d e h y p 1 with q | ⟨q1, q2, -⟩
  · exact absurd q hc
  · exact ⟨by omega, by omega⟩

set_option maxRecDepth 20000 in
theorem flX5_begin_7 {s : State} {av : Array Value} (hts : ∀ w ∈ wsX5_begin, w.before av s = true) : (Cond.fieldLink RX5 7 "WellBack$Thing" "owner" "I").before av s = true := hts _ (by decide +kernel)
set_option maxRecDepth 20000 in
theorem flX5_begin_13 {s : State} {av : Array Value} (hts : ∀ w ∈ wsX5_begin, w.before av s = true) : (Cond.fieldLink RX5 13 "WellBack$Walk" "holder" "I").before av s = true := hts _ (by decide +kernel)
set_option maxRecDepth 20000 in
theorem flX5_begin_18 {s : State} {av : Array Value} (hts : ∀ w ∈ wsX5_begin, w.before av s = true) : (Cond.fieldLink RX5 18 "WellBack$Thing" "hour" "I").before av s = true := hts _ (by decide +kernel)
set_option maxRecDepth 20000 in
theorem flX5_begin_21 {s : State} {av : Array Value} (hts : ∀ w ∈ wsX5_begin, w.before av s = true) : (Cond.fieldLink RX5 21 "WellBack$Walk" "hour" "I").before av s = true := hts _ (by decide +kernel)
set_option maxRecDepth 20000 in
theorem inX5_begin_X4 : ∀ w ∈ u_ws RX4 TX4 5, w ∈ wsX5_begin := by decide +kernel
set_option maxRecDepth 20000 in
theorem inX5_begin_X5 : ∀ w ∈ u_ws RX5 TX5 2, w ∈ wsX5_begin := by decide +kernel
set_option maxHeartbeats 4000000 in
set_option maxRecDepth 100000 in
theorem k1_beginW (l : Launch) {D : va_G} {ca : Nat → ClassId} {ad : Nat → Nat} (hI : Ij ad 34) {σ : Sg} {t e h : Nat} (ht1 : 9 ≤ t) (ht2 : t < 14) (hTo : σ t 2 = nI e) (hTh : σ t 4 = nI h) : C1v l D ca ad yX5_begin wsX5_begin { frames := 0, cells := 0, slots := 0, locals := 0 } [.ref (ad 30), .ref (ad t)] σ (xFv (up (up σ 30 0 (nI e)) 30 1 (nI h))) := by
  refine xk_entry cX5_begin 2 none (by decide) rfl (Nat.le_of_ble_eq_true rfl) ?_
  intro pP eE sS mM below meth cC hx hb hml hr hts hown hlk hP hK hX hS ls hl
  have hl : lv_has ls 2 [(0, .ref (ad 30)), (1, .ref (ad t))] := hl
  refine lv_aload_n hx hb dX5_begin_0 rfl (lv_at hl 0 rfl) ?_
  refine lv_aload_n hx hb dX5_begin_1 rfl (lv_at hl 1 rfl) ?_
  refine xk_get hx hb hts (inX5_begin_X4) hown hK hP t (by omega) (ci := 4) (e1_thing (by omega) (by omega)) rfl 2 (by decide) (flX5_begin_7 hts) rfl (.int (σ t 2)) rfl dX5_begin_2 ?_
  refine xn_eqi (y := nI e) hTo ?_
  refine xk_put hx hb hts (inX5_begin_X5) tyX5 tyX5_ok nmX5 hown hK hI hP hS 30 (by omega) (ci := 5) e1_walk rfl 0 (by decide) (flX5_begin_13 hts) rfl rfl (by decide +kernel) (Nat.le_of_ble_eq_true rfl) e1_loc (by rw [e1_walk]; simp [up]) dX5_begin_5 (fun H locs hP hS => ?_)
  refine lv_aload_n hx hb dX5_begin_8 rfl (lv_at hl 0 rfl) ?_
  refine lv_aload_n hx hb dX5_begin_9 rfl (lv_at hl 1 rfl) ?_
  refine xk_get hx hb hts (inX5_begin_X4) hown hK hP t (by omega) (ci := 4) (e1_thing (by omega) (by omega)) rfl 4 (by decide) (flX5_begin_18 hts) rfl (.int ((up σ 30 0 (nI e)) t 4)) rfl dX5_begin_10 ?_
  refine xn_eqi (y := nI h) ((up_n (by omega)).trans hTh) ?_
  refine xk_put hx hb hts (inX5_begin_X5) tyX5 tyX5_ok nmX5 hown hK hI hP hS 30 (by omega) (ci := 5) e1_walk rfl 1 (by decide) (flX5_begin_21 hts) rfl rfl (by decide +kernel) (Nat.le_of_ble_eq_true rfl) e1_loc (by rw [e1_walk]; simp [up]) dX5_begin_13 (fun H locs hP hS => ?_)
  exact xk_vret hx hb hr X1_ok hK hX hP hS hlk dX5_begin_16 rfl

set_option maxRecDepth 20000 in
theorem flX5_goOn_13 {s : State} {av : Array Value} (hts : ∀ w ∈ wsX5_goOn, w.before av s = true) : (Cond.fieldLink RX5 13 "WellBack$Walk" "holder" "I").before av s = true := hts _ (by decide +kernel)
set_option maxRecDepth 20000 in
theorem flX5_goOn_21 {s : State} {av : Array Value} (hts : ∀ w ∈ wsX5_goOn, w.before av s = true) : (Cond.fieldLink RX5 21 "WellBack$Walk" "hour" "I").before av s = true := hts _ (by decide +kernel)
set_option maxRecDepth 20000 in
theorem inX5_goOn_X5 : ∀ w ∈ u_ws RX5 TX5 2, w ∈ wsX5_goOn := by decide +kernel
set_option maxHeartbeats 4000000 in
set_option maxRecDepth 100000 in
theorem k1_goOn_no (l : Launch) {D : va_G} {ca : Nat → ClassId} {ad : Nat → Nat} (hI : Ij ad 34) {σ : Sg} {p : Nat} {d : Nat → Nat} {e h y : Nat} (hR : RotaAt σ 22 p d) (hp0 : 0 < p) (he : e < 5) (hby : h + 6 * y < 2 ^ 31) (hWe : σ 30 0 = nI e) (hWh : σ 30 1 = nI h) (hc : cta p d e h y p 1 = 0) : C1i l D ca ad yX5_goOn wsX5_goOn { frames := 2, cells := 0, slots := 0, locals := 45 } [.ref (ad 30), .ref (ad 22), .int (nI y)] σ (xFn (nI 0) σ) := by
  refine xk_entry cX5_goOn 4 (some .boolean) (by decide) rfl (Nat.le_of_ble_eq_true rfl) ?_
  intro pP eE sS mM below meth cC hx hb hml hr hts hown hlk hP hK hX hS ls hl
  have hl : lv_has ls 4 [(0, .ref (ad 30)), (1, .ref (ad 22)), (2, .int (nI y))] := hl
  have hp6 := hR.2.1
  refine lv_aload_n hx hb dX5_goOn_0 rfl (lv_at hl 1 rfl) ?_
  refine lv_aload_n hx hb dX5_goOn_1 rfl (lv_at hl 0 rfl) ?_
  refine xk_get hx hb hts (inX5_goOn_X5) hown hK hP 30 (by omega) (ci := 5) e1_walk rfl 0 (by decide) (flX5_goOn_13 hts) rfl (.int (σ 30 0)) rfl dX5_goOn_2 ?_
  refine xn_eqi (y := nI e) hWe ?_
  refine lv_aload_n hx hb dX5_goOn_5 rfl (lv_at hl 0 rfl) ?_
  refine xk_get hx hb hts (inX5_goOn_X5) hown hK hP 30 (by omega) (ci := 5) e1_walk rfl 1 (by decide) (flX5_goOn_21 hts) rfl (.int (σ 30 1)) rfl dX5_goOn_6 ?_
  refine xn_eqi (y := nI h) hWh ?_
  refine lv_iload_n hx hb dX5_goOn_9 rfl (lv_at hl 2 rfl) ?_
  refine xk_fi (va_runV (As := [.int (nI e), .int (nI h), .int (nI y)]) (rest := []) ⟨hx, hb, hml, hown, hts⟩ (k1_comings l hI (q := 22) (d := d) (e := e) (h := h) (y := y) (by omega) (by omega) hR (by omega) (by omega) (by omega)) (cwV 3 hts gX5_goOn_X1_comingsTillAnother rfl rfl rfl (by decide +kernel) ⟨Nat.le_of_ble_eq_true rfl, Nat.le_of_ble_eq_true rfl⟩) (xk_preV X1_ok hK hX hP (xk_recv hK hP 22 (by omega) (ci := 1) (e1_rota (by omega) (by omega)) rfl)) rfl rfl hl.1 rfl (lv_room (Nat.le_of_ble_eq_true rfl)) dX5_goOn_10 ⟨Nat.le_of_ble_eq_true rfl, Nat.le_of_ble_eq_true rfl⟩) hS (fun H locs hP hS => ?_)
  refine lv_istore_n (lv' := [(3, .int (nI (cta p d e h y p 1))), (0, .ref (ad 30)), (1, .ref (ad 22)), (2, .int (nI y))]) hx hb dX5_goOn_13 rfl hl (by decide) rfl (fun ls hl => ?_)
  refine lv_iload_n hx hb dX5_goOn_14 rfl (lv_at hl 0 rfl) ?_
  refine xn_zne (tgt := 20) hx hb dX5_goOn_15 (by decide) (by omega) (fun c_15 => absurd c_15 (by omega)) (fun c_15 => ?_)
  refine lv_iconst (v := nI 0) hx hb dX5_goOn_18 (by decide) ?_
  exact xk_iret hx hb hr rfl X1_ok hK hX hP hS hlk dX5_goOn_19 (⟨rfl, rfl⟩)

set_option maxHeartbeats 4000000 in
set_option maxRecDepth 100000 in
theorem k1_goOn_yes (l : Launch) {D : va_G} {ca : Nat → ClassId} {ad : Nat → Nat} (hI : Ij ad 34) {σ : Sg} {p : Nat} {d : Nat → Nat} {e h y : Nat} (hR : RotaAt σ 22 p d) (hp0 : 0 < p) (he : e < 5) (hby : h + 6 * y < 2 ^ 31) (hWe : σ 30 0 = nI e) (hWh : σ 30 1 = nI h) (hc : ¬ cta p d e h y p 1 = 0) : C1i l D ca ad yX5_goOn wsX5_goOn { frames := 2, cells := 0, slots := 0, locals := 45 } [.ref (ad 30), .ref (ad 22), .int (nI y)] σ (xFn (nI 1) (up (up σ 30 1 (nI (h + cta p d e h y p 1 * y))) 30 0 (nI (d ((h + cta p d e h y p 1 * y) % p))))) := by
  refine xk_entry cX5_goOn 4 (some .boolean) (by decide) rfl (Nat.le_of_ble_eq_true rfl) ?_
  intro pP eE sS mM below meth cC hx hb hml hr hts hown hlk hP hK hX hS ls hl
  have hl : lv_has ls 4 [(0, .ref (ad 30)), (1, .ref (ad 22)), (2, .int (nI y))] := hl
  have hp6 := hR.2.1
  have hcp := cta_0 hp0 hc
  have hcy : cta p d e h y p 1 * y ≤ 6 * y := Nat.mul_le_mul_right y (by omega)
  refine lv_aload_n hx hb dX5_goOn_0 rfl (lv_at hl 1 rfl) ?_
  refine lv_aload_n hx hb dX5_goOn_1 rfl (lv_at hl 0 rfl) ?_
  refine xk_get hx hb hts (inX5_goOn_X5) hown hK hP 30 (by omega) (ci := 5) e1_walk rfl 0 (by decide) (flX5_goOn_13 hts) rfl (.int (σ 30 0)) rfl dX5_goOn_2 ?_
  refine xn_eqi (y := nI e) hWe ?_
  refine lv_aload_n hx hb dX5_goOn_5 rfl (lv_at hl 0 rfl) ?_
  refine xk_get hx hb hts (inX5_goOn_X5) hown hK hP 30 (by omega) (ci := 5) e1_walk rfl 1 (by decide) (flX5_goOn_21 hts) rfl (.int (σ 30 1)) rfl dX5_goOn_6 ?_
  refine xn_eqi (y := nI h) hWh ?_
  refine lv_iload_n hx hb dX5_goOn_9 rfl (lv_at hl 2 rfl) ?_
  refine xk_fi (va_runV (As := [.int (nI e), .int (nI h), .int (nI y)]) (rest := []) ⟨hx, hb, hml, hown, hts⟩ (k1_comings l hI (q := 22) (d := d) (e := e) (h := h) (y := y) (by omega) (by omega) hR (by omega) (by omega) (by omega)) (cwV 3 hts gX5_goOn_X1_comingsTillAnother rfl rfl rfl (by decide +kernel) ⟨Nat.le_of_ble_eq_true rfl, Nat.le_of_ble_eq_true rfl⟩) (xk_preV X1_ok hK hX hP (xk_recv hK hP 22 (by omega) (ci := 1) (e1_rota (by omega) (by omega)) rfl)) rfl rfl hl.1 rfl (lv_room (Nat.le_of_ble_eq_true rfl)) dX5_goOn_10 ⟨Nat.le_of_ble_eq_true rfl, Nat.le_of_ble_eq_true rfl⟩) hS (fun H locs hP hS => ?_)
  refine lv_istore_n (lv' := [(3, .int (nI (cta p d e h y p 1))), (0, .ref (ad 30)), (1, .ref (ad 22)), (2, .int (nI y))]) hx hb dX5_goOn_13 rfl hl (by decide) rfl (fun ls hl => ?_)
  refine lv_iload_n hx hb dX5_goOn_14 rfl (lv_at hl 0 rfl) ?_
  refine xn_zne (tgt := 20) hx hb dX5_goOn_15 (by decide) (by omega) (fun c_15 => ?_) (fun c_15 => absurd c_15 (by omega))
  refine lv_aload_n hx hb dX5_goOn_20 rfl (lv_at hl 1 rfl) ?_
  refine lv_dup hx hb dX5_goOn_21 rfl ?_
  refine xk_get hx hb hts (inX5_goOn_X5) hown hK hP 30 (by omega) (ci := 5) e1_walk rfl 1 (by decide) (flX5_goOn_21 hts) rfl (.int (σ 30 1)) rfl dX5_goOn_22 ?_
  refine xn_eqi (y := nI h) hWh ?_
  refine lv_iload_n hx hb dX5_goOn_25 rfl (lv_at hl 0 rfl) ?_
  refine lv_iload_n hx hb dX5_goOn_26 rfl (lv_at hl 3 rfl) ?_
  refine xn_imul hx hb dX5_goOn_27 ?_
  refine xn_iadd hx hb dX5_goOn_28 ?_
  refine xk_put hx hb hts (inX5_goOn_X5) tyX5 tyX5_ok nmX5 hown hK hI hP hS 30 (by omega) (ci := 5) e1_walk rfl 1 (by decide) (flX5_goOn_21 hts) rfl rfl (by decide +kernel) (Nat.le_of_ble_eq_true rfl) e1_loc (by rw [e1_walk]; simp [up]) dX5_goOn_29 (fun H locs hP hS => ?_)
  refine lv_aload_n hx hb dX5_goOn_32 rfl (lv_at hl 1 rfl) ?_
  refine lv_aload_n hx hb dX5_goOn_33 rfl (lv_at hl 2 rfl) ?_
  refine lv_aload_n hx hb dX5_goOn_34 rfl (lv_at hl 1 rfl) ?_
  refine xk_get hx hb hts (inX5_goOn_X5) hown hK hP 30 (by omega) (ci := 5) e1_walk rfl 1 (by decide) (flX5_goOn_21 hts) rfl (.int ((up σ 30 1 (nI (h + ((cta p d e h y p 1) * y)))) 30 1)) rfl dX5_goOn_35 ?_
  refine xn_eqi (y := nI (h + ((cta p d e h y p 1) * y))) up_s ?_
  have hR2 := RotaAt_fr (τ := up σ 30 1 (nI (h + cta p d e h y p 1 * y))) hR (up_r (by omega)) (up_r (by omega))
  refine xk_fi (va_runV (As := [.int (nI (h + ((cta p d e h y p 1) * y)))]) (rest := [.ref (ad 30)]) ⟨hx, hb, hml, hown, hts⟩ (k1_drawerIn l hI (q := 22) (d := d) (h := h + cta p d e h y p 1 * y) (by omega) (by omega) hR2 (by omega) (by omega)) (cwV 1 hts gX5_goOn_X1_drawerIn rfl rfl rfl (by decide +kernel) ⟨Nat.le_of_ble_eq_true rfl, Nat.le_of_ble_eq_true rfl⟩) (xk_preV X1_ok hK hX hP (xk_recv hK hP 22 (by omega) (ci := 1) (e1_rota (by omega) (by omega)) rfl)) rfl rfl hl.1 rfl (lv_room (Nat.le_of_ble_eq_true rfl)) dX5_goOn_38 ⟨Nat.le_of_ble_eq_true rfl, Nat.le_of_ble_eq_true rfl⟩) hS (fun H locs hP hS => ?_)
  refine xk_put hx hb hts (inX5_goOn_X5) tyX5 tyX5_ok nmX5 hown hK hI hP hS 30 (by omega) (ci := 5) e1_walk rfl 0 (by decide) (flX5_goOn_13 hts) rfl rfl (by decide +kernel) (Nat.le_of_ble_eq_true rfl) e1_loc (by rw [e1_walk]; simp [up]) dX5_goOn_41 (fun H locs hP hS => ?_)
  refine lv_iconst (v := nI 1) hx hb dX5_goOn_44 (by decide) ?_
  exact xk_iret hx hb hr rfl X1_ok hK hX hP hS hlk dX5_goOn_45 (⟨rfl, rfl⟩)
