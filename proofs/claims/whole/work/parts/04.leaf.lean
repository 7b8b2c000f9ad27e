set_option maxHeartbeats 4000000 in
set_option maxRecDepth 100000 in
theorem k1_within (l : Launch) {D : va_G} {ca : Nat → ClassId} {ad : Nat → Nat} (hI : Ij ad 34) {σ : Sg} (v a b : Int32)  : C1i l D ca ad yX6_within wsX6_within { frames := 0, cells := 0, slots := 0, locals := 0 } [.int v, .int a, .int b] σ (Fn (bz (a ≤ v ∧ v ≤ b)) σ) := by
  refine xk_entry cX6_within 3 (some .boolean) (by decide) rfl (Nat.le_of_ble_eq_true rfl) ?_
  intro p e s m below meth c hx hb hml hr hts hown hlk hP hK hX hS ls hl
  have hl : lv_has ls 3 [(0, .int v), (1, .int a), (2, .int b)] := hl
  refine lv_iload_n hx hb dX6_within_0 rfl (lv_at hl 0 rfl) ?_
  refine lv_iload_n hx hb dX6_within_1 rfl (lv_at hl 1 rfl) ?_
  refine lv_icmp_lt (tgt := 14) hx hb dX6_within_2 (by decide) (fun c_2 => ?_) (fun c_2 => ?_)
  · refine lv_iconst (v := nI 0) hx hb dX6_within_14 (by decide) ?_
    exact xk_iret hx hb hr rfl X1_ok hK hX hP hS hlk dX6_within_15 (⟨(bz_f fun q => Int32.not_lt.mpr q.1 c_2).symm, rfl⟩)
  · refine lv_iload_n hx hb dX6_within_5 rfl (lv_at hl 0 rfl) ?_
    refine lv_iload_n hx hb dX6_within_6 rfl (lv_at hl 2 rfl) ?_
    refine lv_icmp_gt (tgt := 14) hx hb dX6_within_7 (by decide) (fun c_7 => ?_) (fun c_7 => ?_)
    · refine lv_iconst (v := nI 0) hx hb dX6_within_14 (by decide) ?_
      exact xk_iret hx hb hr rfl X1_ok hK hX hP hS hlk dX6_within_15 (⟨(bz_f fun q => Int32.not_lt.mpr q.2 c_7).symm, rfl⟩)
    · refine lv_iconst (v := nI 1) hx hb dX6_within_10 (by decide) ?_
      refine lv_goto (tgt := 15) hx hb dX6_within_11 (by decide) ?_
      exact xk_iret hx hb hr rfl X1_ok hK hX hP hS hlk dX6_within_15 (⟨(bz_t ⟨Int32.not_lt.mp c_2, Int32.not_lt.mp c_7⟩).symm, rfl⟩)

set_option maxHeartbeats 4000000 in
set_option maxRecDepth 100000 in
theorem k2_within (l : Launch) {D : va_G} {ca : Nat → ClassId} {ad : Nat → Nat} (hI : Ij ad 18) {σ : Sg} (v a b : Int32)  : C2i l D ca ad yX7_within wsX7_within { frames := 0, cells := 0, slots := 0, locals := 0 } [.int v, .int a, .int b] σ (Fn (bz (a ≤ v ∧ v ≤ b)) σ) := by
  refine xk_entry cX7_within 3 (some .boolean) (by decide) rfl (Nat.le_of_ble_eq_true rfl) ?_
  intro p e s m below meth c hx hb hml hr hts hown hlk hP hK hX hS ls hl
  have hl : lv_has ls 3 [(0, .int v), (1, .int a), (2, .int b)] := hl
  refine lv_iload_n hx hb dX7_within_0 rfl (lv_at hl 0 rfl) ?_
  refine lv_iload_n hx hb dX7_within_1 rfl (lv_at hl 1 rfl) ?_
  refine lv_icmp_lt (tgt := 14) hx hb dX7_within_2 (by decide) (fun c_2 => ?_) (fun c_2 => ?_)
  · refine lv_iconst (v := nI 0) hx hb dX7_within_14 (by decide) ?_
    exact xk_iret hx hb hr rfl X2_ok hK hX hP hS hlk dX7_within_15 (⟨(bz_f fun q => Int32.not_lt.mpr q.1 c_2).symm, rfl⟩)
  · refine lv_iload_n hx hb dX7_within_5 rfl (lv_at hl 0 rfl) ?_
    refine lv_iload_n hx hb dX7_within_6 rfl (lv_at hl 2 rfl) ?_
    refine lv_icmp_gt (tgt := 14) hx hb dX7_within_7 (by decide) (fun c_7 => ?_) (fun c_7 => ?_)
    · refine lv_iconst (v := nI 0) hx hb dX7_within_14 (by decide) ?_
      exact xk_iret hx hb hr rfl X2_ok hK hX hP hS hlk dX7_within_15 (⟨(bz_f fun q => Int32.not_lt.mpr q.2 c_7).symm, rfl⟩)
    · refine lv_iconst (v := nI 1) hx hb dX7_within_10 (by decide) ?_
      refine lv_goto (tgt := 15) hx hb dX7_within_11 (by decide) ?_
      exact xk_iret hx hb hr rfl X2_ok hK hX hP hS hlk dX7_within_15 (⟨(bz_t ⟨Int32.not_lt.mp c_2, Int32.not_lt.mp c_7⟩).symm, rfl⟩)
