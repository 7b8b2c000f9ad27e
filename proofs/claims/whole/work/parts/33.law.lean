-- ===== end of PART A; then your names; then what follows =====
/-! THE CLAIM OUT OF ONE WALK OF THE LAW'S BODY. Your part is whole_start (and what it stands on); all else here is the same for every law, but numbers. -/
def R_law : String := "WellBackLaw"
def lw_P (b : Addr) (xs : List Int32) (args : Array Value) (s : State) : Prop := args = #[.ref b] ∧ s.IntsAt b xs ∧ xs.length ≤ 3072 ∧ (Jvm.Cond.and given_1 narrow_1).before args s = true
def lw_Q (_ : Array Value) (s : State) (o : Outcome) (t : State) : Prop := o = .returned (some (.int 1)) ∧ Framed s o t [] 600000 7302250
def lw_Z (below : List Frame) (a : Array Value) (s : State) : State → Prop := fun t => ∃ o, t.status = .running ∧ Ended t below o ∧ lw_Q a s o t
/-- the law's own end, with 1 on the stack, nothing written that was there before, its room as the claim has it -/
theorem lw_ret {p : Program} {l : Launch} {e : Env} {s : State} {m : MethodId} {below : List Frame} {meth : Method} {c : Code} {b : Nat} (hx : p.tables.exec = Jvm.exec) (hb : c.code = code) (hr : meth.sig.returnType = ret) (hlocks : meth.locks = false) {pc : Nat} {H : Heap} {ls : Array Slot} (hdg : decode code pc = .ok (.ireturn, 1)) : W p l e room_1 s m #[Value.ref b] below meth c H [] 600000 7302250 (lw_Z below #[Value.ref b] s) (F0 m pc ls [.int 1]) := by
  intro T hT X
  obtain ⟨fs, hret, hrun, hended, hW, hframe⟩ := X.leave (v := some (.int 1)) (hlocks := hlocks) (fun h => by rw [hr] at h; cases h)
  have hmeth' : T.vm.method? m = some meth := X.method'
  refine ⟨T.setFrames fs, ?_, .returned (some (.int 1)), hrun, hended, rfl, ⟨_, rfl⟩, hW, hframe⟩
  jvm_step X.here [X.here.top, hx, hb, hdg, hmeth', hr, ret, narrow_b1]
  (try refine ⟨rfl, ?_⟩); (try refine ⟨rfl, ?_⟩)
  first | (intro acts; rw [hret _ acts rfl rfl rfl]) | rw [hret _ _ rfl rfl rfl]
  exact Steps.refl _
/-- what holds at the law's entry: the machine, the code, the tables' words (any of lw_tbl by 'hts w (by decide +kernel)'), the script of L ints xs at the cell b, what the Statement gives of the start (any of its parts by flat_of_before) -/
def lw_At (p : Program) (s : State) (m : MethodId) (meth : Method) (c : Code) (b L : Nat) (xs : Nat → Int32) : Prop :=
  p.tables.exec = Jvm.exec ∧ c.code = code ∧ meth.sig.returnType = ret ∧ c.maxLocals = 4 ∧ s.vm.findClass R_law = some m.cls ∧ (∀ w ∈ lw_tbl, w.before #[Value.ref b] s = true) ∧ va_X b L xs s s.heap ∧ b < s.heap.size ∧ meth.locks = false ∧ (Jvm.Cond.and given_1 narrow_1).before #[Value.ref b] s = true

theorem va_Pa {D : va_G} {cl : List vw_C} {a b : va_W} {H : Heap} (h : va_P D cl (a ++ b) H) : va_P D cl a H ∧ va_P D cl b H := by
  refine ⟨fun k q hk => h k q ?_, fun k q hk => h (a.length + k) q ?_⟩
  · rw [List.getElem?_append_left (List.getElem?_eq_some_iff.mp hk).1]
    exact hk
  · rw [List.getElem?_append_right (by omega), Nat.add_sub_cancel_left]
    exact hk
theorem va_Da {A : Nat → Prop} {a b : va_W} (h : va_D A (a ++ b)) : va_D A a ∧ va_D A b ∧ ∀ (i j : Nat) (p q : Nat × va_E), a[i]? = some p → b[j]? = some q → p.1 ≠ q.1 := by
  have la : ∀ {k : Nat} {q : Nat × va_E}, a[k]? = some q → (a ++ b)[k]? = some q := fun hk => by
    rw [List.getElem?_append_left (List.getElem?_eq_some_iff.mp hk).1]
    exact hk
  have lb : ∀ {k : Nat} {q : Nat × va_E}, b[k]? = some q → (a ++ b)[a.length + k]? = some q := fun hk => by
    rw [List.getElem?_append_right (by omega), Nat.add_sub_cancel_left]
    exact hk
  refine ⟨⟨fun i j p q hi hj e => h.1 i j p q (la hi) (la hj) e, fun k q hk => h.2 k q (la hk)⟩, ⟨fun i j p q hi hj e => ?_, fun k q hk => h.2 _ q (lb hk)⟩, fun i j p q hi hj e => ?_⟩
  · have := h.1 _ _ p q (lb hi) (lb hj) e
    omega
  · have h1 := h.1 _ _ p q (la hi) (lb hj) e
    have h2 := (List.getElem?_eq_some_iff.mp hi).1
    omega
theorem at_lt {D : va_G} {cl : List vw_C} {q : Nat × va_E} {H : Heap} (h : va_at D cl q H) : q.1 < H.size := by
  obtain ⟨a, e⟩ := q
  cases e with
  | inl x =>
    have h1 : H[a]? = some (vp_cell x.1 x.2) := h
    exact (Array.getElem?_eq_some_iff.mp h1).1
  | inr x =>
    obtain ⟨r, h1, cell, q1, q2⟩ := h
    exact (Array.getElem?_eq_some_iff.mp q1).1
def LW (D : va_G) (ca ca' : Nat → ClassId) (ad ad' : Nat → Nat) (σ1 σ2 : Sg) (s : State) (H : Heap) (locs : List Loc) : Prop := va_P D vwCl (wl ad 34 (en1 ad ca σ1)) H ∧ va_P D vwCl (wl ad' 18 (en2 ad' ca' σ2)) H ∧ (∀ k, k < 34 → ad k < H.size) ∧ (∀ k, k < 18 → ad' k < H.size) ∧ va_S (fun q : Nat => s.heap.size ≤ q) s.heap H locs
def LK (D : va_G) (ca ca' : Nat → ClassId) (ad ad' : Nat → Nat) (s : State) : Prop := va_K D vwCl (tys1 ca) s ∧ va_K D vwCl (tys2 ca') s ∧ X1 s ∧ Ij ad 34 ∧ Ij ad' 18 ∧ (∀ k, k < 34 → s.heap.size ≤ ad k) ∧ (∀ k, k < 18 → s.heap.size ≤ ad' k) ∧ ∀ i, i < 34 → ∀ j, j < 18 → ad i ≠ ad' j
section LC
variable {p : Program} {l : Launch} {e : Env} {R : Room} {s : State} {m : MethodId} {args : Array Value} {below : List Frame} {meth : Method} {c : Code} {H : Heap} {locs : List Loc} {cells slots : Nat} {Q : State → Prop}
variable {pc : Nat} {ls : Array Slot} {rest st0 : List Value} {D : va_G} {ca ca' : Nat → ClassId} {ad ad' : Nat → Nat} {σ1 σ2 : Sg} {a : Array Value}

theorem lc_1i {post : Int32 → Sg → Prop} (hr : va_Run p l e R s m args below meth c H locs cells slots 0 0 (F0 m pc ls st0) rest (va_Qi post (B1 D ca ad) (AA ad 34) a) (AA ad 34)) (hK : LK D ca ca' ad ad' s) (hW : LW D ca ca' ad ad' σ1 σ2 s H locs) (kk : ∀ (r : Int32) (u : Sg) (H1 : Heap) (locs1 : List Loc), post r u → LW D ca ca' ad ad' u σ2 s H1 locs1 → W p l e R s m args below meth c H1 locs1 cells slots Q (F0 m (pc + 3) ls (.int r :: rest))) : W p l e R s m args below meth c H locs cells slots Q (F0 m pc ls st0) := by
  obtain ⟨hK1, hK2, hX, hi1, hi2, hb1, hb2, hdj⟩ := hK
  obtain ⟨hP1, hP2, hz1, hz2, hS⟩ := hW
  exact va_calli hr hS (fun q _ h => by obtain ⟨k, hk, rfl⟩ := h; exact hb1 k hk) (fun q h => by obtain ⟨k, hk, rfl⟩ := h; exact hb1 k hk) (fun r u t H1 locs1 ht _ hp hB hz hk hS1 => kk r u H1 locs1 hp ⟨by rw [← ht]; exact hB.1, va_P.kept hP2 (fun k q hq => by obtain ⟨hk9, rfl⟩ := wl_of hq; exact hk _ (hz2 k hk9) (fun ⟨i, hi, he⟩ => hdj i hi k hk9 he.symm)), fun k hk => by have := hz1 k hk; omega, fun k hk => by have := hz2 k hk; omega, hS1⟩)

theorem lc_1l {post : Int64 → Sg → Prop} (hr : va_Run p l e R s m args below meth c H locs cells slots 0 0 (F0 m pc ls st0) rest (va_Ql post (B1 D ca ad) (AA ad 34) a) (AA ad 34)) (hK : LK D ca ca' ad ad' s) (hW : LW D ca ca' ad ad' σ1 σ2 s H locs) (kk : ∀ (r : Int64) (u : Sg) (H1 : Heap) (locs1 : List Loc), post r u → LW D ca ca' ad ad' u σ2 s H1 locs1 → W p l e R s m args below meth c H1 locs1 cells slots Q (F0 m (pc + 3) ls (.long r :: rest))) : W p l e R s m args below meth c H locs cells slots Q (F0 m pc ls st0) := by
  obtain ⟨hK1, hK2, hX, hi1, hi2, hb1, hb2, hdj⟩ := hK
  obtain ⟨hP1, hP2, hz1, hz2, hS⟩ := hW
  exact va_calll hr hS (fun q _ h => by obtain ⟨k, hk, rfl⟩ := h; exact hb1 k hk) (fun q h => by obtain ⟨k, hk, rfl⟩ := h; exact hb1 k hk) (fun r u t H1 locs1 ht _ hp hB hz hk hS1 => kk r u H1 locs1 hp ⟨by rw [← ht]; exact hB.1, va_P.kept hP2 (fun k q hq => by obtain ⟨hk9, rfl⟩ := wl_of hq; exact hk _ (hz2 k hk9) (fun ⟨i, hi, he⟩ => hdj i hi k hk9 he.symm)), fun k hk => by have := hz1 k hk; omega, fun k hk => by have := hz2 k hk; omega, hS1⟩)

theorem lc_2i {post : Int32 → Sg → Prop} (hr : va_Run p l e R s m args below meth c H locs cells slots 0 0 (F0 m pc ls st0) rest (va_Qi post (B2 D ca' ad') (AA ad' 18) a) (AA ad' 18)) (hK : LK D ca ca' ad ad' s) (hW : LW D ca ca' ad ad' σ1 σ2 s H locs) (kk : ∀ (r : Int32) (u : Sg) (H1 : Heap) (locs1 : List Loc), post r u → LW D ca ca' ad ad' σ1 u s H1 locs1 → W p l e R s m args below meth c H1 locs1 cells slots Q (F0 m (pc + 3) ls (.int r :: rest))) : W p l e R s m args below meth c H locs cells slots Q (F0 m pc ls st0) := by
  obtain ⟨hK1, hK2, hX, hi1, hi2, hb1, hb2, hdj⟩ := hK
  obtain ⟨hP1, hP2, hz1, hz2, hS⟩ := hW
  exact va_calli hr hS (fun q _ h => by obtain ⟨k, hk, rfl⟩ := h; exact hb2 k hk) (fun q h => by obtain ⟨k, hk, rfl⟩ := h; exact hb2 k hk) (fun r u t H1 locs1 ht _ hp hB hz hk hS1 => kk r u H1 locs1 hp ⟨va_P.kept hP1 (fun k q hq => by obtain ⟨hk9, rfl⟩ := wl_of hq; exact hk _ (hz1 k hk9) (fun ⟨i, hi, he⟩ => hdj k hk9 i hi he)), by rw [← ht]; exact hB.1, fun k hk => by have := hz1 k hk; omega, fun k hk => by have := hz2 k hk; omega, hS1⟩)

theorem lc_2l {post : Int64 → Sg → Prop} (hr : va_Run p l e R s m args below meth c H locs cells slots 0 0 (F0 m pc ls st0) rest (va_Ql post (B2 D ca' ad') (AA ad' 18) a) (AA ad' 18)) (hK : LK D ca ca' ad ad' s) (hW : LW D ca ca' ad ad' σ1 σ2 s H locs) (kk : ∀ (r : Int64) (u : Sg) (H1 : Heap) (locs1 : List Loc), post r u → LW D ca ca' ad ad' σ1 u s H1 locs1 → W p l e R s m args below meth c H1 locs1 cells slots Q (F0 m (pc + 3) ls (.long r :: rest))) : W p l e R s m args below meth c H locs cells slots Q (F0 m pc ls st0) := by
  obtain ⟨hK1, hK2, hX, hi1, hi2, hb1, hb2, hdj⟩ := hK
  obtain ⟨hP1, hP2, hz1, hz2, hS⟩ := hW
  exact va_calll hr hS (fun q _ h => by obtain ⟨k, hk, rfl⟩ := h; exact hb2 k hk) (fun q h => by obtain ⟨k, hk, rfl⟩ := h; exact hb2 k hk) (fun r u t H1 locs1 ht _ hp hB hz hk hS1 => kk r u H1 locs1 hp ⟨va_P.kept hP1 (fun k q hq => by obtain ⟨hk9, rfl⟩ := wl_of hq; exact hk _ (hz1 k hk9) (fun ⟨i, hi, he⟩ => hdj k hk9 i hi he)), by rw [← ht]; exact hB.1, fun k hk => by have := hz1 k hk; omega, fun k hk => by have := hz2 k hk; omega, hS1⟩)

end LC

set_option maxHeartbeats 4000000 in
set_option maxRecDepth 100000 in
theorem cs_0 {p : Program} {e : Env} {s : State} {m : MethodId} {below : List Frame} {meth : Method} {c : Code} (l : Launch) {b L : Nat} {xs : Nat → Int32} (hL : L ≤ 3072) (C0 : lw_At p s m meth c b L xs) {D : va_G} {ca ca' : Nat → ClassId} {ad ad' : Nat → Nat} (hLK : LK D ca ca' ad ad' s) {i : Nat} (hi : i + 6 ≤ L) {σ1 σ2 : Sg} {H : Heap} {locs : List Loc} {ls : Array Slot} (hLW : LW D ca ca' ad ad' σ1 σ2 s H locs) (hR : R2 σ1 σ2) (hl : lv_has ls 4 [(0, .ref b), (1, .ref (ad 0)), (2, .ref (ad' 0)), (3, .int (nI i))]) (K : ∀ (σ1 σ2 : Sg) (H : Heap) (locs : List Loc) (ls : Array Slot), LW D ca ca' ad ad' σ1 σ2 s H locs → R2 σ1 σ2 → lv_has ls 4 [(0, .ref b), (1, .ref (ad 0)), (2, .ref (ad' 0)), (3, .int (nI i))] → W p l e room_1 s m #[Value.ref b] below meth c H locs 52 800 (lw_Z below #[Value.ref b] s) (F0 m 1120 ls [])) : W p l e room_1 s m #[Value.ref b] below meth c H locs 52 800 (lw_Z below #[Value.ref b] s) (F0 m 168 ls []) := by
  obtain ⟨hx, hb, hr, hml, hown, hts0, hX, hbl, hlocks, hgv⟩ := id C0
  have hts : ∀ w ∈ wsL_law, w.before #[Value.ref b] s = true := fun w h => hts0 w (wsL_law_in w h)
  have hown : s.vm.findClass RL = some m.cls := hown
  have hbA : ¬ (fun q : Nat => s.heap.size ≤ q) b := Nat.not_le.mpr hbl
  obtain ⟨hK1, hK2, hX1, hi1, hi2, hb1, hb2, hdj⟩ := id hLK
  refine lv_aload_n hx hb dL_law_168 rfl (lv_at hl 1 rfl) ?_
  refine lv_aload_n hx hb dL_law_169 rfl (lv_at hl 0 rfl) ?_
  refine lv_iload_n hx hb dL_law_170 rfl (lv_at hl 3 rfl) ?_
  refine lv_iconst (v := nI 1) hx hb dL_law_171 (by decide) ?_
  refine xn_iadd hx hb dL_law_172 ?_
  refine va_sld hx hb hX hbl hbA hLW.2.2.2.2 (vp_in_nI (by omega) (by omega)) dL_law_173 ?_
  refine xn_eqi (y := xs (i + 1)) (by rw [nI_clamp (by omega)]) ?_
  refine lv_aload_n hx hb dL_law_174 rfl (lv_at hl 0 rfl) ?_
  refine lv_iload_n hx hb dL_law_175 rfl (lv_at hl 3 rfl) ?_
  refine lv_iconst (v := nI 2) hx hb dL_law_176 (by decide) ?_
  refine xn_iadd hx hb dL_law_177 ?_
  refine va_sld hx hb hX hbl hbA hLW.2.2.2.2 (vp_in_nI (by omega) (by omega)) dL_law_178 ?_
  refine xn_eqi (y := xs (i + 2)) (by rw [nI_clamp (by omega)]) ?_
  refine lv_aload_n hx hb dL_law_179 rfl (lv_at hl 0 rfl) ?_
  refine lv_iload_n hx hb dL_law_180 rfl (lv_at hl 3 rfl) ?_
  refine lv_iconst (v := nI 3) hx hb dL_law_181 (by decide) ?_
  refine xn_iadd hx hb dL_law_182 ?_
  refine va_sld hx hb hX hbl hbA hLW.2.2.2.2 (vp_in_nI (by omega) (by omega)) dL_law_183 ?_
  refine xn_eqi (y := xs (i + 3)) (by rw [nI_clamp (by omega)]) ?_
  refine lv_aload_n hx hb dL_law_184 rfl (lv_at hl 0 rfl) ?_
  refine lv_iload_n hx hb dL_law_185 rfl (lv_at hl 3 rfl) ?_
  refine lv_iconst (v := nI 4) hx hb dL_law_186 (by decide) ?_
  refine xn_iadd hx hb dL_law_187 ?_
  refine va_sld hx hb hX hbl hbA hLW.2.2.2.2 (vp_in_nI (by omega) (by omega)) dL_law_188 ?_
  refine xn_eqi (y := xs (i + 4)) (by rw [nI_clamp (by omega)]) ?_
  obtain ⟨P1, P2, k1, k2, hag⟩ := ag_well l (D := D) (ca := ca) (ca' := ca') hi1 hi2 hR (xs (i + 1)) (xs (i + 2)) (xs (i + 3)) (xs (i + 4))
  refine lc_1i (va_runV (As := [.int (xs (i + 1)), .int (xs (i + 2)), .int (xs (i + 3)), .int (xs (i + 4))]) (rest := []) ⟨hx, hb, hml, hown, hts⟩ k1 (cwV 4 hts gL_law_X6_well rfl rfl rfl (by decide +kernel) ⟨Nat.le_of_ble_eq_true rfl, Nat.le_of_ble_eq_true rfl⟩) (xk_preV X1_ok hK1 hX1 hLW.1 (xk_recv hK1 hLW.1 0 (by omega) (ci := 6) e1_well rfl)) rfl rfl hl.1 rfl (lv_room (Nat.le_of_ble_eq_true rfl)) dL_law_189 ⟨Nat.le_of_ble_eq_true rfl, Nat.le_of_ble_eq_true rfl⟩) hLK hLW (fun r1 u1 H locs hp1 hLW => ?_)
  refine lv_aload_n hx hb dL_law_192 rfl (lv_at hl 2 rfl) ?_
  refine lv_aload_n hx hb dL_law_193 rfl (lv_at hl 0 rfl) ?_
  refine lv_iload_n hx hb dL_law_194 rfl (lv_at hl 3 rfl) ?_
  refine lv_iconst (v := nI 1) hx hb dL_law_195 (by decide) ?_
  refine xn_iadd hx hb dL_law_196 ?_
  refine va_sld hx hb hX hbl hbA hLW.2.2.2.2 (vp_in_nI (by omega) (by omega)) dL_law_197 ?_
  refine xn_eqi (y := xs (i + 1)) (by rw [nI_clamp (by omega)]) ?_
  refine lv_aload_n hx hb dL_law_198 rfl (lv_at hl 0 rfl) ?_
  refine lv_iload_n hx hb dL_law_199 rfl (lv_at hl 3 rfl) ?_
  refine lv_iconst (v := nI 2) hx hb dL_law_200 (by decide) ?_
  refine xn_iadd hx hb dL_law_201 ?_
  refine va_sld hx hb hX hbl hbA hLW.2.2.2.2 (vp_in_nI (by omega) (by omega)) dL_law_202 ?_
  refine xn_eqi (y := xs (i + 2)) (by rw [nI_clamp (by omega)]) ?_
  refine lv_aload_n hx hb dL_law_203 rfl (lv_at hl 0 rfl) ?_
  refine lv_iload_n hx hb dL_law_204 rfl (lv_at hl 3 rfl) ?_
  refine lv_iconst (v := nI 3) hx hb dL_law_205 (by decide) ?_
  refine xn_iadd hx hb dL_law_206 ?_
  refine va_sld hx hb hX hbl hbA hLW.2.2.2.2 (vp_in_nI (by omega) (by omega)) dL_law_207 ?_
  refine xn_eqi (y := xs (i + 3)) (by rw [nI_clamp (by omega)]) ?_
  refine lv_aload_n hx hb dL_law_208 rfl (lv_at hl 0 rfl) ?_
  refine lv_iload_n hx hb dL_law_209 rfl (lv_at hl 3 rfl) ?_
  refine lv_iconst (v := nI 4) hx hb dL_law_210 (by decide) ?_
  refine xn_iadd hx hb dL_law_211 ?_
  refine va_sld hx hb hX hbl hbA hLW.2.2.2.2 (vp_in_nI (by omega) (by omega)) dL_law_212 ?_
  refine xn_eqi (y := xs (i + 4)) (by rw [nI_clamp (by omega)]) ?_
  refine lc_2i (va_runV (As := [.int (xs (i + 1)), .int (xs (i + 2)), .int (xs (i + 3)), .int (xs (i + 4))]) (rest := [.int r1]) ⟨hx, hb, hml, hown, hts⟩ k2 (cwV 4 hts gL_law_X7_well rfl rfl rfl (by decide +kernel) ⟨Nat.le_of_ble_eq_true rfl, Nat.le_of_ble_eq_true rfl⟩) (xk_preV X2_ok hK2 trivial hLW.2.1 (xk_recv hK2 hLW.2.1 0 (by omega) (ci := 7) e2_obj rfl)) rfl rfl hl.1 rfl (lv_room (Nat.le_of_ble_eq_true rfl)) dL_law_213 ⟨Nat.le_of_ble_eq_true rfl, Nat.le_of_ble_eq_true rfl⟩) hLK hLW (fun r2 u2 H locs hp2 hLW => ?_)
  obtain ⟨rfl, hR⟩ := hag _ _ _ _ hp1 hp2
  refine lv_icmp_eq (tgt := 1120) hx hb dL_law_216 (by decide) (fun _ => ?_) (fun q => absurd rfl q)
  exact K _ _ _ _ _ hLW hR hl

set_option maxHeartbeats 4000000 in
set_option maxRecDepth 100000 in
theorem cs_1 {p : Program} {e : Env} {s : State} {m : MethodId} {below : List Frame} {meth : Method} {c : Code} (l : Launch) {b L : Nat} {xs : Nat → Int32} (hL : L ≤ 3072) (C0 : lw_At p s m meth c b L xs) {D : va_G} {ca ca' : Nat → ClassId} {ad ad' : Nat → Nat} (hLK : LK D ca ca' ad ad' s) {i : Nat} (hi : i + 6 ≤ L) {σ1 σ2 : Sg} {H : Heap} {locs : List Loc} {ls : Array Slot} (hLW : LW D ca ca' ad ad' σ1 σ2 s H locs) (hR : R2 σ1 σ2) (hl : lv_has ls 4 [(0, .ref b), (1, .ref (ad 0)), (2, .ref (ad' 0)), (3, .int (nI i))]) (K : ∀ (σ1 σ2 : Sg) (H : Heap) (locs : List Loc) (ls : Array Slot), LW D ca ca' ad ad' σ1 σ2 s H locs → R2 σ1 σ2 → lv_has ls 4 [(0, .ref b), (1, .ref (ad 0)), (2, .ref (ad' 0)), (3, .int (nI i))] → W p l e room_1 s m #[Value.ref b] below meth c H locs 52 800 (lw_Z below #[Value.ref b] s) (F0 m 1120 ls [])) : W p l e room_1 s m #[Value.ref b] below meth c H locs 52 800 (lw_Z below #[Value.ref b] s) (F0 m 221 ls []) := by
  obtain ⟨hx, hb, hr, hml, hown, hts0, hX, hbl, hlocks, hgv⟩ := id C0
  have hts : ∀ w ∈ wsL_law, w.before #[Value.ref b] s = true := fun w h => hts0 w (wsL_law_in w h)
  have hown : s.vm.findClass RL = some m.cls := hown
  have hbA : ¬ (fun q : Nat => s.heap.size ≤ q) b := Nat.not_le.mpr hbl
  obtain ⟨hK1, hK2, hX1, hi1, hi2, hb1, hb2, hdj⟩ := id hLK
  refine lv_aload_n hx hb dL_law_221 rfl (lv_at hl 1 rfl) ?_
  refine lv_aload_n hx hb dL_law_222 rfl (lv_at hl 0 rfl) ?_
  refine lv_iload_n hx hb dL_law_223 rfl (lv_at hl 3 rfl) ?_
  refine lv_iconst (v := nI 1) hx hb dL_law_224 (by decide) ?_
  refine xn_iadd hx hb dL_law_225 ?_
  refine va_sld hx hb hX hbl hbA hLW.2.2.2.2 (vp_in_nI (by omega) (by omega)) dL_law_226 ?_
  refine xn_eqi (y := xs (i + 1)) (by rw [nI_clamp (by omega)]) ?_
  refine lv_aload_n hx hb dL_law_227 rfl (lv_at hl 0 rfl) ?_
  refine lv_iload_n hx hb dL_law_228 rfl (lv_at hl 3 rfl) ?_
  refine lv_iconst (v := nI 2) hx hb dL_law_229 (by decide) ?_
  refine xn_iadd hx hb dL_law_230 ?_
  refine va_sld hx hb hX hbl hbA hLW.2.2.2.2 (vp_in_nI (by omega) (by omega)) dL_law_231 ?_
  refine xn_eqi (y := xs (i + 2)) (by rw [nI_clamp (by omega)]) ?_
  obtain ⟨P1, P2, k1, k2, hag⟩ := ag_ofThing l (D := D) (ca := ca) (ca' := ca') hi1 hi2 hR (xs (i + 1)) (xs (i + 2))
  refine lc_1i (va_runV (As := [.int (xs (i + 1)), .int (xs (i + 2))]) (rest := []) ⟨hx, hb, hml, hown, hts⟩ k1 (cwV 2 hts gL_law_X6_ofThing rfl rfl rfl (by decide +kernel) ⟨Nat.le_of_ble_eq_true rfl, Nat.le_of_ble_eq_true rfl⟩) (xk_preV X1_ok hK1 hX1 hLW.1 (xk_recv hK1 hLW.1 0 (by omega) (ci := 6) e1_well rfl)) rfl rfl hl.1 rfl (lv_room (Nat.le_of_ble_eq_true rfl)) dL_law_232 ⟨Nat.le_of_ble_eq_true rfl, Nat.le_of_ble_eq_true rfl⟩) hLK hLW (fun r1 u1 H locs hp1 hLW => ?_)
  refine lv_aload_n hx hb dL_law_235 rfl (lv_at hl 2 rfl) ?_
  refine lv_aload_n hx hb dL_law_236 rfl (lv_at hl 0 rfl) ?_
  refine lv_iload_n hx hb dL_law_237 rfl (lv_at hl 3 rfl) ?_
  refine lv_iconst (v := nI 1) hx hb dL_law_238 (by decide) ?_
  refine xn_iadd hx hb dL_law_239 ?_
  refine va_sld hx hb hX hbl hbA hLW.2.2.2.2 (vp_in_nI (by omega) (by omega)) dL_law_240 ?_
  refine xn_eqi (y := xs (i + 1)) (by rw [nI_clamp (by omega)]) ?_
  refine lv_aload_n hx hb dL_law_241 rfl (lv_at hl 0 rfl) ?_
  refine lv_iload_n hx hb dL_law_242 rfl (lv_at hl 3 rfl) ?_
  refine lv_iconst (v := nI 2) hx hb dL_law_243 (by decide) ?_
  refine xn_iadd hx hb dL_law_244 ?_
  refine va_sld hx hb hX hbl hbA hLW.2.2.2.2 (vp_in_nI (by omega) (by omega)) dL_law_245 ?_
  refine xn_eqi (y := xs (i + 2)) (by rw [nI_clamp (by omega)]) ?_
  refine lc_2i (va_runV (As := [.int (xs (i + 1)), .int (xs (i + 2))]) (rest := [.int r1]) ⟨hx, hb, hml, hown, hts⟩ k2 (cwV 2 hts gL_law_X7_ofThing rfl rfl rfl (by decide +kernel) ⟨Nat.le_of_ble_eq_true rfl, Nat.le_of_ble_eq_true rfl⟩) (xk_preV X2_ok hK2 trivial hLW.2.1 (xk_recv hK2 hLW.2.1 0 (by omega) (ci := 7) e2_obj rfl)) rfl rfl hl.1 rfl (lv_room (Nat.le_of_ble_eq_true rfl)) dL_law_246 ⟨Nat.le_of_ble_eq_true rfl, Nat.le_of_ble_eq_true rfl⟩) hLK hLW (fun r2 u2 H locs hp2 hLW => ?_)
  obtain ⟨rfl, hR⟩ := hag _ _ _ _ hp1 hp2
  refine lv_icmp_eq (tgt := 1120) hx hb dL_law_249 (by decide) (fun _ => ?_) (fun q => absurd rfl q)
  exact K _ _ _ _ _ hLW hR hl

set_option maxHeartbeats 4000000 in
set_option maxRecDepth 100000 in
theorem cs_2 {p : Program} {e : Env} {s : State} {m : MethodId} {below : List Frame} {meth : Method} {c : Code} (l : Launch) {b L : Nat} {xs : Nat → Int32} (hL : L ≤ 3072) (C0 : lw_At p s m meth c b L xs) {D : va_G} {ca ca' : Nat → ClassId} {ad ad' : Nat → Nat} (hLK : LK D ca ca' ad ad' s) {i : Nat} (hi : i + 6 ≤ L) {σ1 σ2 : Sg} {H : Heap} {locs : List Loc} {ls : Array Slot} (hLW : LW D ca ca' ad ad' σ1 σ2 s H locs) (hR : R2 σ1 σ2) (hl : lv_has ls 4 [(0, .ref b), (1, .ref (ad 0)), (2, .ref (ad' 0)), (3, .int (nI i))]) (K : ∀ (σ1 σ2 : Sg) (H : Heap) (locs : List Loc) (ls : Array Slot), LW D ca ca' ad ad' σ1 σ2 s H locs → R2 σ1 σ2 → lv_has ls 4 [(0, .ref b), (1, .ref (ad 0)), (2, .ref (ad' 0)), (3, .int (nI i))] → W p l e room_1 s m #[Value.ref b] below meth c H locs 52 800 (lw_Z below #[Value.ref b] s) (F0 m 1120 ls [])) : W p l e room_1 s m #[Value.ref b] below meth c H locs 52 800 (lw_Z below #[Value.ref b] s) (F0 m 254 ls []) := by
  obtain ⟨hx, hb, hr, hml, hown, hts0, hX, hbl, hlocks, hgv⟩ := id C0
  have hts : ∀ w ∈ wsL_law, w.before #[Value.ref b] s = true := fun w h => hts0 w (wsL_law_in w h)
  have hown : s.vm.findClass RL = some m.cls := hown
  have hbA : ¬ (fun q : Nat => s.heap.size ≤ q) b := Nat.not_le.mpr hbl
  obtain ⟨hK1, hK2, hX1, hi1, hi2, hb1, hb2, hdj⟩ := id hLK
  refine lv_aload_n hx hb dL_law_254 rfl (lv_at hl 1 rfl) ?_
  refine lv_aload_n hx hb dL_law_255 rfl (lv_at hl 0 rfl) ?_
  refine lv_iload_n hx hb dL_law_256 rfl (lv_at hl 3 rfl) ?_
  refine lv_iconst (v := nI 1) hx hb dL_law_257 (by decide) ?_
  refine xn_iadd hx hb dL_law_258 ?_
  refine va_sld hx hb hX hbl hbA hLW.2.2.2.2 (vp_in_nI (by omega) (by omega)) dL_law_259 ?_
  refine xn_eqi (y := xs (i + 1)) (by rw [nI_clamp (by omega)]) ?_
  obtain ⟨P1, P2, k1, k2, hag⟩ := ag_draws l (D := D) (ca := ca) (ca' := ca') hi1 hi2 hR (xs (i + 1))
  refine lc_1i (va_runV (As := [.int (xs (i + 1))]) (rest := []) ⟨hx, hb, hml, hown, hts⟩ k1 (cwV 1 hts gL_law_X6_draws rfl rfl rfl (by decide +kernel) ⟨Nat.le_of_ble_eq_true rfl, Nat.le_of_ble_eq_true rfl⟩) (xk_preV X1_ok hK1 hX1 hLW.1 (xk_recv hK1 hLW.1 0 (by omega) (ci := 6) e1_well rfl)) rfl rfl hl.1 rfl (lv_room (Nat.le_of_ble_eq_true rfl)) dL_law_260 ⟨Nat.le_of_ble_eq_true rfl, Nat.le_of_ble_eq_true rfl⟩) hLK hLW (fun r1 u1 H locs hp1 hLW => ?_)
  refine lv_aload_n hx hb dL_law_263 rfl (lv_at hl 2 rfl) ?_
  refine lv_aload_n hx hb dL_law_264 rfl (lv_at hl 0 rfl) ?_
  refine lv_iload_n hx hb dL_law_265 rfl (lv_at hl 3 rfl) ?_
  refine lv_iconst (v := nI 1) hx hb dL_law_266 (by decide) ?_
  refine xn_iadd hx hb dL_law_267 ?_
  refine va_sld hx hb hX hbl hbA hLW.2.2.2.2 (vp_in_nI (by omega) (by omega)) dL_law_268 ?_
  refine xn_eqi (y := xs (i + 1)) (by rw [nI_clamp (by omega)]) ?_
  refine lc_2i (va_runV (As := [.int (xs (i + 1))]) (rest := [.int r1]) ⟨hx, hb, hml, hown, hts⟩ k2 (cwV 1 hts gL_law_X7_draws rfl rfl rfl (by decide +kernel) ⟨Nat.le_of_ble_eq_true rfl, Nat.le_of_ble_eq_true rfl⟩) (xk_preV X2_ok hK2 trivial hLW.2.1 (xk_recv hK2 hLW.2.1 0 (by omega) (ci := 7) e2_obj rfl)) rfl rfl hl.1 rfl (lv_room (Nat.le_of_ble_eq_true rfl)) dL_law_269 ⟨Nat.le_of_ble_eq_true rfl, Nat.le_of_ble_eq_true rfl⟩) hLK hLW (fun r2 u2 H locs hp2 hLW => ?_)
  obtain ⟨rfl, hR⟩ := hag _ _ _ _ hp1 hp2
  refine lv_icmp_eq (tgt := 1120) hx hb dL_law_272 (by decide) (fun _ => ?_) (fun q => absurd rfl q)
  exact K _ _ _ _ _ hLW hR hl

set_option maxHeartbeats 4000000 in
set_option maxRecDepth 100000 in
theorem cs_3 {p : Program} {e : Env} {s : State} {m : MethodId} {below : List Frame} {meth : Method} {c : Code} (l : Launch) {b L : Nat} {xs : Nat → Int32} (hL : L ≤ 3072) (C0 : lw_At p s m meth c b L xs) {D : va_G} {ca ca' : Nat → ClassId} {ad ad' : Nat → Nat} (hLK : LK D ca ca' ad ad' s) {i : Nat} (hi : i + 6 ≤ L) {σ1 σ2 : Sg} {H : Heap} {locs : List Loc} {ls : Array Slot} (hLW : LW D ca ca' ad ad' σ1 σ2 s H locs) (hR : R2 σ1 σ2) (hl : lv_has ls 4 [(0, .ref b), (1, .ref (ad 0)), (2, .ref (ad' 0)), (3, .int (nI i))]) (K : ∀ (σ1 σ2 : Sg) (H : Heap) (locs : List Loc) (ls : Array Slot), LW D ca ca' ad ad' σ1 σ2 s H locs → R2 σ1 σ2 → lv_has ls 4 [(0, .ref b), (1, .ref (ad 0)), (2, .ref (ad' 0)), (3, .int (nI i))] → W p l e room_1 s m #[Value.ref b] below meth c H locs 52 800 (lw_Z below #[Value.ref b] s) (F0 m 1120 ls [])) : W p l e room_1 s m #[Value.ref b] below meth c H locs 52 800 (lw_Z below #[Value.ref b] s) (F0 m 277 ls []) := by
  obtain ⟨hx, hb, hr, hml, hown, hts0, hX, hbl, hlocks, hgv⟩ := id C0
  have hts : ∀ w ∈ wsL_law, w.before #[Value.ref b] s = true := fun w h => hts0 w (wsL_law_in w h)
  have hown : s.vm.findClass RL = some m.cls := hown
  have hbA : ¬ (fun q : Nat => s.heap.size ≤ q) b := Nat.not_le.mpr hbl
  obtain ⟨hK1, hK2, hX1, hi1, hi2, hb1, hb2, hdj⟩ := id hLK
  refine lv_aload_n hx hb dL_law_277 rfl (lv_at hl 1 rfl) ?_
  refine lv_aload_n hx hb dL_law_278 rfl (lv_at hl 0 rfl) ?_
  refine lv_iload_n hx hb dL_law_279 rfl (lv_at hl 3 rfl) ?_
  refine lv_iconst (v := nI 1) hx hb dL_law_280 (by decide) ?_
  refine xn_iadd hx hb dL_law_281 ?_
  refine va_sld hx hb hX hbl hbA hLW.2.2.2.2 (vp_in_nI (by omega) (by omega)) dL_law_282 ?_
  refine xn_eqi (y := xs (i + 1)) (by rw [nI_clamp (by omega)]) ?_
  refine lv_aload_n hx hb dL_law_283 rfl (lv_at hl 0 rfl) ?_
  refine lv_iload_n hx hb dL_law_284 rfl (lv_at hl 3 rfl) ?_
  refine lv_iconst (v := nI 2) hx hb dL_law_285 (by decide) ?_
  refine xn_iadd hx hb dL_law_286 ?_
  refine va_sld hx hb hX hbl hbA hLW.2.2.2.2 (vp_in_nI (by omega) (by omega)) dL_law_287 ?_
  refine xn_eqi (y := xs (i + 2)) (by rw [nI_clamp (by omega)]) ?_
  obtain ⟨P1, P2, k1, k2, hag⟩ := ag_weigh l (D := D) (ca := ca) (ca' := ca') hi1 hi2 hR (xs (i + 1)) (xs (i + 2))
  refine lc_1i (va_runV (As := [.int (xs (i + 1)), .int (xs (i + 2))]) (rest := []) ⟨hx, hb, hml, hown, hts⟩ k1 (cwV 2 hts gL_law_X6_weigh rfl rfl rfl (by decide +kernel) ⟨Nat.le_of_ble_eq_true rfl, Nat.le_of_ble_eq_true rfl⟩) (xk_preV X1_ok hK1 hX1 hLW.1 (xk_recv hK1 hLW.1 0 (by omega) (ci := 6) e1_well rfl)) rfl rfl hl.1 rfl (lv_room (Nat.le_of_ble_eq_true rfl)) dL_law_288 ⟨Nat.le_of_ble_eq_true rfl, Nat.le_of_ble_eq_true rfl⟩) hLK hLW (fun r1 u1 H locs hp1 hLW => ?_)
  refine lv_aload_n hx hb dL_law_291 rfl (lv_at hl 2 rfl) ?_
  refine lv_aload_n hx hb dL_law_292 rfl (lv_at hl 0 rfl) ?_
  refine lv_iload_n hx hb dL_law_293 rfl (lv_at hl 3 rfl) ?_
  refine lv_iconst (v := nI 1) hx hb dL_law_294 (by decide) ?_
  refine xn_iadd hx hb dL_law_295 ?_
  refine va_sld hx hb hX hbl hbA hLW.2.2.2.2 (vp_in_nI (by omega) (by omega)) dL_law_296 ?_
  refine xn_eqi (y := xs (i + 1)) (by rw [nI_clamp (by omega)]) ?_
  refine lv_aload_n hx hb dL_law_297 rfl (lv_at hl 0 rfl) ?_
  refine lv_iload_n hx hb dL_law_298 rfl (lv_at hl 3 rfl) ?_
  refine lv_iconst (v := nI 2) hx hb dL_law_299 (by decide) ?_
  refine xn_iadd hx hb dL_law_300 ?_
  refine va_sld hx hb hX hbl hbA hLW.2.2.2.2 (vp_in_nI (by omega) (by omega)) dL_law_301 ?_
  refine xn_eqi (y := xs (i + 2)) (by rw [nI_clamp (by omega)]) ?_
  refine lc_2i (va_runV (As := [.int (xs (i + 1)), .int (xs (i + 2))]) (rest := [.int r1]) ⟨hx, hb, hml, hown, hts⟩ k2 (cwV 2 hts gL_law_X7_weigh rfl rfl rfl (by decide +kernel) ⟨Nat.le_of_ble_eq_true rfl, Nat.le_of_ble_eq_true rfl⟩) (xk_preV X2_ok hK2 trivial hLW.2.1 (xk_recv hK2 hLW.2.1 0 (by omega) (ci := 7) e2_obj rfl)) rfl rfl hl.1 rfl (lv_room (Nat.le_of_ble_eq_true rfl)) dL_law_302 ⟨Nat.le_of_ble_eq_true rfl, Nat.le_of_ble_eq_true rfl⟩) hLK hLW (fun r2 u2 H locs hp2 hLW => ?_)
  obtain ⟨rfl, hR⟩ := hag _ _ _ _ hp1 hp2
  refine lv_icmp_eq (tgt := 1120) hx hb dL_law_305 (by decide) (fun _ => ?_) (fun q => absurd rfl q)
  exact K _ _ _ _ _ hLW hR hl

set_option maxHeartbeats 4000000 in
set_option maxRecDepth 100000 in
theorem cs_4 {p : Program} {e : Env} {s : State} {m : MethodId} {below : List Frame} {meth : Method} {c : Code} (l : Launch) {b L : Nat} {xs : Nat → Int32} (hL : L ≤ 3072) (C0 : lw_At p s m meth c b L xs) {D : va_G} {ca ca' : Nat → ClassId} {ad ad' : Nat → Nat} (hLK : LK D ca ca' ad ad' s) {i : Nat} (hi : i + 6 ≤ L) {σ1 σ2 : Sg} {H : Heap} {locs : List Loc} {ls : Array Slot} (hLW : LW D ca ca' ad ad' σ1 σ2 s H locs) (hR : R2 σ1 σ2) (hl : lv_has ls 4 [(0, .ref b), (1, .ref (ad 0)), (2, .ref (ad' 0)), (3, .int (nI i))]) (K : ∀ (σ1 σ2 : Sg) (H : Heap) (locs : List Loc) (ls : Array Slot), LW D ca ca' ad ad' σ1 σ2 s H locs → R2 σ1 σ2 → lv_has ls 4 [(0, .ref b), (1, .ref (ad 0)), (2, .ref (ad' 0)), (3, .int (nI i))] → W p l e room_1 s m #[Value.ref b] below meth c H locs 52 800 (lw_Z below #[Value.ref b] s) (F0 m 1120 ls [])) : W p l e room_1 s m #[Value.ref b] below meth c H locs 52 800 (lw_Z below #[Value.ref b] s) (F0 m 310 ls []) := by
  obtain ⟨hx, hb, hr, hml, hown, hts0, hX, hbl, hlocks, hgv⟩ := id C0
  have hts : ∀ w ∈ wsL_law, w.before #[Value.ref b] s = true := fun w h => hts0 w (wsL_law_in w h)
  have hown : s.vm.findClass RL = some m.cls := hown
  have hbA : ¬ (fun q : Nat => s.heap.size ≤ q) b := Nat.not_le.mpr hbl
  obtain ⟨hK1, hK2, hX1, hi1, hi2, hb1, hb2, hdj⟩ := id hLK
  refine lv_aload_n hx hb dL_law_310 rfl (lv_at hl 1 rfl) ?_
  refine lv_aload_n hx hb dL_law_311 rfl (lv_at hl 0 rfl) ?_
  refine lv_iload_n hx hb dL_law_312 rfl (lv_at hl 3 rfl) ?_
  refine lv_iconst (v := nI 1) hx hb dL_law_313 (by decide) ?_
  refine xn_iadd hx hb dL_law_314 ?_
  refine va_sld hx hb hX hbl hbA hLW.2.2.2.2 (vp_in_nI (by omega) (by omega)) dL_law_315 ?_
  refine xn_eqi (y := xs (i + 1)) (by rw [nI_clamp (by omega)]) ?_
  obtain ⟨P1, P2, k1, k2, hag⟩ := ag_dig l (D := D) (ca := ca) (ca' := ca') hi1 hi2 hR (xs (i + 1))
  refine lc_1i (va_runV (As := [.int (xs (i + 1))]) (rest := []) ⟨hx, hb, hml, hown, hts⟩ k1 (cwV 1 hts gL_law_X6_dig rfl rfl rfl (by decide +kernel) ⟨Nat.le_of_ble_eq_true rfl, Nat.le_of_ble_eq_true rfl⟩) (xk_preV X1_ok hK1 hX1 hLW.1 (xk_recv hK1 hLW.1 0 (by omega) (ci := 6) e1_well rfl)) rfl rfl hl.1 rfl (lv_room (Nat.le_of_ble_eq_true rfl)) dL_law_316 ⟨Nat.le_of_ble_eq_true rfl, Nat.le_of_ble_eq_true rfl⟩) hLK hLW (fun r1 u1 H locs hp1 hLW => ?_)
  refine lv_aload_n hx hb dL_law_319 rfl (lv_at hl 2 rfl) ?_
  refine lv_aload_n hx hb dL_law_320 rfl (lv_at hl 0 rfl) ?_
  refine lv_iload_n hx hb dL_law_321 rfl (lv_at hl 3 rfl) ?_
  refine lv_iconst (v := nI 1) hx hb dL_law_322 (by decide) ?_
  refine xn_iadd hx hb dL_law_323 ?_
  refine va_sld hx hb hX hbl hbA hLW.2.2.2.2 (vp_in_nI (by omega) (by omega)) dL_law_324 ?_
  refine xn_eqi (y := xs (i + 1)) (by rw [nI_clamp (by omega)]) ?_
  refine lc_2i (va_runV (As := [.int (xs (i + 1))]) (rest := [.int r1]) ⟨hx, hb, hml, hown, hts⟩ k2 (cwV 1 hts gL_law_X7_dig rfl rfl rfl (by decide +kernel) ⟨Nat.le_of_ble_eq_true rfl, Nat.le_of_ble_eq_true rfl⟩) (xk_preV X2_ok hK2 trivial hLW.2.1 (xk_recv hK2 hLW.2.1 0 (by omega) (ci := 7) e2_obj rfl)) rfl rfl hl.1 rfl (lv_room (Nat.le_of_ble_eq_true rfl)) dL_law_325 ⟨Nat.le_of_ble_eq_true rfl, Nat.le_of_ble_eq_true rfl⟩) hLK hLW (fun r2 u2 H locs hp2 hLW => ?_)
  obtain ⟨rfl, hR⟩ := hag _ _ _ _ hp1 hp2
  refine lv_icmp_eq (tgt := 1120) hx hb dL_law_328 (by decide) (fun _ => ?_) (fun q => absurd rfl q)
  exact K _ _ _ _ _ hLW hR hl

set_option maxHeartbeats 4000000 in
set_option maxRecDepth 100000 in
theorem cs_5 {p : Program} {e : Env} {s : State} {m : MethodId} {below : List Frame} {meth : Method} {c : Code} (l : Launch) {b L : Nat} {xs : Nat → Int32} (hL : L ≤ 3072) (C0 : lw_At p s m meth c b L xs) {D : va_G} {ca ca' : Nat → ClassId} {ad ad' : Nat → Nat} (hLK : LK D ca ca' ad ad' s) {i : Nat} (hi : i + 6 ≤ L) {σ1 σ2 : Sg} {H : Heap} {locs : List Loc} {ls : Array Slot} (hLW : LW D ca ca' ad ad' σ1 σ2 s H locs) (hR : R2 σ1 σ2) (hl : lv_has ls 4 [(0, .ref b), (1, .ref (ad 0)), (2, .ref (ad' 0)), (3, .int (nI i))]) (K : ∀ (σ1 σ2 : Sg) (H : Heap) (locs : List Loc) (ls : Array Slot), LW D ca ca' ad ad' σ1 σ2 s H locs → R2 σ1 σ2 → lv_has ls 4 [(0, .ref b), (1, .ref (ad 0)), (2, .ref (ad' 0)), (3, .int (nI i))] → W p l e room_1 s m #[Value.ref b] below meth c H locs 52 800 (lw_Z below #[Value.ref b] s) (F0 m 1120 ls [])) : W p l e room_1 s m #[Value.ref b] below meth c H locs 52 800 (lw_Z below #[Value.ref b] s) (F0 m 333 ls []) := by
  obtain ⟨hx, hb, hr, hml, hown, hts0, hX, hbl, hlocks, hgv⟩ := id C0
  have hts : ∀ w ∈ wsL_law, w.before #[Value.ref b] s = true := fun w h => hts0 w (wsL_law_in w h)
  have hown : s.vm.findClass RL = some m.cls := hown
  have hbA : ¬ (fun q : Nat => s.heap.size ≤ q) b := Nat.not_le.mpr hbl
  obtain ⟨hK1, hK2, hX1, hi1, hi2, hb1, hb2, hdj⟩ := id hLK
  refine lv_aload_n hx hb dL_law_333 rfl (lv_at hl 1 rfl) ?_
  refine lv_aload_n hx hb dL_law_334 rfl (lv_at hl 0 rfl) ?_
  refine lv_iload_n hx hb dL_law_335 rfl (lv_at hl 3 rfl) ?_
  refine lv_iconst (v := nI 1) hx hb dL_law_336 (by decide) ?_
  refine xn_iadd hx hb dL_law_337 ?_
  refine va_sld hx hb hX hbl hbA hLW.2.2.2.2 (vp_in_nI (by omega) (by omega)) dL_law_338 ?_
  refine xn_eqi (y := xs (i + 1)) (by rw [nI_clamp (by omega)]) ?_
  refine lv_aload_n hx hb dL_law_339 rfl (lv_at hl 0 rfl) ?_
  refine lv_iload_n hx hb dL_law_340 rfl (lv_at hl 3 rfl) ?_
  refine lv_iconst (v := nI 2) hx hb dL_law_341 (by decide) ?_
  refine xn_iadd hx hb dL_law_342 ?_
  refine va_sld hx hb hX hbl hbA hLW.2.2.2.2 (vp_in_nI (by omega) (by omega)) dL_law_343 ?_
  refine xn_eqi (y := xs (i + 2)) (by rw [nI_clamp (by omega)]) ?_
  obtain ⟨P1, P2, k1, k2, hag⟩ := ag_hire l (D := D) (ca := ca) (ca' := ca') hi1 hi2 hR (xs (i + 1)) (xs (i + 2))
  refine lc_1i (va_runV (As := [.int (xs (i + 1)), .int (xs (i + 2))]) (rest := []) ⟨hx, hb, hml, hown, hts⟩ k1 (cwV 2 hts gL_law_X6_hire rfl rfl rfl (by decide +kernel) ⟨Nat.le_of_ble_eq_true rfl, Nat.le_of_ble_eq_true rfl⟩) (xk_preV X1_ok hK1 hX1 hLW.1 (xk_recv hK1 hLW.1 0 (by omega) (ci := 6) e1_well rfl)) rfl rfl hl.1 rfl (lv_room (Nat.le_of_ble_eq_true rfl)) dL_law_344 ⟨Nat.le_of_ble_eq_true rfl, Nat.le_of_ble_eq_true rfl⟩) hLK hLW (fun r1 u1 H locs hp1 hLW => ?_)
  refine lv_aload_n hx hb dL_law_347 rfl (lv_at hl 2 rfl) ?_
  refine lv_aload_n hx hb dL_law_348 rfl (lv_at hl 0 rfl) ?_
  refine lv_iload_n hx hb dL_law_349 rfl (lv_at hl 3 rfl) ?_
  refine lv_iconst (v := nI 1) hx hb dL_law_350 (by decide) ?_
  refine xn_iadd hx hb dL_law_351 ?_
  refine va_sld hx hb hX hbl hbA hLW.2.2.2.2 (vp_in_nI (by omega) (by omega)) dL_law_352 ?_
  refine xn_eqi (y := xs (i + 1)) (by rw [nI_clamp (by omega)]) ?_
  refine lv_aload_n hx hb dL_law_353 rfl (lv_at hl 0 rfl) ?_
  refine lv_iload_n hx hb dL_law_354 rfl (lv_at hl 3 rfl) ?_
  refine lv_iconst (v := nI 2) hx hb dL_law_355 (by decide) ?_
  refine xn_iadd hx hb dL_law_356 ?_
  refine va_sld hx hb hX hbl hbA hLW.2.2.2.2 (vp_in_nI (by omega) (by omega)) dL_law_357 ?_
  refine xn_eqi (y := xs (i + 2)) (by rw [nI_clamp (by omega)]) ?_
  refine lc_2i (va_runV (As := [.int (xs (i + 1)), .int (xs (i + 2))]) (rest := [.int r1]) ⟨hx, hb, hml, hown, hts⟩ k2 (cwV 2 hts gL_law_X7_hire rfl rfl rfl (by decide +kernel) ⟨Nat.le_of_ble_eq_true rfl, Nat.le_of_ble_eq_true rfl⟩) (xk_preV X2_ok hK2 trivial hLW.2.1 (xk_recv hK2 hLW.2.1 0 (by omega) (ci := 7) e2_obj rfl)) rfl rfl hl.1 rfl (lv_room (Nat.le_of_ble_eq_true rfl)) dL_law_358 ⟨Nat.le_of_ble_eq_true rfl, Nat.le_of_ble_eq_true rfl⟩) hLK hLW (fun r2 u2 H locs hp2 hLW => ?_)
  obtain ⟨rfl, hR⟩ := hag _ _ _ _ hp1 hp2
  refine lv_icmp_eq (tgt := 1120) hx hb dL_law_361 (by decide) (fun _ => ?_) (fun q => absurd rfl q)
  exact K _ _ _ _ _ hLW hR hl

set_option maxHeartbeats 4000000 in
set_option maxRecDepth 100000 in
theorem cs_6 {p : Program} {e : Env} {s : State} {m : MethodId} {below : List Frame} {meth : Method} {c : Code} (l : Launch) {b L : Nat} {xs : Nat → Int32} (hL : L ≤ 3072) (C0 : lw_At p s m meth c b L xs) {D : va_G} {ca ca' : Nat → ClassId} {ad ad' : Nat → Nat} (hLK : LK D ca ca' ad ad' s) {i : Nat} (hi : i + 6 ≤ L) {σ1 σ2 : Sg} {H : Heap} {locs : List Loc} {ls : Array Slot} (hLW : LW D ca ca' ad ad' σ1 σ2 s H locs) (hR : R2 σ1 σ2) (hl : lv_has ls 4 [(0, .ref b), (1, .ref (ad 0)), (2, .ref (ad' 0)), (3, .int (nI i))]) (K : ∀ (σ1 σ2 : Sg) (H : Heap) (locs : List Loc) (ls : Array Slot), LW D ca ca' ad ad' σ1 σ2 s H locs → R2 σ1 σ2 → lv_has ls 4 [(0, .ref b), (1, .ref (ad 0)), (2, .ref (ad' 0)), (3, .int (nI i))] → W p l e room_1 s m #[Value.ref b] below meth c H locs 52 800 (lw_Z below #[Value.ref b] s) (F0 m 1120 ls [])) : W p l e room_1 s m #[Value.ref b] below meth c H locs 52 800 (lw_Z below #[Value.ref b] s) (F0 m 366 ls []) := by
  obtain ⟨hx, hb, hr, hml, hown, hts0, hX, hbl, hlocks, hgv⟩ := id C0
  have hts : ∀ w ∈ wsL_law, w.before #[Value.ref b] s = true := fun w h => hts0 w (wsL_law_in w h)
  have hown : s.vm.findClass RL = some m.cls := hown
  have hbA : ¬ (fun q : Nat => s.heap.size ≤ q) b := Nat.not_le.mpr hbl
  obtain ⟨hK1, hK2, hX1, hi1, hi2, hb1, hb2, hdj⟩ := id hLK
  refine lv_aload_n hx hb dL_law_366 rfl (lv_at hl 1 rfl) ?_
  refine lv_aload_n hx hb dL_law_367 rfl (lv_at hl 0 rfl) ?_
  refine lv_iload_n hx hb dL_law_368 rfl (lv_at hl 3 rfl) ?_
  refine lv_iconst (v := nI 1) hx hb dL_law_369 (by decide) ?_
  refine xn_iadd hx hb dL_law_370 ?_
  refine va_sld hx hb hX hbl hbA hLW.2.2.2.2 (vp_in_nI (by omega) (by omega)) dL_law_371 ?_
  refine xn_eqi (y := xs (i + 1)) (by rw [nI_clamp (by omega)]) ?_
  refine lv_aload_n hx hb dL_law_372 rfl (lv_at hl 0 rfl) ?_
  refine lv_iload_n hx hb dL_law_373 rfl (lv_at hl 3 rfl) ?_
  refine lv_iconst (v := nI 2) hx hb dL_law_374 (by decide) ?_
  refine xn_iadd hx hb dL_law_375 ?_
  refine va_sld hx hb hX hbl hbA hLW.2.2.2.2 (vp_in_nI (by omega) (by omega)) dL_law_376 ?_
  refine xn_eqi (y := xs (i + 2)) (by rw [nI_clamp (by omega)]) ?_
  refine lv_aload_n hx hb dL_law_377 rfl (lv_at hl 0 rfl) ?_
  refine lv_iload_n hx hb dL_law_378 rfl (lv_at hl 3 rfl) ?_
  refine lv_iconst (v := nI 3) hx hb dL_law_379 (by decide) ?_
  refine xn_iadd hx hb dL_law_380 ?_
  refine va_sld hx hb hX hbl hbA hLW.2.2.2.2 (vp_in_nI (by omega) (by omega)) dL_law_381 ?_
  refine xn_eqi (y := xs (i + 3)) (by rw [nI_clamp (by omega)]) ?_
  refine lv_aload_n hx hb dL_law_382 rfl (lv_at hl 0 rfl) ?_
  refine lv_iload_n hx hb dL_law_383 rfl (lv_at hl 3 rfl) ?_
  refine lv_iconst (v := nI 4) hx hb dL_law_384 (by decide) ?_
  refine xn_iadd hx hb dL_law_385 ?_
  refine va_sld hx hb hX hbl hbA hLW.2.2.2.2 (vp_in_nI (by omega) (by omega)) dL_law_386 ?_
  refine xn_eqi (y := xs (i + 4)) (by rw [nI_clamp (by omega)]) ?_
  obtain ⟨P1, P2, k1, k2, hag⟩ := ag_drop l (D := D) (ca := ca) (ca' := ca') hi1 hi2 hR (xs (i + 1)) (xs (i + 2)) (xs (i + 3)) (xs (i + 4))
  refine lc_1i (va_runV (As := [.int (xs (i + 1)), .int (xs (i + 2)), .int (xs (i + 3)), .int (xs (i + 4))]) (rest := []) ⟨hx, hb, hml, hown, hts⟩ k1 (cwV 4 hts gL_law_X6_drop rfl rfl rfl (by decide +kernel) ⟨Nat.le_of_ble_eq_true rfl, Nat.le_of_ble_eq_true rfl⟩) (xk_preV X1_ok hK1 hX1 hLW.1 (xk_recv hK1 hLW.1 0 (by omega) (ci := 6) e1_well rfl)) rfl rfl hl.1 rfl (lv_room (Nat.le_of_ble_eq_true rfl)) dL_law_387 ⟨Nat.le_of_ble_eq_true rfl, Nat.le_of_ble_eq_true rfl⟩) hLK hLW (fun r1 u1 H locs hp1 hLW => ?_)
  refine lv_aload_n hx hb dL_law_390 rfl (lv_at hl 2 rfl) ?_
  refine lv_aload_n hx hb dL_law_391 rfl (lv_at hl 0 rfl) ?_
  refine lv_iload_n hx hb dL_law_392 rfl (lv_at hl 3 rfl) ?_
  refine lv_iconst (v := nI 1) hx hb dL_law_393 (by decide) ?_
  refine xn_iadd hx hb dL_law_394 ?_
  refine va_sld hx hb hX hbl hbA hLW.2.2.2.2 (vp_in_nI (by omega) (by omega)) dL_law_395 ?_
  refine xn_eqi (y := xs (i + 1)) (by rw [nI_clamp (by omega)]) ?_
  refine lv_aload_n hx hb dL_law_396 rfl (lv_at hl 0 rfl) ?_
  refine lv_iload_n hx hb dL_law_397 rfl (lv_at hl 3 rfl) ?_
  refine lv_iconst (v := nI 2) hx hb dL_law_398 (by decide) ?_
  refine xn_iadd hx hb dL_law_399 ?_
  refine va_sld hx hb hX hbl hbA hLW.2.2.2.2 (vp_in_nI (by omega) (by omega)) dL_law_400 ?_
  refine xn_eqi (y := xs (i + 2)) (by rw [nI_clamp (by omega)]) ?_
  refine lv_aload_n hx hb dL_law_401 rfl (lv_at hl 0 rfl) ?_
  refine lv_iload_n hx hb dL_law_402 rfl (lv_at hl 3 rfl) ?_
  refine lv_iconst (v := nI 3) hx hb dL_law_403 (by decide) ?_
  refine xn_iadd hx hb dL_law_404 ?_
  refine va_sld hx hb hX hbl hbA hLW.2.2.2.2 (vp_in_nI (by omega) (by omega)) dL_law_405 ?_
  refine xn_eqi (y := xs (i + 3)) (by rw [nI_clamp (by omega)]) ?_
  refine lv_aload_n hx hb dL_law_406 rfl (lv_at hl 0 rfl) ?_
  refine lv_iload_n hx hb dL_law_407 rfl (lv_at hl 3 rfl) ?_
  refine lv_iconst (v := nI 4) hx hb dL_law_408 (by decide) ?_
  refine xn_iadd hx hb dL_law_409 ?_
  refine va_sld hx hb hX hbl hbA hLW.2.2.2.2 (vp_in_nI (by omega) (by omega)) dL_law_410 ?_
  refine xn_eqi (y := xs (i + 4)) (by rw [nI_clamp (by omega)]) ?_
  refine lc_2i (va_runV (As := [.int (xs (i + 1)), .int (xs (i + 2)), .int (xs (i + 3)), .int (xs (i + 4))]) (rest := [.int r1]) ⟨hx, hb, hml, hown, hts⟩ k2 (cwV 4 hts gL_law_X7_drop rfl rfl rfl (by decide +kernel) ⟨Nat.le_of_ble_eq_true rfl, Nat.le_of_ble_eq_true rfl⟩) (xk_preV X2_ok hK2 trivial hLW.2.1 (xk_recv hK2 hLW.2.1 0 (by omega) (ci := 7) e2_obj rfl)) rfl rfl hl.1 rfl (lv_room (Nat.le_of_ble_eq_true rfl)) dL_law_411 ⟨Nat.le_of_ble_eq_true rfl, Nat.le_of_ble_eq_true rfl⟩) hLK hLW (fun r2 u2 H locs hp2 hLW => ?_)
  obtain ⟨rfl, hR⟩ := hag _ _ _ _ hp1 hp2
  refine lv_icmp_eq (tgt := 1120) hx hb dL_law_414 (by decide) (fun _ => ?_) (fun q => absurd rfl q)
  exact K _ _ _ _ _ hLW hR hl

set_option maxHeartbeats 4000000 in
set_option maxRecDepth 100000 in
theorem cs_7 {p : Program} {e : Env} {s : State} {m : MethodId} {below : List Frame} {meth : Method} {c : Code} (l : Launch) {b L : Nat} {xs : Nat → Int32} (hL : L ≤ 3072) (C0 : lw_At p s m meth c b L xs) {D : va_G} {ca ca' : Nat → ClassId} {ad ad' : Nat → Nat} (hLK : LK D ca ca' ad ad' s) {i : Nat} (hi : i + 6 ≤ L) {σ1 σ2 : Sg} {H : Heap} {locs : List Loc} {ls : Array Slot} (hLW : LW D ca ca' ad ad' σ1 σ2 s H locs) (hR : R2 σ1 σ2) (hl : lv_has ls 4 [(0, .ref b), (1, .ref (ad 0)), (2, .ref (ad' 0)), (3, .int (nI i))]) (K : ∀ (σ1 σ2 : Sg) (H : Heap) (locs : List Loc) (ls : Array Slot), LW D ca ca' ad ad' σ1 σ2 s H locs → R2 σ1 σ2 → lv_has ls 4 [(0, .ref b), (1, .ref (ad 0)), (2, .ref (ad' 0)), (3, .int (nI i))] → W p l e room_1 s m #[Value.ref b] below meth c H locs 52 800 (lw_Z below #[Value.ref b] s) (F0 m 1120 ls [])) : W p l e room_1 s m #[Value.ref b] below meth c H locs 52 800 (lw_Z below #[Value.ref b] s) (F0 m 419 ls []) := by
  obtain ⟨hx, hb, hr, hml, hown, hts0, hX, hbl, hlocks, hgv⟩ := id C0
  have hts : ∀ w ∈ wsL_law, w.before #[Value.ref b] s = true := fun w h => hts0 w (wsL_law_in w h)
  have hown : s.vm.findClass RL = some m.cls := hown
  have hbA : ¬ (fun q : Nat => s.heap.size ≤ q) b := Nat.not_le.mpr hbl
  obtain ⟨hK1, hK2, hX1, hi1, hi2, hb1, hb2, hdj⟩ := id hLK
  refine lv_aload_n hx hb dL_law_419 rfl (lv_at hl 1 rfl) ?_
  refine lv_aload_n hx hb dL_law_420 rfl (lv_at hl 0 rfl) ?_
  refine lv_iload_n hx hb dL_law_421 rfl (lv_at hl 3 rfl) ?_
  refine lv_iconst (v := nI 1) hx hb dL_law_422 (by decide) ?_
  refine xn_iadd hx hb dL_law_423 ?_
  refine va_sld hx hb hX hbl hbA hLW.2.2.2.2 (vp_in_nI (by omega) (by omega)) dL_law_424 ?_
  refine xn_eqi (y := xs (i + 1)) (by rw [nI_clamp (by omega)]) ?_
  refine lv_aload_n hx hb dL_law_425 rfl (lv_at hl 0 rfl) ?_
  refine lv_iload_n hx hb dL_law_426 rfl (lv_at hl 3 rfl) ?_
  refine lv_iconst (v := nI 2) hx hb dL_law_427 (by decide) ?_
  refine xn_iadd hx hb dL_law_428 ?_
  refine va_sld hx hb hX hbl hbA hLW.2.2.2.2 (vp_in_nI (by omega) (by omega)) dL_law_429 ?_
  refine xn_eqi (y := xs (i + 2)) (by rw [nI_clamp (by omega)]) ?_
  obtain ⟨P1, P2, k1, k2, hag⟩ := ag_hands l (D := D) (ca := ca) (ca' := ca') hi1 hi2 hR (xs (i + 1)) (xs (i + 2))
  refine lc_1i (va_runV (As := [.int (xs (i + 1)), .int (xs (i + 2))]) (rest := []) ⟨hx, hb, hml, hown, hts⟩ k1 (cwV 2 hts gL_law_X6_hands rfl rfl rfl (by decide +kernel) ⟨Nat.le_of_ble_eq_true rfl, Nat.le_of_ble_eq_true rfl⟩) (xk_preV X1_ok hK1 hX1 hLW.1 (xk_recv hK1 hLW.1 0 (by omega) (ci := 6) e1_well rfl)) rfl rfl hl.1 rfl (lv_room (Nat.le_of_ble_eq_true rfl)) dL_law_430 ⟨Nat.le_of_ble_eq_true rfl, Nat.le_of_ble_eq_true rfl⟩) hLK hLW (fun r1 u1 H locs hp1 hLW => ?_)
  refine lv_aload_n hx hb dL_law_433 rfl (lv_at hl 2 rfl) ?_
  refine lv_aload_n hx hb dL_law_434 rfl (lv_at hl 0 rfl) ?_
  refine lv_iload_n hx hb dL_law_435 rfl (lv_at hl 3 rfl) ?_
  refine lv_iconst (v := nI 1) hx hb dL_law_436 (by decide) ?_
  refine xn_iadd hx hb dL_law_437 ?_
  refine va_sld hx hb hX hbl hbA hLW.2.2.2.2 (vp_in_nI (by omega) (by omega)) dL_law_438 ?_
  refine xn_eqi (y := xs (i + 1)) (by rw [nI_clamp (by omega)]) ?_
  refine lv_aload_n hx hb dL_law_439 rfl (lv_at hl 0 rfl) ?_
  refine lv_iload_n hx hb dL_law_440 rfl (lv_at hl 3 rfl) ?_
  refine lv_iconst (v := nI 2) hx hb dL_law_441 (by decide) ?_
  refine xn_iadd hx hb dL_law_442 ?_
  refine va_sld hx hb hX hbl hbA hLW.2.2.2.2 (vp_in_nI (by omega) (by omega)) dL_law_443 ?_
  refine xn_eqi (y := xs (i + 2)) (by rw [nI_clamp (by omega)]) ?_
  refine lc_2i (va_runV (As := [.int (xs (i + 1)), .int (xs (i + 2))]) (rest := [.int r1]) ⟨hx, hb, hml, hown, hts⟩ k2 (cwV 2 hts gL_law_X7_hands rfl rfl rfl (by decide +kernel) ⟨Nat.le_of_ble_eq_true rfl, Nat.le_of_ble_eq_true rfl⟩) (xk_preV X2_ok hK2 trivial hLW.2.1 (xk_recv hK2 hLW.2.1 0 (by omega) (ci := 7) e2_obj rfl)) rfl rfl hl.1 rfl (lv_room (Nat.le_of_ble_eq_true rfl)) dL_law_444 ⟨Nat.le_of_ble_eq_true rfl, Nat.le_of_ble_eq_true rfl⟩) hLK hLW (fun r2 u2 H locs hp2 hLW => ?_)
  obtain ⟨rfl, hR⟩ := hag _ _ _ _ hp1 hp2
  refine lv_icmp_eq (tgt := 1120) hx hb dL_law_447 (by decide) (fun _ => ?_) (fun q => absurd rfl q)
  exact K _ _ _ _ _ hLW hR hl

set_option maxHeartbeats 4000000 in
set_option maxRecDepth 100000 in
theorem cs_8 {p : Program} {e : Env} {s : State} {m : MethodId} {below : List Frame} {meth : Method} {c : Code} (l : Launch) {b L : Nat} {xs : Nat → Int32} (hL : L ≤ 3072) (C0 : lw_At p s m meth c b L xs) {D : va_G} {ca ca' : Nat → ClassId} {ad ad' : Nat → Nat} (hLK : LK D ca ca' ad ad' s) {i : Nat} (hi : i + 6 ≤ L) {σ1 σ2 : Sg} {H : Heap} {locs : List Loc} {ls : Array Slot} (hLW : LW D ca ca' ad ad' σ1 σ2 s H locs) (hR : R2 σ1 σ2) (hl : lv_has ls 4 [(0, .ref b), (1, .ref (ad 0)), (2, .ref (ad' 0)), (3, .int (nI i))]) (K : ∀ (σ1 σ2 : Sg) (H : Heap) (locs : List Loc) (ls : Array Slot), LW D ca ca' ad ad' σ1 σ2 s H locs → R2 σ1 σ2 → lv_has ls 4 [(0, .ref b), (1, .ref (ad 0)), (2, .ref (ad' 0)), (3, .int (nI i))] → W p l e room_1 s m #[Value.ref b] below meth c H locs 52 800 (lw_Z below #[Value.ref b] s) (F0 m 1120 ls [])) : W p l e room_1 s m #[Value.ref b] below meth c H locs 52 800 (lw_Z below #[Value.ref b] s) (F0 m 452 ls []) := by
  obtain ⟨hx, hb, hr, hml, hown, hts0, hX, hbl, hlocks, hgv⟩ := id C0
  have hts : ∀ w ∈ wsL_law, w.before #[Value.ref b] s = true := fun w h => hts0 w (wsL_law_in w h)
  have hown : s.vm.findClass RL = some m.cls := hown
  have hbA : ¬ (fun q : Nat => s.heap.size ≤ q) b := Nat.not_le.mpr hbl
  obtain ⟨hK1, hK2, hX1, hi1, hi2, hb1, hb2, hdj⟩ := id hLK
  refine lv_aload_n hx hb dL_law_452 rfl (lv_at hl 1 rfl) ?_
  refine lv_aload_n hx hb dL_law_453 rfl (lv_at hl 0 rfl) ?_
  refine lv_iload_n hx hb dL_law_454 rfl (lv_at hl 3 rfl) ?_
  refine lv_iconst (v := nI 1) hx hb dL_law_455 (by decide) ?_
  refine xn_iadd hx hb dL_law_456 ?_
  refine va_sld hx hb hX hbl hbA hLW.2.2.2.2 (vp_in_nI (by omega) (by omega)) dL_law_457 ?_
  refine xn_eqi (y := xs (i + 1)) (by rw [nI_clamp (by omega)]) ?_
  obtain ⟨P1, P2, k1, k2, hag⟩ := ag_home l (D := D) (ca := ca) (ca' := ca') hi1 hi2 hR (xs (i + 1))
  refine lc_1i (va_runV (As := [.int (xs (i + 1))]) (rest := []) ⟨hx, hb, hml, hown, hts⟩ k1 (cwV 1 hts gL_law_X6_home rfl rfl rfl (by decide +kernel) ⟨Nat.le_of_ble_eq_true rfl, Nat.le_of_ble_eq_true rfl⟩) (xk_preV X1_ok hK1 hX1 hLW.1 (xk_recv hK1 hLW.1 0 (by omega) (ci := 6) e1_well rfl)) rfl rfl hl.1 rfl (lv_room (Nat.le_of_ble_eq_true rfl)) dL_law_458 ⟨Nat.le_of_ble_eq_true rfl, Nat.le_of_ble_eq_true rfl⟩) hLK hLW (fun r1 u1 H locs hp1 hLW => ?_)
  refine lv_aload_n hx hb dL_law_461 rfl (lv_at hl 2 rfl) ?_
  refine lv_aload_n hx hb dL_law_462 rfl (lv_at hl 0 rfl) ?_
  refine lv_iload_n hx hb dL_law_463 rfl (lv_at hl 3 rfl) ?_
  refine lv_iconst (v := nI 1) hx hb dL_law_464 (by decide) ?_
  refine xn_iadd hx hb dL_law_465 ?_
  refine va_sld hx hb hX hbl hbA hLW.2.2.2.2 (vp_in_nI (by omega) (by omega)) dL_law_466 ?_
  refine xn_eqi (y := xs (i + 1)) (by rw [nI_clamp (by omega)]) ?_
  refine lc_2i (va_runV (As := [.int (xs (i + 1))]) (rest := [.int r1]) ⟨hx, hb, hml, hown, hts⟩ k2 (cwV 1 hts gL_law_X7_home rfl rfl rfl (by decide +kernel) ⟨Nat.le_of_ble_eq_true rfl, Nat.le_of_ble_eq_true rfl⟩) (xk_preV X2_ok hK2 trivial hLW.2.1 (xk_recv hK2 hLW.2.1 0 (by omega) (ci := 7) e2_obj rfl)) rfl rfl hl.1 rfl (lv_room (Nat.le_of_ble_eq_true rfl)) dL_law_467 ⟨Nat.le_of_ble_eq_true rfl, Nat.le_of_ble_eq_true rfl⟩) hLK hLW (fun r2 u2 H locs hp2 hLW => ?_)
  obtain ⟨rfl, hR⟩ := hag _ _ _ _ hp1 hp2
  refine lv_icmp_eq (tgt := 1120) hx hb dL_law_470 (by decide) (fun _ => ?_) (fun q => absurd rfl q)
  exact K _ _ _ _ _ hLW hR hl

set_option maxHeartbeats 4000000 in
set_option maxRecDepth 100000 in
theorem cs_9 {p : Program} {e : Env} {s : State} {m : MethodId} {below : List Frame} {meth : Method} {c : Code} (l : Launch) {b L : Nat} {xs : Nat → Int32} (hL : L ≤ 3072) (C0 : lw_At p s m meth c b L xs) {D : va_G} {ca ca' : Nat → ClassId} {ad ad' : Nat → Nat} (hLK : LK D ca ca' ad ad' s) {i : Nat} (hi : i + 6 ≤ L) {σ1 σ2 : Sg} {H : Heap} {locs : List Loc} {ls : Array Slot} (hLW : LW D ca ca' ad ad' σ1 σ2 s H locs) (hR : R2 σ1 σ2) (hl : lv_has ls 4 [(0, .ref b), (1, .ref (ad 0)), (2, .ref (ad' 0)), (3, .int (nI i))]) (K : ∀ (σ1 σ2 : Sg) (H : Heap) (locs : List Loc) (ls : Array Slot), LW D ca ca' ad ad' σ1 σ2 s H locs → R2 σ1 σ2 → lv_has ls 4 [(0, .ref b), (1, .ref (ad 0)), (2, .ref (ad' 0)), (3, .int (nI i))] → W p l e room_1 s m #[Value.ref b] below meth c H locs 52 800 (lw_Z below #[Value.ref b] s) (F0 m 1120 ls [])) : W p l e room_1 s m #[Value.ref b] below meth c H locs 52 800 (lw_Z below #[Value.ref b] s) (F0 m 475 ls []) := by
  obtain ⟨hx, hb, hr, hml, hown, hts0, hX, hbl, hlocks, hgv⟩ := id C0
  have hts : ∀ w ∈ wsL_law, w.before #[Value.ref b] s = true := fun w h => hts0 w (wsL_law_in w h)
  have hown : s.vm.findClass RL = some m.cls := hown
  have hbA : ¬ (fun q : Nat => s.heap.size ≤ q) b := Nat.not_le.mpr hbl
  obtain ⟨hK1, hK2, hX1, hi1, hi2, hb1, hb2, hdj⟩ := id hLK
  refine lv_aload_n hx hb dL_law_475 rfl (lv_at hl 1 rfl) ?_
  refine lv_aload_n hx hb dL_law_476 rfl (lv_at hl 0 rfl) ?_
  refine lv_iload_n hx hb dL_law_477 rfl (lv_at hl 3 rfl) ?_
  refine lv_iconst (v := nI 1) hx hb dL_law_478 (by decide) ?_
  refine xn_iadd hx hb dL_law_479 ?_
  refine va_sld hx hb hX hbl hbA hLW.2.2.2.2 (vp_in_nI (by omega) (by omega)) dL_law_480 ?_
  refine xn_eqi (y := xs (i + 1)) (by rw [nI_clamp (by omega)]) ?_
  obtain ⟨P1, P2, k1, k2, hag⟩ := ag_meets l (D := D) (ca := ca) (ca' := ca') hi1 hi2 hR (xs (i + 1))
  refine lc_1i (va_runV (As := [.int (xs (i + 1))]) (rest := []) ⟨hx, hb, hml, hown, hts⟩ k1 (cwV 1 hts gL_law_X6_meets rfl rfl rfl (by decide +kernel) ⟨Nat.le_of_ble_eq_true rfl, Nat.le_of_ble_eq_true rfl⟩) (xk_preV X1_ok hK1 hX1 hLW.1 (xk_recv hK1 hLW.1 0 (by omega) (ci := 6) e1_well rfl)) rfl rfl hl.1 rfl (lv_room (Nat.le_of_ble_eq_true rfl)) dL_law_481 ⟨Nat.le_of_ble_eq_true rfl, Nat.le_of_ble_eq_true rfl⟩) hLK hLW (fun r1 u1 H locs hp1 hLW => ?_)
  refine lv_aload_n hx hb dL_law_484 rfl (lv_at hl 2 rfl) ?_
  refine lv_aload_n hx hb dL_law_485 rfl (lv_at hl 0 rfl) ?_
  refine lv_iload_n hx hb dL_law_486 rfl (lv_at hl 3 rfl) ?_
  refine lv_iconst (v := nI 1) hx hb dL_law_487 (by decide) ?_
  refine xn_iadd hx hb dL_law_488 ?_
  refine va_sld hx hb hX hbl hbA hLW.2.2.2.2 (vp_in_nI (by omega) (by omega)) dL_law_489 ?_
  refine xn_eqi (y := xs (i + 1)) (by rw [nI_clamp (by omega)]) ?_
  refine lc_2i (va_runV (As := [.int (xs (i + 1))]) (rest := [.int r1]) ⟨hx, hb, hml, hown, hts⟩ k2 (cwV 1 hts gL_law_X7_meets rfl rfl rfl (by decide +kernel) ⟨Nat.le_of_ble_eq_true rfl, Nat.le_of_ble_eq_true rfl⟩) (xk_preV X2_ok hK2 trivial hLW.2.1 (xk_recv hK2 hLW.2.1 0 (by omega) (ci := 7) e2_obj rfl)) rfl rfl hl.1 rfl (lv_room (Nat.le_of_ble_eq_true rfl)) dL_law_490 ⟨Nat.le_of_ble_eq_true rfl, Nat.le_of_ble_eq_true rfl⟩) hLK hLW (fun r2 u2 H locs hp2 hLW => ?_)
  obtain ⟨rfl, hR⟩ := hag _ _ _ _ hp1 hp2
  refine lv_icmp_eq (tgt := 1120) hx hb dL_law_493 (by decide) (fun _ => ?_) (fun q => absurd rfl q)
  exact K _ _ _ _ _ hLW hR hl

set_option maxHeartbeats 4000000 in
set_option maxRecDepth 100000 in
theorem cs_10 {p : Program} {e : Env} {s : State} {m : MethodId} {below : List Frame} {meth : Method} {c : Code} (l : Launch) {b L : Nat} {xs : Nat → Int32} (hL : L ≤ 3072) (C0 : lw_At p s m meth c b L xs) {D : va_G} {ca ca' : Nat → ClassId} {ad ad' : Nat → Nat} (hLK : LK D ca ca' ad ad' s) {i : Nat} (hi : i + 6 ≤ L) {σ1 σ2 : Sg} {H : Heap} {locs : List Loc} {ls : Array Slot} (hLW : LW D ca ca' ad ad' σ1 σ2 s H locs) (hR : R2 σ1 σ2) (hl : lv_has ls 4 [(0, .ref b), (1, .ref (ad 0)), (2, .ref (ad' 0)), (3, .int (nI i))]) (K : ∀ (σ1 σ2 : Sg) (H : Heap) (locs : List Loc) (ls : Array Slot), LW D ca ca' ad ad' σ1 σ2 s H locs → R2 σ1 σ2 → lv_has ls 4 [(0, .ref b), (1, .ref (ad 0)), (2, .ref (ad' 0)), (3, .int (nI i))] → W p l e room_1 s m #[Value.ref b] below meth c H locs 52 800 (lw_Z below #[Value.ref b] s) (F0 m 1120 ls [])) : W p l e room_1 s m #[Value.ref b] below meth c H locs 52 800 (lw_Z below #[Value.ref b] s) (F0 m 498 ls []) := by
  obtain ⟨hx, hb, hr, hml, hown, hts0, hX, hbl, hlocks, hgv⟩ := id C0
  have hts : ∀ w ∈ wsL_law, w.before #[Value.ref b] s = true := fun w h => hts0 w (wsL_law_in w h)
  have hown : s.vm.findClass RL = some m.cls := hown
  have hbA : ¬ (fun q : Nat => s.heap.size ≤ q) b := Nat.not_le.mpr hbl
  obtain ⟨hK1, hK2, hX1, hi1, hi2, hb1, hb2, hdj⟩ := id hLK
  refine lv_aload_n hx hb dL_law_498 rfl (lv_at hl 1 rfl) ?_
  refine lv_aload_n hx hb dL_law_499 rfl (lv_at hl 0 rfl) ?_
  refine lv_iload_n hx hb dL_law_500 rfl (lv_at hl 3 rfl) ?_
  refine lv_iconst (v := nI 1) hx hb dL_law_501 (by decide) ?_
  refine xn_iadd hx hb dL_law_502 ?_
  refine va_sld hx hb hX hbl hbA hLW.2.2.2.2 (vp_in_nI (by omega) (by omega)) dL_law_503 ?_
  refine xn_eqi (y := xs (i + 1)) (by rw [nI_clamp (by omega)]) ?_
  refine lv_aload_n hx hb dL_law_504 rfl (lv_at hl 0 rfl) ?_
  refine lv_iload_n hx hb dL_law_505 rfl (lv_at hl 3 rfl) ?_
  refine lv_iconst (v := nI 2) hx hb dL_law_506 (by decide) ?_
  refine xn_iadd hx hb dL_law_507 ?_
  refine va_sld hx hb hX hbl hbA hLW.2.2.2.2 (vp_in_nI (by omega) (by omega)) dL_law_508 ?_
  refine xn_eqi (y := xs (i + 2)) (by rw [nI_clamp (by omega)]) ?_
  refine lv_aload_n hx hb dL_law_509 rfl (lv_at hl 0 rfl) ?_
  refine lv_iload_n hx hb dL_law_510 rfl (lv_at hl 3 rfl) ?_
  refine lv_iconst (v := nI 3) hx hb dL_law_511 (by decide) ?_
  refine xn_iadd hx hb dL_law_512 ?_
  refine va_sld hx hb hX hbl hbA hLW.2.2.2.2 (vp_in_nI (by omega) (by omega)) dL_law_513 ?_
  refine xn_eqi (y := xs (i + 3)) (by rw [nI_clamp (by omega)]) ?_
  refine lv_aload_n hx hb dL_law_514 rfl (lv_at hl 0 rfl) ?_
  refine lv_iload_n hx hb dL_law_515 rfl (lv_at hl 3 rfl) ?_
  refine lv_iconst (v := nI 4) hx hb dL_law_516 (by decide) ?_
  refine xn_iadd hx hb dL_law_517 ?_
  refine va_sld hx hb hX hbl hbA hLW.2.2.2.2 (vp_in_nI (by omega) (by omega)) dL_law_518 ?_
  refine xn_eqi (y := xs (i + 4)) (by rw [nI_clamp (by omega)]) ?_
  refine lv_aload_n hx hb dL_law_519 rfl (lv_at hl 0 rfl) ?_
  refine lv_iload_n hx hb dL_law_520 rfl (lv_at hl 3 rfl) ?_
  refine lv_iconst (v := nI 5) hx hb dL_law_521 (by decide) ?_
  refine xn_iadd hx hb dL_law_522 ?_
  refine va_sld hx hb hX hbl hbA hLW.2.2.2.2 (vp_in_nI (by omega) (by omega)) dL_law_523 ?_
  refine xn_eqi (y := xs (i + 5)) (by rw [nI_clamp (by omega)]) ?_
  obtain ⟨P1, P2, k1, k2, hag⟩ := ag_hours l (D := D) (ca := ca) (ca' := ca') hi1 hi2 hR (xs (i + 1)) (xs (i + 2)) (xs (i + 3)) (xs (i + 4)) (xs (i + 5))
  refine lc_1i (va_runV (As := [.int (xs (i + 1)), .int (xs (i + 2)), .int (xs (i + 3)), .int (xs (i + 4)), .int (xs (i + 5))]) (rest := []) ⟨hx, hb, hml, hown, hts⟩ k1 (cwV 5 hts gL_law_X6_hours rfl rfl rfl (by decide +kernel) ⟨Nat.le_of_ble_eq_true rfl, Nat.le_of_ble_eq_true rfl⟩) (xk_preV X1_ok hK1 hX1 hLW.1 (xk_recv hK1 hLW.1 0 (by omega) (ci := 6) e1_well rfl)) rfl rfl hl.1 rfl (lv_room (Nat.le_of_ble_eq_true rfl)) dL_law_524 ⟨Nat.le_of_ble_eq_true rfl, Nat.le_of_ble_eq_true rfl⟩) hLK hLW (fun r1 u1 H locs hp1 hLW => ?_)
  refine lv_aload_n hx hb dL_law_527 rfl (lv_at hl 2 rfl) ?_
  refine lv_aload_n hx hb dL_law_528 rfl (lv_at hl 0 rfl) ?_
  refine lv_iload_n hx hb dL_law_529 rfl (lv_at hl 3 rfl) ?_
  refine lv_iconst (v := nI 1) hx hb dL_law_530 (by decide) ?_
  refine xn_iadd hx hb dL_law_531 ?_
  refine va_sld hx hb hX hbl hbA hLW.2.2.2.2 (vp_in_nI (by omega) (by omega)) dL_law_532 ?_
  refine xn_eqi (y := xs (i + 1)) (by rw [nI_clamp (by omega)]) ?_
  refine lv_aload_n hx hb dL_law_533 rfl (lv_at hl 0 rfl) ?_
  refine lv_iload_n hx hb dL_law_534 rfl (lv_at hl 3 rfl) ?_
  refine lv_iconst (v := nI 2) hx hb dL_law_535 (by decide) ?_
  refine xn_iadd hx hb dL_law_536 ?_
  refine va_sld hx hb hX hbl hbA hLW.2.2.2.2 (vp_in_nI (by omega) (by omega)) dL_law_537 ?_
  refine xn_eqi (y := xs (i + 2)) (by rw [nI_clamp (by omega)]) ?_
  refine lv_aload_n hx hb dL_law_538 rfl (lv_at hl 0 rfl) ?_
  refine lv_iload_n hx hb dL_law_539 rfl (lv_at hl 3 rfl) ?_
  refine lv_iconst (v := nI 3) hx hb dL_law_540 (by decide) ?_
  refine xn_iadd hx hb dL_law_541 ?_
  refine va_sld hx hb hX hbl hbA hLW.2.2.2.2 (vp_in_nI (by omega) (by omega)) dL_law_542 ?_
  refine xn_eqi (y := xs (i + 3)) (by rw [nI_clamp (by omega)]) ?_
  refine lv_aload_n hx hb dL_law_543 rfl (lv_at hl 0 rfl) ?_
  refine lv_iload_n hx hb dL_law_544 rfl (lv_at hl 3 rfl) ?_
  refine lv_iconst (v := nI 4) hx hb dL_law_545 (by decide) ?_
  refine xn_iadd hx hb dL_law_546 ?_
  refine va_sld hx hb hX hbl hbA hLW.2.2.2.2 (vp_in_nI (by omega) (by omega)) dL_law_547 ?_
  refine xn_eqi (y := xs (i + 4)) (by rw [nI_clamp (by omega)]) ?_
  refine lv_aload_n hx hb dL_law_548 rfl (lv_at hl 0 rfl) ?_
  refine lv_iload_n hx hb dL_law_549 rfl (lv_at hl 3 rfl) ?_
  refine lv_iconst (v := nI 5) hx hb dL_law_550 (by decide) ?_
  refine xn_iadd hx hb dL_law_551 ?_
  refine va_sld hx hb hX hbl hbA hLW.2.2.2.2 (vp_in_nI (by omega) (by omega)) dL_law_552 ?_
  refine xn_eqi (y := xs (i + 5)) (by rw [nI_clamp (by omega)]) ?_
  refine lc_2i (va_runV (As := [.int (xs (i + 1)), .int (xs (i + 2)), .int (xs (i + 3)), .int (xs (i + 4)), .int (xs (i + 5))]) (rest := [.int r1]) ⟨hx, hb, hml, hown, hts⟩ k2 (cwV 5 hts gL_law_X7_hours rfl rfl rfl (by decide +kernel) ⟨Nat.le_of_ble_eq_true rfl, Nat.le_of_ble_eq_true rfl⟩) (xk_preV X2_ok hK2 trivial hLW.2.1 (xk_recv hK2 hLW.2.1 0 (by omega) (ci := 7) e2_obj rfl)) rfl rfl hl.1 rfl (lv_room (Nat.le_of_ble_eq_true rfl)) dL_law_553 ⟨Nat.le_of_ble_eq_true rfl, Nat.le_of_ble_eq_true rfl⟩) hLK hLW (fun r2 u2 H locs hp2 hLW => ?_)
  obtain ⟨rfl, hR⟩ := hag _ _ _ _ hp1 hp2
  refine lv_icmp_eq (tgt := 1120) hx hb dL_law_556 (by decide) (fun _ => ?_) (fun q => absurd rfl q)
  exact K _ _ _ _ _ hLW hR hl

set_option maxHeartbeats 4000000 in
set_option maxRecDepth 100000 in
theorem cs_11 {p : Program} {e : Env} {s : State} {m : MethodId} {below : List Frame} {meth : Method} {c : Code} (l : Launch) {b L : Nat} {xs : Nat → Int32} (hL : L ≤ 3072) (C0 : lw_At p s m meth c b L xs) {D : va_G} {ca ca' : Nat → ClassId} {ad ad' : Nat → Nat} (hLK : LK D ca ca' ad ad' s) {i : Nat} (hi : i + 6 ≤ L) {σ1 σ2 : Sg} {H : Heap} {locs : List Loc} {ls : Array Slot} (hLW : LW D ca ca' ad ad' σ1 σ2 s H locs) (hR : R2 σ1 σ2) (hl : lv_has ls 4 [(0, .ref b), (1, .ref (ad 0)), (2, .ref (ad' 0)), (3, .int (nI i))]) (K : ∀ (σ1 σ2 : Sg) (H : Heap) (locs : List Loc) (ls : Array Slot), LW D ca ca' ad ad' σ1 σ2 s H locs → R2 σ1 σ2 → lv_has ls 4 [(0, .ref b), (1, .ref (ad 0)), (2, .ref (ad' 0)), (3, .int (nI i))] → W p l e room_1 s m #[Value.ref b] below meth c H locs 52 800 (lw_Z below #[Value.ref b] s) (F0 m 1120 ls [])) : W p l e room_1 s m #[Value.ref b] below meth c H locs 52 800 (lw_Z below #[Value.ref b] s) (F0 m 561 ls []) := by
  obtain ⟨hx, hb, hr, hml, hown, hts0, hX, hbl, hlocks, hgv⟩ := id C0
  have hts : ∀ w ∈ wsL_law, w.before #[Value.ref b] s = true := fun w h => hts0 w (wsL_law_in w h)
  have hown : s.vm.findClass RL = some m.cls := hown
  have hbA : ¬ (fun q : Nat => s.heap.size ≤ q) b := Nat.not_le.mpr hbl
  obtain ⟨hK1, hK2, hX1, hi1, hi2, hb1, hb2, hdj⟩ := id hLK
  refine lv_aload_n hx hb dL_law_561 rfl (lv_at hl 1 rfl) ?_
  refine lv_aload_n hx hb dL_law_562 rfl (lv_at hl 0 rfl) ?_
  refine lv_iload_n hx hb dL_law_563 rfl (lv_at hl 3 rfl) ?_
  refine lv_iconst (v := nI 1) hx hb dL_law_564 (by decide) ?_
  refine xn_iadd hx hb dL_law_565 ?_
  refine va_sld hx hb hX hbl hbA hLW.2.2.2.2 (vp_in_nI (by omega) (by omega)) dL_law_566 ?_
  refine xn_eqi (y := xs (i + 1)) (by rw [nI_clamp (by omega)]) ?_
  refine lv_aload_n hx hb dL_law_567 rfl (lv_at hl 0 rfl) ?_
  refine lv_iload_n hx hb dL_law_568 rfl (lv_at hl 3 rfl) ?_
  refine lv_iconst (v := nI 2) hx hb dL_law_569 (by decide) ?_
  refine xn_iadd hx hb dL_law_570 ?_
  refine va_sld hx hb hX hbl hbA hLW.2.2.2.2 (vp_in_nI (by omega) (by omega)) dL_law_571 ?_
  refine xn_eqi (y := xs (i + 2)) (by rw [nI_clamp (by omega)]) ?_
  obtain ⟨P1, P2, k1, k2, hag⟩ := ag_when l (D := D) (ca := ca) (ca' := ca') hi1 hi2 hR (xs (i + 1)) (xs (i + 2))
  refine lc_1i (va_runV (As := [.int (xs (i + 1)), .int (xs (i + 2))]) (rest := []) ⟨hx, hb, hml, hown, hts⟩ k1 (cwV 2 hts gL_law_X6_when rfl rfl rfl (by decide +kernel) ⟨Nat.le_of_ble_eq_true rfl, Nat.le_of_ble_eq_true rfl⟩) (xk_preV X1_ok hK1 hX1 hLW.1 (xk_recv hK1 hLW.1 0 (by omega) (ci := 6) e1_well rfl)) rfl rfl hl.1 rfl (lv_room (Nat.le_of_ble_eq_true rfl)) dL_law_572 ⟨Nat.le_of_ble_eq_true rfl, Nat.le_of_ble_eq_true rfl⟩) hLK hLW (fun r1 u1 H locs hp1 hLW => ?_)
  refine lv_aload_n hx hb dL_law_575 rfl (lv_at hl 2 rfl) ?_
  refine lv_aload_n hx hb dL_law_576 rfl (lv_at hl 0 rfl) ?_
  refine lv_iload_n hx hb dL_law_577 rfl (lv_at hl 3 rfl) ?_
  refine lv_iconst (v := nI 1) hx hb dL_law_578 (by decide) ?_
  refine xn_iadd hx hb dL_law_579 ?_
  refine va_sld hx hb hX hbl hbA hLW.2.2.2.2 (vp_in_nI (by omega) (by omega)) dL_law_580 ?_
  refine xn_eqi (y := xs (i + 1)) (by rw [nI_clamp (by omega)]) ?_
  refine lv_aload_n hx hb dL_law_581 rfl (lv_at hl 0 rfl) ?_
  refine lv_iload_n hx hb dL_law_582 rfl (lv_at hl 3 rfl) ?_
  refine lv_iconst (v := nI 2) hx hb dL_law_583 (by decide) ?_
  refine xn_iadd hx hb dL_law_584 ?_
  refine va_sld hx hb hX hbl hbA hLW.2.2.2.2 (vp_in_nI (by omega) (by omega)) dL_law_585 ?_
  refine xn_eqi (y := xs (i + 2)) (by rw [nI_clamp (by omega)]) ?_
  refine lc_2i (va_runV (As := [.int (xs (i + 1)), .int (xs (i + 2))]) (rest := [.int r1]) ⟨hx, hb, hml, hown, hts⟩ k2 (cwV 2 hts gL_law_X7_when rfl rfl rfl (by decide +kernel) ⟨Nat.le_of_ble_eq_true rfl, Nat.le_of_ble_eq_true rfl⟩) (xk_preV X2_ok hK2 trivial hLW.2.1 (xk_recv hK2 hLW.2.1 0 (by omega) (ci := 7) e2_obj rfl)) rfl rfl hl.1 rfl (lv_room (Nat.le_of_ble_eq_true rfl)) dL_law_586 ⟨Nat.le_of_ble_eq_true rfl, Nat.le_of_ble_eq_true rfl⟩) hLK hLW (fun r2 u2 H locs hp2 hLW => ?_)
  obtain ⟨rfl, hR⟩ := hag _ _ _ _ hp1 hp2
  refine lv_icmp_eq (tgt := 1120) hx hb dL_law_589 (by decide) (fun _ => ?_) (fun q => absurd rfl q)
  exact K _ _ _ _ _ hLW hR hl

set_option maxHeartbeats 4000000 in
set_option maxRecDepth 100000 in
theorem cs_12 {p : Program} {e : Env} {s : State} {m : MethodId} {below : List Frame} {meth : Method} {c : Code} (l : Launch) {b L : Nat} {xs : Nat → Int32} (hL : L ≤ 3072) (C0 : lw_At p s m meth c b L xs) {D : va_G} {ca ca' : Nat → ClassId} {ad ad' : Nat → Nat} (hLK : LK D ca ca' ad ad' s) {i : Nat} (hi : i + 6 ≤ L) {σ1 σ2 : Sg} {H : Heap} {locs : List Loc} {ls : Array Slot} (hLW : LW D ca ca' ad ad' σ1 σ2 s H locs) (hR : R2 σ1 σ2) (hl : lv_has ls 4 [(0, .ref b), (1, .ref (ad 0)), (2, .ref (ad' 0)), (3, .int (nI i))]) (K : ∀ (σ1 σ2 : Sg) (H : Heap) (locs : List Loc) (ls : Array Slot), LW D ca ca' ad ad' σ1 σ2 s H locs → R2 σ1 σ2 → lv_has ls 4 [(0, .ref b), (1, .ref (ad 0)), (2, .ref (ad' 0)), (3, .int (nI i))] → W p l e room_1 s m #[Value.ref b] below meth c H locs 52 800 (lw_Z below #[Value.ref b] s) (F0 m 1120 ls [])) : W p l e room_1 s m #[Value.ref b] below meth c H locs 52 800 (lw_Z below #[Value.ref b] s) (F0 m 594 ls []) := by
  obtain ⟨hx, hb, hr, hml, hown, hts0, hX, hbl, hlocks, hgv⟩ := id C0
  have hts : ∀ w ∈ wsL_law, w.before #[Value.ref b] s = true := fun w h => hts0 w (wsL_law_in w h)
  have hown : s.vm.findClass RL = some m.cls := hown
  have hbA : ¬ (fun q : Nat => s.heap.size ≤ q) b := Nat.not_le.mpr hbl
  obtain ⟨hK1, hK2, hX1, hi1, hi2, hb1, hb2, hdj⟩ := id hLK
  refine lv_aload_n hx hb dL_law_594 rfl (lv_at hl 1 rfl) ?_
  refine lv_aload_n hx hb dL_law_595 rfl (lv_at hl 0 rfl) ?_
  refine lv_iload_n hx hb dL_law_596 rfl (lv_at hl 3 rfl) ?_
  refine lv_iconst (v := nI 1) hx hb dL_law_597 (by decide) ?_
  refine xn_iadd hx hb dL_law_598 ?_
  refine va_sld hx hb hX hbl hbA hLW.2.2.2.2 (vp_in_nI (by omega) (by omega)) dL_law_599 ?_
  refine xn_eqi (y := xs (i + 1)) (by rw [nI_clamp (by omega)]) ?_
  obtain ⟨P1, P2, k1, k2, hag⟩ := ag_best l (D := D) (ca := ca) (ca' := ca') hi1 hi2 hR (xs (i + 1))
  refine lc_1i (va_runV (As := [.int (xs (i + 1))]) (rest := []) ⟨hx, hb, hml, hown, hts⟩ k1 (cwV 1 hts gL_law_X6_best rfl rfl rfl (by decide +kernel) ⟨Nat.le_of_ble_eq_true rfl, Nat.le_of_ble_eq_true rfl⟩) (xk_preV X1_ok hK1 hX1 hLW.1 (xk_recv hK1 hLW.1 0 (by omega) (ci := 6) e1_well rfl)) rfl rfl hl.1 rfl (lv_room (Nat.le_of_ble_eq_true rfl)) dL_law_600 ⟨Nat.le_of_ble_eq_true rfl, Nat.le_of_ble_eq_true rfl⟩) hLK hLW (fun r1 u1 H locs hp1 hLW => ?_)
  refine lv_aload_n hx hb dL_law_603 rfl (lv_at hl 2 rfl) ?_
  refine lv_aload_n hx hb dL_law_604 rfl (lv_at hl 0 rfl) ?_
  refine lv_iload_n hx hb dL_law_605 rfl (lv_at hl 3 rfl) ?_
  refine lv_iconst (v := nI 1) hx hb dL_law_606 (by decide) ?_
  refine xn_iadd hx hb dL_law_607 ?_
  refine va_sld hx hb hX hbl hbA hLW.2.2.2.2 (vp_in_nI (by omega) (by omega)) dL_law_608 ?_
  refine xn_eqi (y := xs (i + 1)) (by rw [nI_clamp (by omega)]) ?_
  refine lc_2i (va_runV (As := [.int (xs (i + 1))]) (rest := [.int r1]) ⟨hx, hb, hml, hown, hts⟩ k2 (cwV 1 hts gL_law_X7_best rfl rfl rfl (by decide +kernel) ⟨Nat.le_of_ble_eq_true rfl, Nat.le_of_ble_eq_true rfl⟩) (xk_preV X2_ok hK2 trivial hLW.2.1 (xk_recv hK2 hLW.2.1 0 (by omega) (ci := 7) e2_obj rfl)) rfl rfl hl.1 rfl (lv_room (Nat.le_of_ble_eq_true rfl)) dL_law_609 ⟨Nat.le_of_ble_eq_true rfl, Nat.le_of_ble_eq_true rfl⟩) hLK hLW (fun r2 u2 H locs hp2 hLW => ?_)
  obtain ⟨rfl, hR⟩ := hag _ _ _ _ hp1 hp2
  refine lv_icmp_eq (tgt := 1120) hx hb dL_law_612 (by decide) (fun _ => ?_) (fun q => absurd rfl q)
  exact K _ _ _ _ _ hLW hR hl

set_option maxHeartbeats 4000000 in
set_option maxRecDepth 100000 in
theorem cs_13 {p : Program} {e : Env} {s : State} {m : MethodId} {below : List Frame} {meth : Method} {c : Code} (l : Launch) {b L : Nat} {xs : Nat → Int32} (hL : L ≤ 3072) (C0 : lw_At p s m meth c b L xs) {D : va_G} {ca ca' : Nat → ClassId} {ad ad' : Nat → Nat} (hLK : LK D ca ca' ad ad' s) {i : Nat} (hi : i + 6 ≤ L) {σ1 σ2 : Sg} {H : Heap} {locs : List Loc} {ls : Array Slot} (hLW : LW D ca ca' ad ad' σ1 σ2 s H locs) (hR : R2 σ1 σ2) (hl : lv_has ls 4 [(0, .ref b), (1, .ref (ad 0)), (2, .ref (ad' 0)), (3, .int (nI i))]) (K : ∀ (σ1 σ2 : Sg) (H : Heap) (locs : List Loc) (ls : Array Slot), LW D ca ca' ad ad' σ1 σ2 s H locs → R2 σ1 σ2 → lv_has ls 4 [(0, .ref b), (1, .ref (ad 0)), (2, .ref (ad' 0)), (3, .int (nI i))] → W p l e room_1 s m #[Value.ref b] below meth c H locs 52 800 (lw_Z below #[Value.ref b] s) (F0 m 1120 ls [])) : W p l e room_1 s m #[Value.ref b] below meth c H locs 52 800 (lw_Z below #[Value.ref b] s) (F0 m 617 ls []) := by
  obtain ⟨hx, hb, hr, hml, hown, hts0, hX, hbl, hlocks, hgv⟩ := id C0
  have hts : ∀ w ∈ wsL_law, w.before #[Value.ref b] s = true := fun w h => hts0 w (wsL_law_in w h)
  have hown : s.vm.findClass RL = some m.cls := hown
  have hbA : ¬ (fun q : Nat => s.heap.size ≤ q) b := Nat.not_le.mpr hbl
  obtain ⟨hK1, hK2, hX1, hi1, hi2, hb1, hb2, hdj⟩ := id hLK
  refine lv_aload_n hx hb dL_law_617 rfl (lv_at hl 1 rfl) ?_
  refine lv_aload_n hx hb dL_law_618 rfl (lv_at hl 0 rfl) ?_
  refine lv_iload_n hx hb dL_law_619 rfl (lv_at hl 3 rfl) ?_
  refine lv_iconst (v := nI 1) hx hb dL_law_620 (by decide) ?_
  refine xn_iadd hx hb dL_law_621 ?_
  refine va_sld hx hb hX hbl hbA hLW.2.2.2.2 (vp_in_nI (by omega) (by omega)) dL_law_622 ?_
  refine xn_eqi (y := xs (i + 1)) (by rw [nI_clamp (by omega)]) ?_
  refine lv_aload_n hx hb dL_law_623 rfl (lv_at hl 0 rfl) ?_
  refine lv_iload_n hx hb dL_law_624 rfl (lv_at hl 3 rfl) ?_
  refine lv_iconst (v := nI 2) hx hb dL_law_625 (by decide) ?_
  refine xn_iadd hx hb dL_law_626 ?_
  refine va_sld hx hb hX hbl hbA hLW.2.2.2.2 (vp_in_nI (by omega) (by omega)) dL_law_627 ?_
  refine xn_eqi (y := xs (i + 2)) (by rw [nI_clamp (by omega)]) ?_
  refine lv_aload_n hx hb dL_law_628 rfl (lv_at hl 0 rfl) ?_
  refine lv_iload_n hx hb dL_law_629 rfl (lv_at hl 3 rfl) ?_
  refine lv_iconst (v := nI 3) hx hb dL_law_630 (by decide) ?_
  refine xn_iadd hx hb dL_law_631 ?_
  refine va_sld hx hb hX hbl hbA hLW.2.2.2.2 (vp_in_nI (by omega) (by omega)) dL_law_632 ?_
  refine xn_eqi (y := xs (i + 3)) (by rw [nI_clamp (by omega)]) ?_
  obtain ⟨P1, P2, k1, k2, hag⟩ := ag_reading l (D := D) (ca := ca) (ca' := ca') hi1 hi2 hR (xs (i + 1)) (xs (i + 2)) (xs (i + 3))
  refine lc_1i (va_runV (As := [.int (xs (i + 1)), .int (xs (i + 2)), .int (xs (i + 3))]) (rest := []) ⟨hx, hb, hml, hown, hts⟩ k1 (cwV 3 hts gL_law_X6_reading rfl rfl rfl (by decide +kernel) ⟨Nat.le_of_ble_eq_true rfl, Nat.le_of_ble_eq_true rfl⟩) (xk_preV X1_ok hK1 hX1 hLW.1 (xk_recv hK1 hLW.1 0 (by omega) (ci := 6) e1_well rfl)) rfl rfl hl.1 rfl (lv_room (Nat.le_of_ble_eq_true rfl)) dL_law_633 ⟨Nat.le_of_ble_eq_true rfl, Nat.le_of_ble_eq_true rfl⟩) hLK hLW (fun r1 u1 H locs hp1 hLW => ?_)
  refine lv_aload_n hx hb dL_law_636 rfl (lv_at hl 2 rfl) ?_
  refine lv_aload_n hx hb dL_law_637 rfl (lv_at hl 0 rfl) ?_
  refine lv_iload_n hx hb dL_law_638 rfl (lv_at hl 3 rfl) ?_
  refine lv_iconst (v := nI 1) hx hb dL_law_639 (by decide) ?_
  refine xn_iadd hx hb dL_law_640 ?_
  refine va_sld hx hb hX hbl hbA hLW.2.2.2.2 (vp_in_nI (by omega) (by omega)) dL_law_641 ?_
  refine xn_eqi (y := xs (i + 1)) (by rw [nI_clamp (by omega)]) ?_
  refine lv_aload_n hx hb dL_law_642 rfl (lv_at hl 0 rfl) ?_
  refine lv_iload_n hx hb dL_law_643 rfl (lv_at hl 3 rfl) ?_
  refine lv_iconst (v := nI 2) hx hb dL_law_644 (by decide) ?_
  refine xn_iadd hx hb dL_law_645 ?_
  refine va_sld hx hb hX hbl hbA hLW.2.2.2.2 (vp_in_nI (by omega) (by omega)) dL_law_646 ?_
  refine xn_eqi (y := xs (i + 2)) (by rw [nI_clamp (by omega)]) ?_
  refine lv_aload_n hx hb dL_law_647 rfl (lv_at hl 0 rfl) ?_
  refine lv_iload_n hx hb dL_law_648 rfl (lv_at hl 3 rfl) ?_
  refine lv_iconst (v := nI 3) hx hb dL_law_649 (by decide) ?_
  refine xn_iadd hx hb dL_law_650 ?_
  refine va_sld hx hb hX hbl hbA hLW.2.2.2.2 (vp_in_nI (by omega) (by omega)) dL_law_651 ?_
  refine xn_eqi (y := xs (i + 3)) (by rw [nI_clamp (by omega)]) ?_
  refine lc_2i (va_runV (As := [.int (xs (i + 1)), .int (xs (i + 2)), .int (xs (i + 3))]) (rest := [.int r1]) ⟨hx, hb, hml, hown, hts⟩ k2 (cwV 3 hts gL_law_X7_reading rfl rfl rfl (by decide +kernel) ⟨Nat.le_of_ble_eq_true rfl, Nat.le_of_ble_eq_true rfl⟩) (xk_preV X2_ok hK2 trivial hLW.2.1 (xk_recv hK2 hLW.2.1 0 (by omega) (ci := 7) e2_obj rfl)) rfl rfl hl.1 rfl (lv_room (Nat.le_of_ble_eq_true rfl)) dL_law_652 ⟨Nat.le_of_ble_eq_true rfl, Nat.le_of_ble_eq_true rfl⟩) hLK hLW (fun r2 u2 H locs hp2 hLW => ?_)
  obtain ⟨rfl, hR⟩ := hag _ _ _ _ hp1 hp2
  refine lv_icmp_eq (tgt := 1120) hx hb dL_law_655 (by decide) (fun _ => ?_) (fun q => absurd rfl q)
  exact K _ _ _ _ _ hLW hR hl

set_option maxHeartbeats 4000000 in
set_option maxRecDepth 100000 in
theorem cs_14 {p : Program} {e : Env} {s : State} {m : MethodId} {below : List Frame} {meth : Method} {c : Code} (l : Launch) {b L : Nat} {xs : Nat → Int32} (hL : L ≤ 3072) (C0 : lw_At p s m meth c b L xs) {D : va_G} {ca ca' : Nat → ClassId} {ad ad' : Nat → Nat} (hLK : LK D ca ca' ad ad' s) {i : Nat} (hi : i + 6 ≤ L) {σ1 σ2 : Sg} {H : Heap} {locs : List Loc} {ls : Array Slot} (hLW : LW D ca ca' ad ad' σ1 σ2 s H locs) (hR : R2 σ1 σ2) (hl : lv_has ls 4 [(0, .ref b), (1, .ref (ad 0)), (2, .ref (ad' 0)), (3, .int (nI i))]) (K : ∀ (σ1 σ2 : Sg) (H : Heap) (locs : List Loc) (ls : Array Slot), LW D ca ca' ad ad' σ1 σ2 s H locs → R2 σ1 σ2 → lv_has ls 4 [(0, .ref b), (1, .ref (ad 0)), (2, .ref (ad' 0)), (3, .int (nI i))] → W p l e room_1 s m #[Value.ref b] below meth c H locs 52 800 (lw_Z below #[Value.ref b] s) (F0 m 1120 ls [])) : W p l e room_1 s m #[Value.ref b] below meth c H locs 52 800 (lw_Z below #[Value.ref b] s) (F0 m 660 ls []) := by
  obtain ⟨hx, hb, hr, hml, hown, hts0, hX, hbl, hlocks, hgv⟩ := id C0
  have hts : ∀ w ∈ wsL_law, w.before #[Value.ref b] s = true := fun w h => hts0 w (wsL_law_in w h)
  have hown : s.vm.findClass RL = some m.cls := hown
  have hbA : ¬ (fun q : Nat => s.heap.size ≤ q) b := Nat.not_le.mpr hbl
  obtain ⟨hK1, hK2, hX1, hi1, hi2, hb1, hb2, hdj⟩ := id hLK
  refine lv_aload_n hx hb dL_law_660 rfl (lv_at hl 1 rfl) ?_
  refine lv_aload_n hx hb dL_law_661 rfl (lv_at hl 0 rfl) ?_
  refine lv_iload_n hx hb dL_law_662 rfl (lv_at hl 3 rfl) ?_
  refine lv_iconst (v := nI 1) hx hb dL_law_663 (by decide) ?_
  refine xn_iadd hx hb dL_law_664 ?_
  refine va_sld hx hb hX hbl hbA hLW.2.2.2.2 (vp_in_nI (by omega) (by omega)) dL_law_665 ?_
  refine xn_eqi (y := xs (i + 1)) (by rw [nI_clamp (by omega)]) ?_
  obtain ⟨P1, P2, k1, k2, hag⟩ := ag_back l (D := D) (ca := ca) (ca' := ca') hi1 hi2 hR (xs (i + 1))
  refine lc_1i (va_runV (As := [.int (xs (i + 1))]) (rest := []) ⟨hx, hb, hml, hown, hts⟩ k1 (cwV 1 hts gL_law_X6_back rfl rfl rfl (by decide +kernel) ⟨Nat.le_of_ble_eq_true rfl, Nat.le_of_ble_eq_true rfl⟩) (xk_preV X1_ok hK1 hX1 hLW.1 (xk_recv hK1 hLW.1 0 (by omega) (ci := 6) e1_well rfl)) rfl rfl hl.1 rfl (lv_room (Nat.le_of_ble_eq_true rfl)) dL_law_666 ⟨Nat.le_of_ble_eq_true rfl, Nat.le_of_ble_eq_true rfl⟩) hLK hLW (fun r1 u1 H locs hp1 hLW => ?_)
  refine lv_aload_n hx hb dL_law_669 rfl (lv_at hl 2 rfl) ?_
  refine lv_aload_n hx hb dL_law_670 rfl (lv_at hl 0 rfl) ?_
  refine lv_iload_n hx hb dL_law_671 rfl (lv_at hl 3 rfl) ?_
  refine lv_iconst (v := nI 1) hx hb dL_law_672 (by decide) ?_
  refine xn_iadd hx hb dL_law_673 ?_
  refine va_sld hx hb hX hbl hbA hLW.2.2.2.2 (vp_in_nI (by omega) (by omega)) dL_law_674 ?_
  refine xn_eqi (y := xs (i + 1)) (by rw [nI_clamp (by omega)]) ?_
  refine lc_2i (va_runV (As := [.int (xs (i + 1))]) (rest := [.int r1]) ⟨hx, hb, hml, hown, hts⟩ k2 (cwV 1 hts gL_law_X7_back rfl rfl rfl (by decide +kernel) ⟨Nat.le_of_ble_eq_true rfl, Nat.le_of_ble_eq_true rfl⟩) (xk_preV X2_ok hK2 trivial hLW.2.1 (xk_recv hK2 hLW.2.1 0 (by omega) (ci := 7) e2_obj rfl)) rfl rfl hl.1 rfl (lv_room (Nat.le_of_ble_eq_true rfl)) dL_law_675 ⟨Nat.le_of_ble_eq_true rfl, Nat.le_of_ble_eq_true rfl⟩) hLK hLW (fun r2 u2 H locs hp2 hLW => ?_)
  obtain ⟨rfl, hR⟩ := hag _ _ _ _ hp1 hp2
  refine lv_icmp_eq (tgt := 1120) hx hb dL_law_678 (by decide) (fun _ => ?_) (fun q => absurd rfl q)
  exact K _ _ _ _ _ hLW hR hl

set_option maxHeartbeats 4000000 in
set_option maxRecDepth 100000 in
theorem cs_15 {p : Program} {e : Env} {s : State} {m : MethodId} {below : List Frame} {meth : Method} {c : Code} (l : Launch) {b L : Nat} {xs : Nat → Int32} (hL : L ≤ 3072) (C0 : lw_At p s m meth c b L xs) {D : va_G} {ca ca' : Nat → ClassId} {ad ad' : Nat → Nat} (hLK : LK D ca ca' ad ad' s) {i : Nat} (hi : i + 6 ≤ L) {σ1 σ2 : Sg} {H : Heap} {locs : List Loc} {ls : Array Slot} (hLW : LW D ca ca' ad ad' σ1 σ2 s H locs) (hR : R2 σ1 σ2) (hl : lv_has ls 4 [(0, .ref b), (1, .ref (ad 0)), (2, .ref (ad' 0)), (3, .int (nI i))]) (K : ∀ (σ1 σ2 : Sg) (H : Heap) (locs : List Loc) (ls : Array Slot), LW D ca ca' ad ad' σ1 σ2 s H locs → R2 σ1 σ2 → lv_has ls 4 [(0, .ref b), (1, .ref (ad 0)), (2, .ref (ad' 0)), (3, .int (nI i))] → W p l e room_1 s m #[Value.ref b] below meth c H locs 52 800 (lw_Z below #[Value.ref b] s) (F0 m 1120 ls [])) : W p l e room_1 s m #[Value.ref b] below meth c H locs 52 800 (lw_Z below #[Value.ref b] s) (F0 m 683 ls []) := by
  obtain ⟨hx, hb, hr, hml, hown, hts0, hX, hbl, hlocks, hgv⟩ := id C0
  have hts : ∀ w ∈ wsL_law, w.before #[Value.ref b] s = true := fun w h => hts0 w (wsL_law_in w h)
  have hown : s.vm.findClass RL = some m.cls := hown
  have hbA : ¬ (fun q : Nat => s.heap.size ≤ q) b := Nat.not_le.mpr hbl
  obtain ⟨hK1, hK2, hX1, hi1, hi2, hb1, hb2, hdj⟩ := id hLK
  refine lv_aload_n hx hb dL_law_683 rfl (lv_at hl 1 rfl) ?_
  refine lv_aload_n hx hb dL_law_684 rfl (lv_at hl 0 rfl) ?_
  refine lv_iload_n hx hb dL_law_685 rfl (lv_at hl 3 rfl) ?_
  refine lv_iconst (v := nI 1) hx hb dL_law_686 (by decide) ?_
  refine xn_iadd hx hb dL_law_687 ?_
  refine va_sld hx hb hX hbl hbA hLW.2.2.2.2 (vp_in_nI (by omega) (by omega)) dL_law_688 ?_
  refine xn_eqi (y := xs (i + 1)) (by rw [nI_clamp (by omega)]) ?_
  obtain ⟨P1, P2, k1, k2, hag⟩ := ag_weights l (D := D) (ca := ca) (ca' := ca') hi1 hi2 hR (xs (i + 1))
  refine lc_1i (va_runV (As := [.int (xs (i + 1))]) (rest := []) ⟨hx, hb, hml, hown, hts⟩ k1 (cwV 1 hts gL_law_X6_weights rfl rfl rfl (by decide +kernel) ⟨Nat.le_of_ble_eq_true rfl, Nat.le_of_ble_eq_true rfl⟩) (xk_preV X1_ok hK1 hX1 hLW.1 (xk_recv hK1 hLW.1 0 (by omega) (ci := 6) e1_well rfl)) rfl rfl hl.1 rfl (lv_room (Nat.le_of_ble_eq_true rfl)) dL_law_689 ⟨Nat.le_of_ble_eq_true rfl, Nat.le_of_ble_eq_true rfl⟩) hLK hLW (fun r1 u1 H locs hp1 hLW => ?_)
  refine lv_aload_n hx hb dL_law_692 rfl (lv_at hl 2 rfl) ?_
  refine lv_aload_n hx hb dL_law_693 rfl (lv_at hl 0 rfl) ?_
  refine lv_iload_n hx hb dL_law_694 rfl (lv_at hl 3 rfl) ?_
  refine lv_iconst (v := nI 1) hx hb dL_law_695 (by decide) ?_
  refine xn_iadd hx hb dL_law_696 ?_
  refine va_sld hx hb hX hbl hbA hLW.2.2.2.2 (vp_in_nI (by omega) (by omega)) dL_law_697 ?_
  refine xn_eqi (y := xs (i + 1)) (by rw [nI_clamp (by omega)]) ?_
  refine lc_2i (va_runV (As := [.int (xs (i + 1))]) (rest := [.int r1]) ⟨hx, hb, hml, hown, hts⟩ k2 (cwV 1 hts gL_law_X7_weights rfl rfl rfl (by decide +kernel) ⟨Nat.le_of_ble_eq_true rfl, Nat.le_of_ble_eq_true rfl⟩) (xk_preV X2_ok hK2 trivial hLW.2.1 (xk_recv hK2 hLW.2.1 0 (by omega) (ci := 7) e2_obj rfl)) rfl rfl hl.1 rfl (lv_room (Nat.le_of_ble_eq_true rfl)) dL_law_698 ⟨Nat.le_of_ble_eq_true rfl, Nat.le_of_ble_eq_true rfl⟩) hLK hLW (fun r2 u2 H locs hp2 hLW => ?_)
  obtain ⟨rfl, hR⟩ := hag _ _ _ _ hp1 hp2
  refine lv_icmp_eq (tgt := 1120) hx hb dL_law_701 (by decide) (fun _ => ?_) (fun q => absurd rfl q)
  exact K _ _ _ _ _ hLW hR hl

set_option maxHeartbeats 4000000 in
set_option maxRecDepth 100000 in
theorem cs_16 {p : Program} {e : Env} {s : State} {m : MethodId} {below : List Frame} {meth : Method} {c : Code} (l : Launch) {b L : Nat} {xs : Nat → Int32} (hL : L ≤ 3072) (C0 : lw_At p s m meth c b L xs) {D : va_G} {ca ca' : Nat → ClassId} {ad ad' : Nat → Nat} (hLK : LK D ca ca' ad ad' s) {i : Nat} (hi : i + 6 ≤ L) {σ1 σ2 : Sg} {H : Heap} {locs : List Loc} {ls : Array Slot} (hLW : LW D ca ca' ad ad' σ1 σ2 s H locs) (hR : R2 σ1 σ2) (hl : lv_has ls 4 [(0, .ref b), (1, .ref (ad 0)), (2, .ref (ad' 0)), (3, .int (nI i))]) (K : ∀ (σ1 σ2 : Sg) (H : Heap) (locs : List Loc) (ls : Array Slot), LW D ca ca' ad ad' σ1 σ2 s H locs → R2 σ1 σ2 → lv_has ls 4 [(0, .ref b), (1, .ref (ad 0)), (2, .ref (ad' 0)), (3, .int (nI i))] → W p l e room_1 s m #[Value.ref b] below meth c H locs 52 800 (lw_Z below #[Value.ref b] s) (F0 m 1120 ls [])) : W p l e room_1 s m #[Value.ref b] below meth c H locs 52 800 (lw_Z below #[Value.ref b] s) (F0 m 706 ls []) := by
  obtain ⟨hx, hb, hr, hml, hown, hts0, hX, hbl, hlocks, hgv⟩ := id C0
  have hts : ∀ w ∈ wsL_law, w.before #[Value.ref b] s = true := fun w h => hts0 w (wsL_law_in w h)
  have hown : s.vm.findClass RL = some m.cls := hown
  have hbA : ¬ (fun q : Nat => s.heap.size ≤ q) b := Nat.not_le.mpr hbl
  obtain ⟨hK1, hK2, hX1, hi1, hi2, hb1, hb2, hdj⟩ := id hLK
  refine lv_aload_n hx hb dL_law_706 rfl (lv_at hl 1 rfl) ?_
  refine lv_aload_n hx hb dL_law_707 rfl (lv_at hl 0 rfl) ?_
  refine lv_iload_n hx hb dL_law_708 rfl (lv_at hl 3 rfl) ?_
  refine lv_iconst (v := nI 1) hx hb dL_law_709 (by decide) ?_
  refine xn_iadd hx hb dL_law_710 ?_
  refine va_sld hx hb hX hbl hbA hLW.2.2.2.2 (vp_in_nI (by omega) (by omega)) dL_law_711 ?_
  refine xn_eqi (y := xs (i + 1)) (by rw [nI_clamp (by omega)]) ?_
  obtain ⟨P1, P2, k1, k2, hag⟩ := ag_kinds l (D := D) (ca := ca) (ca' := ca') hi1 hi2 hR (xs (i + 1))
  refine lc_1i (va_runV (As := [.int (xs (i + 1))]) (rest := []) ⟨hx, hb, hml, hown, hts⟩ k1 (cwV 1 hts gL_law_X6_kinds rfl rfl rfl (by decide +kernel) ⟨Nat.le_of_ble_eq_true rfl, Nat.le_of_ble_eq_true rfl⟩) (xk_preV X1_ok hK1 hX1 hLW.1 (xk_recv hK1 hLW.1 0 (by omega) (ci := 6) e1_well rfl)) rfl rfl hl.1 rfl (lv_room (Nat.le_of_ble_eq_true rfl)) dL_law_712 ⟨Nat.le_of_ble_eq_true rfl, Nat.le_of_ble_eq_true rfl⟩) hLK hLW (fun r1 u1 H locs hp1 hLW => ?_)
  refine lv_aload_n hx hb dL_law_715 rfl (lv_at hl 2 rfl) ?_
  refine lv_aload_n hx hb dL_law_716 rfl (lv_at hl 0 rfl) ?_
  refine lv_iload_n hx hb dL_law_717 rfl (lv_at hl 3 rfl) ?_
  refine lv_iconst (v := nI 1) hx hb dL_law_718 (by decide) ?_
  refine xn_iadd hx hb dL_law_719 ?_
  refine va_sld hx hb hX hbl hbA hLW.2.2.2.2 (vp_in_nI (by omega) (by omega)) dL_law_720 ?_
  refine xn_eqi (y := xs (i + 1)) (by rw [nI_clamp (by omega)]) ?_
  refine lc_2i (va_runV (As := [.int (xs (i + 1))]) (rest := [.int r1]) ⟨hx, hb, hml, hown, hts⟩ k2 (cwV 1 hts gL_law_X7_kinds rfl rfl rfl (by decide +kernel) ⟨Nat.le_of_ble_eq_true rfl, Nat.le_of_ble_eq_true rfl⟩) (xk_preV X2_ok hK2 trivial hLW.2.1 (xk_recv hK2 hLW.2.1 0 (by omega) (ci := 7) e2_obj rfl)) rfl rfl hl.1 rfl (lv_room (Nat.le_of_ble_eq_true rfl)) dL_law_721 ⟨Nat.le_of_ble_eq_true rfl, Nat.le_of_ble_eq_true rfl⟩) hLK hLW (fun r2 u2 H locs hp2 hLW => ?_)
  obtain ⟨rfl, hR⟩ := hag _ _ _ _ hp1 hp2
  refine lv_icmp_eq (tgt := 1120) hx hb dL_law_724 (by decide) (fun _ => ?_) (fun q => absurd rfl q)
  exact K _ _ _ _ _ hLW hR hl

set_option maxHeartbeats 4000000 in
set_option maxRecDepth 100000 in
theorem cs_17 {p : Program} {e : Env} {s : State} {m : MethodId} {below : List Frame} {meth : Method} {c : Code} (l : Launch) {b L : Nat} {xs : Nat → Int32} (hL : L ≤ 3072) (C0 : lw_At p s m meth c b L xs) {D : va_G} {ca ca' : Nat → ClassId} {ad ad' : Nat → Nat} (hLK : LK D ca ca' ad ad' s) {i : Nat} (hi : i + 6 ≤ L) {σ1 σ2 : Sg} {H : Heap} {locs : List Loc} {ls : Array Slot} (hLW : LW D ca ca' ad ad' σ1 σ2 s H locs) (hR : R2 σ1 σ2) (hl : lv_has ls 4 [(0, .ref b), (1, .ref (ad 0)), (2, .ref (ad' 0)), (3, .int (nI i))]) (K : ∀ (σ1 σ2 : Sg) (H : Heap) (locs : List Loc) (ls : Array Slot), LW D ca ca' ad ad' σ1 σ2 s H locs → R2 σ1 σ2 → lv_has ls 4 [(0, .ref b), (1, .ref (ad 0)), (2, .ref (ad' 0)), (3, .int (nI i))] → W p l e room_1 s m #[Value.ref b] below meth c H locs 52 800 (lw_Z below #[Value.ref b] s) (F0 m 1120 ls [])) : W p l e room_1 s m #[Value.ref b] below meth c H locs 52 800 (lw_Z below #[Value.ref b] s) (F0 m 729 ls []) := by
  obtain ⟨hx, hb, hr, hml, hown, hts0, hX, hbl, hlocks, hgv⟩ := id C0
  have hts : ∀ w ∈ wsL_law, w.before #[Value.ref b] s = true := fun w h => hts0 w (wsL_law_in w h)
  have hown : s.vm.findClass RL = some m.cls := hown
  have hbA : ¬ (fun q : Nat => s.heap.size ≤ q) b := Nat.not_le.mpr hbl
  obtain ⟨hK1, hK2, hX1, hi1, hi2, hb1, hb2, hdj⟩ := id hLK
  refine lv_aload_n hx hb dL_law_729 rfl (lv_at hl 1 rfl) ?_
  obtain ⟨P1, P2, k1, k2, hag⟩ := ag_depths l (D := D) (ca := ca) (ca' := ca') hi1 hi2 hR 
  refine lc_1i (va_runV (As := []) (rest := []) ⟨hx, hb, hml, hown, hts⟩ k1 (cwV 0 hts gL_law_X6_depths rfl rfl rfl (by decide +kernel) ⟨Nat.le_of_ble_eq_true rfl, Nat.le_of_ble_eq_true rfl⟩) (xk_preV X1_ok hK1 hX1 hLW.1 (xk_recv hK1 hLW.1 0 (by omega) (ci := 6) e1_well rfl)) rfl rfl hl.1 rfl (lv_room (Nat.le_of_ble_eq_true rfl)) dL_law_730 ⟨Nat.le_of_ble_eq_true rfl, Nat.le_of_ble_eq_true rfl⟩) hLK hLW (fun r1 u1 H locs hp1 hLW => ?_)
  refine lv_aload_n hx hb dL_law_733 rfl (lv_at hl 2 rfl) ?_
  refine lc_2i (va_runV (As := []) (rest := [.int r1]) ⟨hx, hb, hml, hown, hts⟩ k2 (cwV 0 hts gL_law_X7_depths rfl rfl rfl (by decide +kernel) ⟨Nat.le_of_ble_eq_true rfl, Nat.le_of_ble_eq_true rfl⟩) (xk_preV X2_ok hK2 trivial hLW.2.1 (xk_recv hK2 hLW.2.1 0 (by omega) (ci := 7) e2_obj rfl)) rfl rfl hl.1 rfl (lv_room (Nat.le_of_ble_eq_true rfl)) dL_law_734 ⟨Nat.le_of_ble_eq_true rfl, Nat.le_of_ble_eq_true rfl⟩) hLK hLW (fun r2 u2 H locs hp2 hLW => ?_)
  obtain ⟨rfl, hR⟩ := hag _ _ _ _ hp1 hp2
  refine lv_icmp_eq (tgt := 1120) hx hb dL_law_737 (by decide) (fun _ => ?_) (fun q => absurd rfl q)
  exact K _ _ _ _ _ hLW hR hl

set_option maxHeartbeats 4000000 in
set_option maxRecDepth 100000 in
theorem cs_18 {p : Program} {e : Env} {s : State} {m : MethodId} {below : List Frame} {meth : Method} {c : Code} (l : Launch) {b L : Nat} {xs : Nat → Int32} (hL : L ≤ 3072) (C0 : lw_At p s m meth c b L xs) {D : va_G} {ca ca' : Nat → ClassId} {ad ad' : Nat → Nat} (hLK : LK D ca ca' ad ad' s) {i : Nat} (hi : i + 6 ≤ L) {σ1 σ2 : Sg} {H : Heap} {locs : List Loc} {ls : Array Slot} (hLW : LW D ca ca' ad ad' σ1 σ2 s H locs) (hR : R2 σ1 σ2) (hl : lv_has ls 4 [(0, .ref b), (1, .ref (ad 0)), (2, .ref (ad' 0)), (3, .int (nI i))]) (K : ∀ (σ1 σ2 : Sg) (H : Heap) (locs : List Loc) (ls : Array Slot), LW D ca ca' ad ad' σ1 σ2 s H locs → R2 σ1 σ2 → lv_has ls 4 [(0, .ref b), (1, .ref (ad 0)), (2, .ref (ad' 0)), (3, .int (nI i))] → W p l e room_1 s m #[Value.ref b] below meth c H locs 52 800 (lw_Z below #[Value.ref b] s) (F0 m 1120 ls [])) : W p l e room_1 s m #[Value.ref b] below meth c H locs 52 800 (lw_Z below #[Value.ref b] s) (F0 m 742 ls []) := by
  obtain ⟨hx, hb, hr, hml, hown, hts0, hX, hbl, hlocks, hgv⟩ := id C0
  have hts : ∀ w ∈ wsL_law, w.before #[Value.ref b] s = true := fun w h => hts0 w (wsL_law_in w h)
  have hown : s.vm.findClass RL = some m.cls := hown
  have hbA : ¬ (fun q : Nat => s.heap.size ≤ q) b := Nat.not_le.mpr hbl
  obtain ⟨hK1, hK2, hX1, hi1, hi2, hb1, hb2, hdj⟩ := id hLK
  refine lv_aload_n hx hb dL_law_742 rfl (lv_at hl 1 rfl) ?_
  refine lv_aload_n hx hb dL_law_743 rfl (lv_at hl 0 rfl) ?_
  refine lv_iload_n hx hb dL_law_744 rfl (lv_at hl 3 rfl) ?_
  refine lv_iconst (v := nI 1) hx hb dL_law_745 (by decide) ?_
  refine xn_iadd hx hb dL_law_746 ?_
  refine va_sld hx hb hX hbl hbA hLW.2.2.2.2 (vp_in_nI (by omega) (by omega)) dL_law_747 ?_
  refine xn_eqi (y := xs (i + 1)) (by rw [nI_clamp (by omega)]) ?_
  refine lv_aload_n hx hb dL_law_748 rfl (lv_at hl 0 rfl) ?_
  refine lv_iload_n hx hb dL_law_749 rfl (lv_at hl 3 rfl) ?_
  refine lv_iconst (v := nI 2) hx hb dL_law_750 (by decide) ?_
  refine xn_iadd hx hb dL_law_751 ?_
  refine va_sld hx hb hX hbl hbA hLW.2.2.2.2 (vp_in_nI (by omega) (by omega)) dL_law_752 ?_
  refine xn_eqi (y := xs (i + 2)) (by rw [nI_clamp (by omega)]) ?_
  obtain ⟨P1, P2, k1, k2, hag⟩ := ag_odds l (D := D) (ca := ca) (ca' := ca') hi1 hi2 hR (xs (i + 1)) (xs (i + 2))
  refine lc_1l (va_runV (As := [.int (xs (i + 1)), .int (xs (i + 2))]) (rest := []) ⟨hx, hb, hml, hown, hts⟩ k1 (cwV 2 hts gL_law_X6_odds rfl rfl rfl (by decide +kernel) ⟨Nat.le_of_ble_eq_true rfl, Nat.le_of_ble_eq_true rfl⟩) (xk_preV X1_ok hK1 hX1 hLW.1 (xk_recv hK1 hLW.1 0 (by omega) (ci := 6) e1_well rfl)) rfl rfl hl.1 rfl (lv_room (Nat.le_of_ble_eq_true rfl)) dL_law_753 ⟨Nat.le_of_ble_eq_true rfl, Nat.le_of_ble_eq_true rfl⟩) hLK hLW (fun r1 u1 H locs hp1 hLW => ?_)
  refine lv_aload_n hx hb dL_law_756 rfl (lv_at hl 2 rfl) ?_
  refine lv_aload_n hx hb dL_law_757 rfl (lv_at hl 0 rfl) ?_
  refine lv_iload_n hx hb dL_law_758 rfl (lv_at hl 3 rfl) ?_
  refine lv_iconst (v := nI 1) hx hb dL_law_759 (by decide) ?_
  refine xn_iadd hx hb dL_law_760 ?_
  refine va_sld hx hb hX hbl hbA hLW.2.2.2.2 (vp_in_nI (by omega) (by omega)) dL_law_761 ?_
  refine xn_eqi (y := xs (i + 1)) (by rw [nI_clamp (by omega)]) ?_
  refine lv_aload_n hx hb dL_law_762 rfl (lv_at hl 0 rfl) ?_
  refine lv_iload_n hx hb dL_law_763 rfl (lv_at hl 3 rfl) ?_
  refine lv_iconst (v := nI 2) hx hb dL_law_764 (by decide) ?_
  refine xn_iadd hx hb dL_law_765 ?_
  refine va_sld hx hb hX hbl hbA hLW.2.2.2.2 (vp_in_nI (by omega) (by omega)) dL_law_766 ?_
  refine xn_eqi (y := xs (i + 2)) (by rw [nI_clamp (by omega)]) ?_
  refine lc_2l (va_runV (As := [.int (xs (i + 1)), .int (xs (i + 2))]) (rest := [.long r1]) ⟨hx, hb, hml, hown, hts⟩ k2 (cwV 2 hts gL_law_X7_odds rfl rfl rfl (by decide +kernel) ⟨Nat.le_of_ble_eq_true rfl, Nat.le_of_ble_eq_true rfl⟩) (xk_preV X2_ok hK2 trivial hLW.2.1 (xk_recv hK2 hLW.2.1 0 (by omega) (ci := 7) e2_obj rfl)) rfl rfl hl.1 rfl (lv_room (Nat.le_of_ble_eq_true rfl)) dL_law_767 ⟨Nat.le_of_ble_eq_true rfl, Nat.le_of_ble_eq_true rfl⟩) hLK hLW (fun r2 u2 H locs hp2 hLW => ?_)
  obtain ⟨rfl, hR⟩ := hag _ _ _ _ hp1 hp2
  refine xn_lcmpE hx hb rfl dL_law_770 ?_
  refine xn_zeq (tgt := 1120) hx hb dL_law_771 (by decide) (by omega) (fun c_771 => ?_) (fun c_771 => absurd c_771 (by omega))
  exact K _ _ _ _ _ hLW hR hl

set_option maxHeartbeats 4000000 in
set_option maxRecDepth 100000 in
theorem cs_19 {p : Program} {e : Env} {s : State} {m : MethodId} {below : List Frame} {meth : Method} {c : Code} (l : Launch) {b L : Nat} {xs : Nat → Int32} (hL : L ≤ 3072) (C0 : lw_At p s m meth c b L xs) {D : va_G} {ca ca' : Nat → ClassId} {ad ad' : Nat → Nat} (hLK : LK D ca ca' ad ad' s) {i : Nat} (hi : i + 6 ≤ L) {σ1 σ2 : Sg} {H : Heap} {locs : List Loc} {ls : Array Slot} (hLW : LW D ca ca' ad ad' σ1 σ2 s H locs) (hR : R2 σ1 σ2) (hl : lv_has ls 4 [(0, .ref b), (1, .ref (ad 0)), (2, .ref (ad' 0)), (3, .int (nI i))]) (K : ∀ (σ1 σ2 : Sg) (H : Heap) (locs : List Loc) (ls : Array Slot), LW D ca ca' ad ad' σ1 σ2 s H locs → R2 σ1 σ2 → lv_has ls 4 [(0, .ref b), (1, .ref (ad 0)), (2, .ref (ad' 0)), (3, .int (nI i))] → W p l e room_1 s m #[Value.ref b] below meth c H locs 52 800 (lw_Z below #[Value.ref b] s) (F0 m 1120 ls [])) : W p l e room_1 s m #[Value.ref b] below meth c H locs 52 800 (lw_Z below #[Value.ref b] s) (F0 m 776 ls []) := by
  obtain ⟨hx, hb, hr, hml, hown, hts0, hX, hbl, hlocks, hgv⟩ := id C0
  have hts : ∀ w ∈ wsL_law, w.before #[Value.ref b] s = true := fun w h => hts0 w (wsL_law_in w h)
  have hown : s.vm.findClass RL = some m.cls := hown
  have hbA : ¬ (fun q : Nat => s.heap.size ≤ q) b := Nat.not_le.mpr hbl
  obtain ⟨hK1, hK2, hX1, hi1, hi2, hb1, hb2, hdj⟩ := id hLK
  refine lv_aload_n hx hb dL_law_776 rfl (lv_at hl 1 rfl) ?_
  refine lv_aload_n hx hb dL_law_777 rfl (lv_at hl 0 rfl) ?_
  refine lv_iload_n hx hb dL_law_778 rfl (lv_at hl 3 rfl) ?_
  refine lv_iconst (v := nI 1) hx hb dL_law_779 (by decide) ?_
  refine xn_iadd hx hb dL_law_780 ?_
  refine va_sld hx hb hX hbl hbA hLW.2.2.2.2 (vp_in_nI (by omega) (by omega)) dL_law_781 ?_
  refine xn_eqi (y := xs (i + 1)) (by rw [nI_clamp (by omega)]) ?_
  refine lv_aload_n hx hb dL_law_782 rfl (lv_at hl 0 rfl) ?_
  refine lv_iload_n hx hb dL_law_783 rfl (lv_at hl 3 rfl) ?_
  refine lv_iconst (v := nI 2) hx hb dL_law_784 (by decide) ?_
  refine xn_iadd hx hb dL_law_785 ?_
  refine va_sld hx hb hX hbl hbA hLW.2.2.2.2 (vp_in_nI (by omega) (by omega)) dL_law_786 ?_
  refine xn_eqi (y := xs (i + 2)) (by rw [nI_clamp (by omega)]) ?_
  refine lv_aload_n hx hb dL_law_787 rfl (lv_at hl 0 rfl) ?_
  refine lv_iload_n hx hb dL_law_788 rfl (lv_at hl 3 rfl) ?_
  refine lv_iconst (v := nI 3) hx hb dL_law_789 (by decide) ?_
  refine xn_iadd hx hb dL_law_790 ?_
  refine va_sld hx hb hX hbl hbA hLW.2.2.2.2 (vp_in_nI (by omega) (by omega)) dL_law_791 ?_
  refine xn_eqi (y := xs (i + 3)) (by rw [nI_clamp (by omega)]) ?_
  obtain ⟨P1, P2, k1, k2, hag⟩ := ag_sheet l (D := D) (ca := ca) (ca' := ca') hi1 hi2 hR (xs (i + 1)) (xs (i + 2)) (xs (i + 3))
  refine lc_1i (va_runV (As := [.int (xs (i + 1)), .int (xs (i + 2)), .int (xs (i + 3))]) (rest := []) ⟨hx, hb, hml, hown, hts⟩ k1 (cwV 3 hts gL_law_X6_sheet rfl rfl rfl (by decide +kernel) ⟨Nat.le_of_ble_eq_true rfl, Nat.le_of_ble_eq_true rfl⟩) (xk_preV X1_ok hK1 hX1 hLW.1 (xk_recv hK1 hLW.1 0 (by omega) (ci := 6) e1_well rfl)) rfl rfl hl.1 rfl (lv_room (Nat.le_of_ble_eq_true rfl)) dL_law_792 ⟨Nat.le_of_ble_eq_true rfl, Nat.le_of_ble_eq_true rfl⟩) hLK hLW (fun r1 u1 H locs hp1 hLW => ?_)
  refine lv_aload_n hx hb dL_law_795 rfl (lv_at hl 2 rfl) ?_
  refine lv_aload_n hx hb dL_law_796 rfl (lv_at hl 0 rfl) ?_
  refine lv_iload_n hx hb dL_law_797 rfl (lv_at hl 3 rfl) ?_
  refine lv_iconst (v := nI 1) hx hb dL_law_798 (by decide) ?_
  refine xn_iadd hx hb dL_law_799 ?_
  refine va_sld hx hb hX hbl hbA hLW.2.2.2.2 (vp_in_nI (by omega) (by omega)) dL_law_800 ?_
  refine xn_eqi (y := xs (i + 1)) (by rw [nI_clamp (by omega)]) ?_
  refine lv_aload_n hx hb dL_law_801 rfl (lv_at hl 0 rfl) ?_
  refine lv_iload_n hx hb dL_law_802 rfl (lv_at hl 3 rfl) ?_
  refine lv_iconst (v := nI 2) hx hb dL_law_803 (by decide) ?_
  refine xn_iadd hx hb dL_law_804 ?_
  refine va_sld hx hb hX hbl hbA hLW.2.2.2.2 (vp_in_nI (by omega) (by omega)) dL_law_805 ?_
  refine xn_eqi (y := xs (i + 2)) (by rw [nI_clamp (by omega)]) ?_
  refine lv_aload_n hx hb dL_law_806 rfl (lv_at hl 0 rfl) ?_
  refine lv_iload_n hx hb dL_law_807 rfl (lv_at hl 3 rfl) ?_
  refine lv_iconst (v := nI 3) hx hb dL_law_808 (by decide) ?_
  refine xn_iadd hx hb dL_law_809 ?_
  refine va_sld hx hb hX hbl hbA hLW.2.2.2.2 (vp_in_nI (by omega) (by omega)) dL_law_810 ?_
  refine xn_eqi (y := xs (i + 3)) (by rw [nI_clamp (by omega)]) ?_
  refine lc_2i (va_runV (As := [.int (xs (i + 1)), .int (xs (i + 2)), .int (xs (i + 3))]) (rest := [.int r1]) ⟨hx, hb, hml, hown, hts⟩ k2 (cwV 3 hts gL_law_X7_sheet rfl rfl rfl (by decide +kernel) ⟨Nat.le_of_ble_eq_true rfl, Nat.le_of_ble_eq_true rfl⟩) (xk_preV X2_ok hK2 trivial hLW.2.1 (xk_recv hK2 hLW.2.1 0 (by omega) (ci := 7) e2_obj rfl)) rfl rfl hl.1 rfl (lv_room (Nat.le_of_ble_eq_true rfl)) dL_law_811 ⟨Nat.le_of_ble_eq_true rfl, Nat.le_of_ble_eq_true rfl⟩) hLK hLW (fun r2 u2 H locs hp2 hLW => ?_)
  obtain ⟨rfl, hR⟩ := hag _ _ _ _ hp1 hp2
  refine lv_icmp_eq (tgt := 1120) hx hb dL_law_814 (by decide) (fun _ => ?_) (fun q => absurd rfl q)
  exact K _ _ _ _ _ hLW hR hl

set_option maxHeartbeats 4000000 in
set_option maxRecDepth 100000 in
theorem cs_20 {p : Program} {e : Env} {s : State} {m : MethodId} {below : List Frame} {meth : Method} {c : Code} (l : Launch) {b L : Nat} {xs : Nat → Int32} (hL : L ≤ 3072) (C0 : lw_At p s m meth c b L xs) {D : va_G} {ca ca' : Nat → ClassId} {ad ad' : Nat → Nat} (hLK : LK D ca ca' ad ad' s) {i : Nat} (hi : i + 6 ≤ L) {σ1 σ2 : Sg} {H : Heap} {locs : List Loc} {ls : Array Slot} (hLW : LW D ca ca' ad ad' σ1 σ2 s H locs) (hR : R2 σ1 σ2) (hl : lv_has ls 4 [(0, .ref b), (1, .ref (ad 0)), (2, .ref (ad' 0)), (3, .int (nI i))]) (K : ∀ (σ1 σ2 : Sg) (H : Heap) (locs : List Loc) (ls : Array Slot), LW D ca ca' ad ad' σ1 σ2 s H locs → R2 σ1 σ2 → lv_has ls 4 [(0, .ref b), (1, .ref (ad 0)), (2, .ref (ad' 0)), (3, .int (nI i))] → W p l e room_1 s m #[Value.ref b] below meth c H locs 52 800 (lw_Z below #[Value.ref b] s) (F0 m 1120 ls [])) : W p l e room_1 s m #[Value.ref b] below meth c H locs 52 800 (lw_Z below #[Value.ref b] s) (F0 m 819 ls []) := by
  obtain ⟨hx, hb, hr, hml, hown, hts0, hX, hbl, hlocks, hgv⟩ := id C0
  have hts : ∀ w ∈ wsL_law, w.before #[Value.ref b] s = true := fun w h => hts0 w (wsL_law_in w h)
  have hown : s.vm.findClass RL = some m.cls := hown
  have hbA : ¬ (fun q : Nat => s.heap.size ≤ q) b := Nat.not_le.mpr hbl
  obtain ⟨hK1, hK2, hX1, hi1, hi2, hb1, hb2, hdj⟩ := id hLK
  refine lv_aload_n hx hb dL_law_819 rfl (lv_at hl 1 rfl) ?_
  refine lv_aload_n hx hb dL_law_820 rfl (lv_at hl 0 rfl) ?_
  refine lv_iload_n hx hb dL_law_821 rfl (lv_at hl 3 rfl) ?_
  refine lv_iconst (v := nI 1) hx hb dL_law_822 (by decide) ?_
  refine xn_iadd hx hb dL_law_823 ?_
  refine va_sld hx hb hX hbl hbA hLW.2.2.2.2 (vp_in_nI (by omega) (by omega)) dL_law_824 ?_
  refine xn_eqi (y := xs (i + 1)) (by rw [nI_clamp (by omega)]) ?_
  obtain ⟨P1, P2, k1, k2, hag⟩ := ag_lose l (D := D) (ca := ca) (ca' := ca') hi1 hi2 hR (xs (i + 1))
  refine lc_1i (va_runV (As := [.int (xs (i + 1))]) (rest := []) ⟨hx, hb, hml, hown, hts⟩ k1 (cwV 1 hts gL_law_X6_lose rfl rfl rfl (by decide +kernel) ⟨Nat.le_of_ble_eq_true rfl, Nat.le_of_ble_eq_true rfl⟩) (xk_preV X1_ok hK1 hX1 hLW.1 (xk_recv hK1 hLW.1 0 (by omega) (ci := 6) e1_well rfl)) rfl rfl hl.1 rfl (lv_room (Nat.le_of_ble_eq_true rfl)) dL_law_825 ⟨Nat.le_of_ble_eq_true rfl, Nat.le_of_ble_eq_true rfl⟩) hLK hLW (fun r1 u1 H locs hp1 hLW => ?_)
  refine lv_aload_n hx hb dL_law_828 rfl (lv_at hl 2 rfl) ?_
  refine lv_aload_n hx hb dL_law_829 rfl (lv_at hl 0 rfl) ?_
  refine lv_iload_n hx hb dL_law_830 rfl (lv_at hl 3 rfl) ?_
  refine lv_iconst (v := nI 1) hx hb dL_law_831 (by decide) ?_
  refine xn_iadd hx hb dL_law_832 ?_
  refine va_sld hx hb hX hbl hbA hLW.2.2.2.2 (vp_in_nI (by omega) (by omega)) dL_law_833 ?_
  refine xn_eqi (y := xs (i + 1)) (by rw [nI_clamp (by omega)]) ?_
  refine lc_2i (va_runV (As := [.int (xs (i + 1))]) (rest := [.int r1]) ⟨hx, hb, hml, hown, hts⟩ k2 (cwV 1 hts gL_law_X7_lose rfl rfl rfl (by decide +kernel) ⟨Nat.le_of_ble_eq_true rfl, Nat.le_of_ble_eq_true rfl⟩) (xk_preV X2_ok hK2 trivial hLW.2.1 (xk_recv hK2 hLW.2.1 0 (by omega) (ci := 7) e2_obj rfl)) rfl rfl hl.1 rfl (lv_room (Nat.le_of_ble_eq_true rfl)) dL_law_834 ⟨Nat.le_of_ble_eq_true rfl, Nat.le_of_ble_eq_true rfl⟩) hLK hLW (fun r2 u2 H locs hp2 hLW => ?_)
  obtain ⟨rfl, hR⟩ := hag _ _ _ _ hp1 hp2
  refine lv_icmp_eq (tgt := 1120) hx hb dL_law_837 (by decide) (fun _ => ?_) (fun q => absurd rfl q)
  exact K _ _ _ _ _ hLW hR hl

set_option maxHeartbeats 4000000 in
set_option maxRecDepth 100000 in
theorem cs_21 {p : Program} {e : Env} {s : State} {m : MethodId} {below : List Frame} {meth : Method} {c : Code} (l : Launch) {b L : Nat} {xs : Nat → Int32} (hL : L ≤ 3072) (C0 : lw_At p s m meth c b L xs) {D : va_G} {ca ca' : Nat → ClassId} {ad ad' : Nat → Nat} (hLK : LK D ca ca' ad ad' s) {i : Nat} (hi : i + 6 ≤ L) {σ1 σ2 : Sg} {H : Heap} {locs : List Loc} {ls : Array Slot} (hLW : LW D ca ca' ad ad' σ1 σ2 s H locs) (hR : R2 σ1 σ2) (hl : lv_has ls 4 [(0, .ref b), (1, .ref (ad 0)), (2, .ref (ad' 0)), (3, .int (nI i))]) (K : ∀ (σ1 σ2 : Sg) (H : Heap) (locs : List Loc) (ls : Array Slot), LW D ca ca' ad ad' σ1 σ2 s H locs → R2 σ1 σ2 → lv_has ls 4 [(0, .ref b), (1, .ref (ad 0)), (2, .ref (ad' 0)), (3, .int (nI i))] → W p l e room_1 s m #[Value.ref b] below meth c H locs 52 800 (lw_Z below #[Value.ref b] s) (F0 m 1120 ls [])) : W p l e room_1 s m #[Value.ref b] below meth c H locs 52 800 (lw_Z below #[Value.ref b] s) (F0 m 842 ls []) := by
  obtain ⟨hx, hb, hr, hml, hown, hts0, hX, hbl, hlocks, hgv⟩ := id C0
  have hts : ∀ w ∈ wsL_law, w.before #[Value.ref b] s = true := fun w h => hts0 w (wsL_law_in w h)
  have hown : s.vm.findClass RL = some m.cls := hown
  have hbA : ¬ (fun q : Nat => s.heap.size ≤ q) b := Nat.not_le.mpr hbl
  obtain ⟨hK1, hK2, hX1, hi1, hi2, hb1, hb2, hdj⟩ := id hLK
  refine lv_aload_n hx hb dL_law_842 rfl (lv_at hl 1 rfl) ?_
  refine lv_aload_n hx hb dL_law_843 rfl (lv_at hl 0 rfl) ?_
  refine lv_iload_n hx hb dL_law_844 rfl (lv_at hl 3 rfl) ?_
  refine lv_iconst (v := nI 1) hx hb dL_law_845 (by decide) ?_
  refine xn_iadd hx hb dL_law_846 ?_
  refine va_sld hx hb hX hbl hbA hLW.2.2.2.2 (vp_in_nI (by omega) (by omega)) dL_law_847 ?_
  refine xn_eqi (y := xs (i + 1)) (by rw [nI_clamp (by omega)]) ?_
  refine lv_aload_n hx hb dL_law_848 rfl (lv_at hl 0 rfl) ?_
  refine lv_iload_n hx hb dL_law_849 rfl (lv_at hl 3 rfl) ?_
  refine lv_iconst (v := nI 2) hx hb dL_law_850 (by decide) ?_
  refine xn_iadd hx hb dL_law_851 ?_
  refine va_sld hx hb hX hbl hbA hLW.2.2.2.2 (vp_in_nI (by omega) (by omega)) dL_law_852 ?_
  refine xn_eqi (y := xs (i + 2)) (by rw [nI_clamp (by omega)]) ?_
  refine lv_aload_n hx hb dL_law_853 rfl (lv_at hl 0 rfl) ?_
  refine lv_iload_n hx hb dL_law_854 rfl (lv_at hl 3 rfl) ?_
  refine lv_iconst (v := nI 3) hx hb dL_law_855 (by decide) ?_
  refine xn_iadd hx hb dL_law_856 ?_
  refine va_sld hx hb hX hbl hbA hLW.2.2.2.2 (vp_in_nI (by omega) (by omega)) dL_law_857 ?_
  refine xn_eqi (y := xs (i + 3)) (by rw [nI_clamp (by omega)]) ?_
  obtain ⟨P1, P2, k1, k2, hag⟩ := ag_put l (D := D) (ca := ca) (ca' := ca') hi1 hi2 hR (xs (i + 1)) (xs (i + 2)) (xs (i + 3))
  refine lc_1i (va_runV (As := [.int (xs (i + 1)), .int (xs (i + 2)), .int (xs (i + 3))]) (rest := []) ⟨hx, hb, hml, hown, hts⟩ k1 (cwV 3 hts gL_law_X6_put rfl rfl rfl (by decide +kernel) ⟨Nat.le_of_ble_eq_true rfl, Nat.le_of_ble_eq_true rfl⟩) (xk_preV X1_ok hK1 hX1 hLW.1 (xk_recv hK1 hLW.1 0 (by omega) (ci := 6) e1_well rfl)) rfl rfl hl.1 rfl (lv_room (Nat.le_of_ble_eq_true rfl)) dL_law_858 ⟨Nat.le_of_ble_eq_true rfl, Nat.le_of_ble_eq_true rfl⟩) hLK hLW (fun r1 u1 H locs hp1 hLW => ?_)
  refine lv_aload_n hx hb dL_law_861 rfl (lv_at hl 2 rfl) ?_
  refine lv_aload_n hx hb dL_law_862 rfl (lv_at hl 0 rfl) ?_
  refine lv_iload_n hx hb dL_law_863 rfl (lv_at hl 3 rfl) ?_
  refine lv_iconst (v := nI 1) hx hb dL_law_864 (by decide) ?_
  refine xn_iadd hx hb dL_law_865 ?_
  refine va_sld hx hb hX hbl hbA hLW.2.2.2.2 (vp_in_nI (by omega) (by omega)) dL_law_866 ?_
  refine xn_eqi (y := xs (i + 1)) (by rw [nI_clamp (by omega)]) ?_
  refine lv_aload_n hx hb dL_law_867 rfl (lv_at hl 0 rfl) ?_
  refine lv_iload_n hx hb dL_law_868 rfl (lv_at hl 3 rfl) ?_
  refine lv_iconst (v := nI 2) hx hb dL_law_869 (by decide) ?_
  refine xn_iadd hx hb dL_law_870 ?_
  refine va_sld hx hb hX hbl hbA hLW.2.2.2.2 (vp_in_nI (by omega) (by omega)) dL_law_871 ?_
  refine xn_eqi (y := xs (i + 2)) (by rw [nI_clamp (by omega)]) ?_
  refine lv_aload_n hx hb dL_law_872 rfl (lv_at hl 0 rfl) ?_
  refine lv_iload_n hx hb dL_law_873 rfl (lv_at hl 3 rfl) ?_
  refine lv_iconst (v := nI 3) hx hb dL_law_874 (by decide) ?_
  refine xn_iadd hx hb dL_law_875 ?_
  refine va_sld hx hb hX hbl hbA hLW.2.2.2.2 (vp_in_nI (by omega) (by omega)) dL_law_876 ?_
  refine xn_eqi (y := xs (i + 3)) (by rw [nI_clamp (by omega)]) ?_
  refine lc_2i (va_runV (As := [.int (xs (i + 1)), .int (xs (i + 2)), .int (xs (i + 3))]) (rest := [.int r1]) ⟨hx, hb, hml, hown, hts⟩ k2 (cwV 3 hts gL_law_X7_put rfl rfl rfl (by decide +kernel) ⟨Nat.le_of_ble_eq_true rfl, Nat.le_of_ble_eq_true rfl⟩) (xk_preV X2_ok hK2 trivial hLW.2.1 (xk_recv hK2 hLW.2.1 0 (by omega) (ci := 7) e2_obj rfl)) rfl rfl hl.1 rfl (lv_room (Nat.le_of_ble_eq_true rfl)) dL_law_877 ⟨Nat.le_of_ble_eq_true rfl, Nat.le_of_ble_eq_true rfl⟩) hLK hLW (fun r2 u2 H locs hp2 hLW => ?_)
  obtain ⟨rfl, hR⟩ := hag _ _ _ _ hp1 hp2
  refine lv_icmp_eq (tgt := 1120) hx hb dL_law_880 (by decide) (fun _ => ?_) (fun q => absurd rfl q)
  exact K _ _ _ _ _ hLW hR hl

set_option maxHeartbeats 4000000 in
set_option maxRecDepth 100000 in
theorem cs_22 {p : Program} {e : Env} {s : State} {m : MethodId} {below : List Frame} {meth : Method} {c : Code} (l : Launch) {b L : Nat} {xs : Nat → Int32} (hL : L ≤ 3072) (C0 : lw_At p s m meth c b L xs) {D : va_G} {ca ca' : Nat → ClassId} {ad ad' : Nat → Nat} (hLK : LK D ca ca' ad ad' s) {i : Nat} (hi : i + 6 ≤ L) {σ1 σ2 : Sg} {H : Heap} {locs : List Loc} {ls : Array Slot} (hLW : LW D ca ca' ad ad' σ1 σ2 s H locs) (hR : R2 σ1 σ2) (hl : lv_has ls 4 [(0, .ref b), (1, .ref (ad 0)), (2, .ref (ad' 0)), (3, .int (nI i))]) (K : ∀ (σ1 σ2 : Sg) (H : Heap) (locs : List Loc) (ls : Array Slot), LW D ca ca' ad ad' σ1 σ2 s H locs → R2 σ1 σ2 → lv_has ls 4 [(0, .ref b), (1, .ref (ad 0)), (2, .ref (ad' 0)), (3, .int (nI i))] → W p l e room_1 s m #[Value.ref b] below meth c H locs 52 800 (lw_Z below #[Value.ref b] s) (F0 m 1120 ls [])) : W p l e room_1 s m #[Value.ref b] below meth c H locs 52 800 (lw_Z below #[Value.ref b] s) (F0 m 885 ls []) := by
  obtain ⟨hx, hb, hr, hml, hown, hts0, hX, hbl, hlocks, hgv⟩ := id C0
  have hts : ∀ w ∈ wsL_law, w.before #[Value.ref b] s = true := fun w h => hts0 w (wsL_law_in w h)
  have hown : s.vm.findClass RL = some m.cls := hown
  have hbA : ¬ (fun q : Nat => s.heap.size ≤ q) b := Nat.not_le.mpr hbl
  obtain ⟨hK1, hK2, hX1, hi1, hi2, hb1, hb2, hdj⟩ := id hLK
  refine lv_aload_n hx hb dL_law_885 rfl (lv_at hl 1 rfl) ?_
  refine lv_aload_n hx hb dL_law_886 rfl (lv_at hl 0 rfl) ?_
  refine lv_iload_n hx hb dL_law_887 rfl (lv_at hl 3 rfl) ?_
  refine lv_iconst (v := nI 1) hx hb dL_law_888 (by decide) ?_
  refine xn_iadd hx hb dL_law_889 ?_
  refine va_sld hx hb hX hbl hbA hLW.2.2.2.2 (vp_in_nI (by omega) (by omega)) dL_law_890 ?_
  refine xn_eqi (y := xs (i + 1)) (by rw [nI_clamp (by omega)]) ?_
  refine lv_aload_n hx hb dL_law_891 rfl (lv_at hl 0 rfl) ?_
  refine lv_iload_n hx hb dL_law_892 rfl (lv_at hl 3 rfl) ?_
  refine lv_iconst (v := nI 2) hx hb dL_law_893 (by decide) ?_
  refine xn_iadd hx hb dL_law_894 ?_
  refine va_sld hx hb hX hbl hbA hLW.2.2.2.2 (vp_in_nI (by omega) (by omega)) dL_law_895 ?_
  refine xn_eqi (y := xs (i + 2)) (by rw [nI_clamp (by omega)]) ?_
  refine lv_aload_n hx hb dL_law_896 rfl (lv_at hl 0 rfl) ?_
  refine lv_iload_n hx hb dL_law_897 rfl (lv_at hl 3 rfl) ?_
  refine lv_iconst (v := nI 3) hx hb dL_law_898 (by decide) ?_
  refine xn_iadd hx hb dL_law_899 ?_
  refine va_sld hx hb hX hbl hbA hLW.2.2.2.2 (vp_in_nI (by omega) (by omega)) dL_law_900 ?_
  refine xn_eqi (y := xs (i + 3)) (by rw [nI_clamp (by omega)]) ?_
  obtain ⟨P1, P2, k1, k2, hag⟩ := ag_cell l (D := D) (ca := ca) (ca' := ca') hi1 hi2 hR (xs (i + 1)) (xs (i + 2)) (xs (i + 3))
  refine lc_1l (va_runV (As := [.int (xs (i + 1)), .int (xs (i + 2)), .int (xs (i + 3))]) (rest := []) ⟨hx, hb, hml, hown, hts⟩ k1 (cwV 3 hts gL_law_X6_cell rfl rfl rfl (by decide +kernel) ⟨Nat.le_of_ble_eq_true rfl, Nat.le_of_ble_eq_true rfl⟩) (xk_preV X1_ok hK1 hX1 hLW.1 (xk_recv hK1 hLW.1 0 (by omega) (ci := 6) e1_well rfl)) rfl rfl hl.1 rfl (lv_room (Nat.le_of_ble_eq_true rfl)) dL_law_901 ⟨Nat.le_of_ble_eq_true rfl, Nat.le_of_ble_eq_true rfl⟩) hLK hLW (fun r1 u1 H locs hp1 hLW => ?_)
  refine lv_aload_n hx hb dL_law_904 rfl (lv_at hl 2 rfl) ?_
  refine lv_aload_n hx hb dL_law_905 rfl (lv_at hl 0 rfl) ?_
  refine lv_iload_n hx hb dL_law_906 rfl (lv_at hl 3 rfl) ?_
  refine lv_iconst (v := nI 1) hx hb dL_law_907 (by decide) ?_
  refine xn_iadd hx hb dL_law_908 ?_
  refine va_sld hx hb hX hbl hbA hLW.2.2.2.2 (vp_in_nI (by omega) (by omega)) dL_law_909 ?_
  refine xn_eqi (y := xs (i + 1)) (by rw [nI_clamp (by omega)]) ?_
  refine lv_aload_n hx hb dL_law_910 rfl (lv_at hl 0 rfl) ?_
  refine lv_iload_n hx hb dL_law_911 rfl (lv_at hl 3 rfl) ?_
  refine lv_iconst (v := nI 2) hx hb dL_law_912 (by decide) ?_
  refine xn_iadd hx hb dL_law_913 ?_
  refine va_sld hx hb hX hbl hbA hLW.2.2.2.2 (vp_in_nI (by omega) (by omega)) dL_law_914 ?_
  refine xn_eqi (y := xs (i + 2)) (by rw [nI_clamp (by omega)]) ?_
  refine lv_aload_n hx hb dL_law_915 rfl (lv_at hl 0 rfl) ?_
  refine lv_iload_n hx hb dL_law_916 rfl (lv_at hl 3 rfl) ?_
  refine lv_iconst (v := nI 3) hx hb dL_law_917 (by decide) ?_
  refine xn_iadd hx hb dL_law_918 ?_
  refine va_sld hx hb hX hbl hbA hLW.2.2.2.2 (vp_in_nI (by omega) (by omega)) dL_law_919 ?_
  refine xn_eqi (y := xs (i + 3)) (by rw [nI_clamp (by omega)]) ?_
  refine lc_2l (va_runV (As := [.int (xs (i + 1)), .int (xs (i + 2)), .int (xs (i + 3))]) (rest := [.long r1]) ⟨hx, hb, hml, hown, hts⟩ k2 (cwV 3 hts gL_law_X7_cell rfl rfl rfl (by decide +kernel) ⟨Nat.le_of_ble_eq_true rfl, Nat.le_of_ble_eq_true rfl⟩) (xk_preV X2_ok hK2 trivial hLW.2.1 (xk_recv hK2 hLW.2.1 0 (by omega) (ci := 7) e2_obj rfl)) rfl rfl hl.1 rfl (lv_room (Nat.le_of_ble_eq_true rfl)) dL_law_920 ⟨Nat.le_of_ble_eq_true rfl, Nat.le_of_ble_eq_true rfl⟩) hLK hLW (fun r2 u2 H locs hp2 hLW => ?_)
  obtain ⟨rfl, hR⟩ := hag _ _ _ _ hp1 hp2
  refine xn_lcmpE hx hb rfl dL_law_923 ?_
  refine xn_zeq (tgt := 1120) hx hb dL_law_924 (by decide) (by omega) (fun c_924 => ?_) (fun c_924 => absurd c_924 (by omega))
  exact K _ _ _ _ _ hLW hR hl

set_option maxHeartbeats 4000000 in
set_option maxRecDepth 100000 in
theorem cs_23 {p : Program} {e : Env} {s : State} {m : MethodId} {below : List Frame} {meth : Method} {c : Code} (l : Launch) {b L : Nat} {xs : Nat → Int32} (hL : L ≤ 3072) (C0 : lw_At p s m meth c b L xs) {D : va_G} {ca ca' : Nat → ClassId} {ad ad' : Nat → Nat} (hLK : LK D ca ca' ad ad' s) {i : Nat} (hi : i + 6 ≤ L) {σ1 σ2 : Sg} {H : Heap} {locs : List Loc} {ls : Array Slot} (hLW : LW D ca ca' ad ad' σ1 σ2 s H locs) (hR : R2 σ1 σ2) (hl : lv_has ls 4 [(0, .ref b), (1, .ref (ad 0)), (2, .ref (ad' 0)), (3, .int (nI i))]) (K : ∀ (σ1 σ2 : Sg) (H : Heap) (locs : List Loc) (ls : Array Slot), LW D ca ca' ad ad' σ1 σ2 s H locs → R2 σ1 σ2 → lv_has ls 4 [(0, .ref b), (1, .ref (ad 0)), (2, .ref (ad' 0)), (3, .int (nI i))] → W p l e room_1 s m #[Value.ref b] below meth c H locs 52 800 (lw_Z below #[Value.ref b] s) (F0 m 1120 ls [])) : W p l e room_1 s m #[Value.ref b] below meth c H locs 52 800 (lw_Z below #[Value.ref b] s) (F0 m 929 ls []) := by
  obtain ⟨hx, hb, hr, hml, hown, hts0, hX, hbl, hlocks, hgv⟩ := id C0
  have hts : ∀ w ∈ wsL_law, w.before #[Value.ref b] s = true := fun w h => hts0 w (wsL_law_in w h)
  have hown : s.vm.findClass RL = some m.cls := hown
  have hbA : ¬ (fun q : Nat => s.heap.size ≤ q) b := Nat.not_le.mpr hbl
  obtain ⟨hK1, hK2, hX1, hi1, hi2, hb1, hb2, hdj⟩ := id hLK
  refine lv_aload_n hx hb dL_law_929 rfl (lv_at hl 1 rfl) ?_
  refine lv_aload_n hx hb dL_law_930 rfl (lv_at hl 0 rfl) ?_
  refine lv_iload_n hx hb dL_law_931 rfl (lv_at hl 3 rfl) ?_
  refine lv_iconst (v := nI 1) hx hb dL_law_932 (by decide) ?_
  refine xn_iadd hx hb dL_law_933 ?_
  refine va_sld hx hb hX hbl hbA hLW.2.2.2.2 (vp_in_nI (by omega) (by omega)) dL_law_934 ?_
  refine xn_eqi (y := xs (i + 1)) (by rw [nI_clamp (by omega)]) ?_
  refine lv_aload_n hx hb dL_law_935 rfl (lv_at hl 0 rfl) ?_
  refine lv_iload_n hx hb dL_law_936 rfl (lv_at hl 3 rfl) ?_
  refine lv_iconst (v := nI 2) hx hb dL_law_937 (by decide) ?_
  refine xn_iadd hx hb dL_law_938 ?_
  refine va_sld hx hb hX hbl hbA hLW.2.2.2.2 (vp_in_nI (by omega) (by omega)) dL_law_939 ?_
  refine xn_eqi (y := xs (i + 2)) (by rw [nI_clamp (by omega)]) ?_
  refine lv_aload_n hx hb dL_law_940 rfl (lv_at hl 0 rfl) ?_
  refine lv_iload_n hx hb dL_law_941 rfl (lv_at hl 3 rfl) ?_
  refine lv_iconst (v := nI 3) hx hb dL_law_942 (by decide) ?_
  refine xn_iadd hx hb dL_law_943 ?_
  refine va_sld hx hb hX hbl hbA hLW.2.2.2.2 (vp_in_nI (by omega) (by omega)) dL_law_944 ?_
  refine xn_eqi (y := xs (i + 3)) (by rw [nI_clamp (by omega)]) ?_
  refine lv_aload_n hx hb dL_law_945 rfl (lv_at hl 0 rfl) ?_
  refine lv_iload_n hx hb dL_law_946 rfl (lv_at hl 3 rfl) ?_
  refine lv_iconst (v := nI 4) hx hb dL_law_947 (by decide) ?_
  refine xn_iadd hx hb dL_law_948 ?_
  refine va_sld hx hb hX hbl hbA hLW.2.2.2.2 (vp_in_nI (by omega) (by omega)) dL_law_949 ?_
  refine xn_eqi (y := xs (i + 4)) (by rw [nI_clamp (by omega)]) ?_
  refine lv_aload_n hx hb dL_law_950 rfl (lv_at hl 0 rfl) ?_
  refine lv_iload_n hx hb dL_law_951 rfl (lv_at hl 3 rfl) ?_
  refine lv_iconst (v := nI 5) hx hb dL_law_952 (by decide) ?_
  refine xn_iadd hx hb dL_law_953 ?_
  refine va_sld hx hb hX hbl hbA hLW.2.2.2.2 (vp_in_nI (by omega) (by omega)) dL_law_954 ?_
  refine xn_eqi (y := xs (i + 5)) (by rw [nI_clamp (by omega)]) ?_
  obtain ⟨P1, P2, k1, k2, hag⟩ := ag_copy l (D := D) (ca := ca) (ca' := ca') hi1 hi2 hR (xs (i + 1)) (xs (i + 2)) (xs (i + 3)) (xs (i + 4)) (xs (i + 5))
  refine lc_1i (va_runV (As := [.int (xs (i + 1)), .int (xs (i + 2)), .int (xs (i + 3)), .int (xs (i + 4)), .int (xs (i + 5))]) (rest := []) ⟨hx, hb, hml, hown, hts⟩ k1 (cwV 5 hts gL_law_X6_copy rfl rfl rfl (by decide +kernel) ⟨Nat.le_of_ble_eq_true rfl, Nat.le_of_ble_eq_true rfl⟩) (xk_preV X1_ok hK1 hX1 hLW.1 (xk_recv hK1 hLW.1 0 (by omega) (ci := 6) e1_well rfl)) rfl rfl hl.1 rfl (lv_room (Nat.le_of_ble_eq_true rfl)) dL_law_955 ⟨Nat.le_of_ble_eq_true rfl, Nat.le_of_ble_eq_true rfl⟩) hLK hLW (fun r1 u1 H locs hp1 hLW => ?_)
  refine lv_aload_n hx hb dL_law_958 rfl (lv_at hl 2 rfl) ?_
  refine lv_aload_n hx hb dL_law_959 rfl (lv_at hl 0 rfl) ?_
  refine lv_iload_n hx hb dL_law_960 rfl (lv_at hl 3 rfl) ?_
  refine lv_iconst (v := nI 1) hx hb dL_law_961 (by decide) ?_
  refine xn_iadd hx hb dL_law_962 ?_
  refine va_sld hx hb hX hbl hbA hLW.2.2.2.2 (vp_in_nI (by omega) (by omega)) dL_law_963 ?_
  refine xn_eqi (y := xs (i + 1)) (by rw [nI_clamp (by omega)]) ?_
  refine lv_aload_n hx hb dL_law_964 rfl (lv_at hl 0 rfl) ?_
  refine lv_iload_n hx hb dL_law_965 rfl (lv_at hl 3 rfl) ?_
  refine lv_iconst (v := nI 2) hx hb dL_law_966 (by decide) ?_
  refine xn_iadd hx hb dL_law_967 ?_
  refine va_sld hx hb hX hbl hbA hLW.2.2.2.2 (vp_in_nI (by omega) (by omega)) dL_law_968 ?_
  refine xn_eqi (y := xs (i + 2)) (by rw [nI_clamp (by omega)]) ?_
  refine lv_aload_n hx hb dL_law_969 rfl (lv_at hl 0 rfl) ?_
  refine lv_iload_n hx hb dL_law_970 rfl (lv_at hl 3 rfl) ?_
  refine lv_iconst (v := nI 3) hx hb dL_law_971 (by decide) ?_
  refine xn_iadd hx hb dL_law_972 ?_
  refine va_sld hx hb hX hbl hbA hLW.2.2.2.2 (vp_in_nI (by omega) (by omega)) dL_law_973 ?_
  refine xn_eqi (y := xs (i + 3)) (by rw [nI_clamp (by omega)]) ?_
  refine lv_aload_n hx hb dL_law_974 rfl (lv_at hl 0 rfl) ?_
  refine lv_iload_n hx hb dL_law_975 rfl (lv_at hl 3 rfl) ?_
  refine lv_iconst (v := nI 4) hx hb dL_law_976 (by decide) ?_
  refine xn_iadd hx hb dL_law_977 ?_
  refine va_sld hx hb hX hbl hbA hLW.2.2.2.2 (vp_in_nI (by omega) (by omega)) dL_law_978 ?_
  refine xn_eqi (y := xs (i + 4)) (by rw [nI_clamp (by omega)]) ?_
  refine lv_aload_n hx hb dL_law_979 rfl (lv_at hl 0 rfl) ?_
  refine lv_iload_n hx hb dL_law_980 rfl (lv_at hl 3 rfl) ?_
  refine lv_iconst (v := nI 5) hx hb dL_law_981 (by decide) ?_
  refine xn_iadd hx hb dL_law_982 ?_
  refine va_sld hx hb hX hbl hbA hLW.2.2.2.2 (vp_in_nI (by omega) (by omega)) dL_law_983 ?_
  refine xn_eqi (y := xs (i + 5)) (by rw [nI_clamp (by omega)]) ?_
  refine lc_2i (va_runV (As := [.int (xs (i + 1)), .int (xs (i + 2)), .int (xs (i + 3)), .int (xs (i + 4)), .int (xs (i + 5))]) (rest := [.int r1]) ⟨hx, hb, hml, hown, hts⟩ k2 (cwV 5 hts gL_law_X7_copy rfl rfl rfl (by decide +kernel) ⟨Nat.le_of_ble_eq_true rfl, Nat.le_of_ble_eq_true rfl⟩) (xk_preV X2_ok hK2 trivial hLW.2.1 (xk_recv hK2 hLW.2.1 0 (by omega) (ci := 7) e2_obj rfl)) rfl rfl hl.1 rfl (lv_room (Nat.le_of_ble_eq_true rfl)) dL_law_984 ⟨Nat.le_of_ble_eq_true rfl, Nat.le_of_ble_eq_true rfl⟩) hLK hLW (fun r2 u2 H locs hp2 hLW => ?_)
  obtain ⟨rfl, hR⟩ := hag _ _ _ _ hp1 hp2
  refine lv_icmp_eq (tgt := 1120) hx hb dL_law_987 (by decide) (fun _ => ?_) (fun q => absurd rfl q)
  exact K _ _ _ _ _ hLW hR hl

set_option maxHeartbeats 4000000 in
set_option maxRecDepth 100000 in
theorem cs_24 {p : Program} {e : Env} {s : State} {m : MethodId} {below : List Frame} {meth : Method} {c : Code} (l : Launch) {b L : Nat} {xs : Nat → Int32} (hL : L ≤ 3072) (C0 : lw_At p s m meth c b L xs) {D : va_G} {ca ca' : Nat → ClassId} {ad ad' : Nat → Nat} (hLK : LK D ca ca' ad ad' s) {i : Nat} (hi : i + 6 ≤ L) {σ1 σ2 : Sg} {H : Heap} {locs : List Loc} {ls : Array Slot} (hLW : LW D ca ca' ad ad' σ1 σ2 s H locs) (hR : R2 σ1 σ2) (hl : lv_has ls 4 [(0, .ref b), (1, .ref (ad 0)), (2, .ref (ad' 0)), (3, .int (nI i))]) (K : ∀ (σ1 σ2 : Sg) (H : Heap) (locs : List Loc) (ls : Array Slot), LW D ca ca' ad ad' σ1 σ2 s H locs → R2 σ1 σ2 → lv_has ls 4 [(0, .ref b), (1, .ref (ad 0)), (2, .ref (ad' 0)), (3, .int (nI i))] → W p l e room_1 s m #[Value.ref b] below meth c H locs 52 800 (lw_Z below #[Value.ref b] s) (F0 m 1120 ls [])) : W p l e room_1 s m #[Value.ref b] below meth c H locs 52 800 (lw_Z below #[Value.ref b] s) (F0 m 992 ls []) := by
  obtain ⟨hx, hb, hr, hml, hown, hts0, hX, hbl, hlocks, hgv⟩ := id C0
  have hts : ∀ w ∈ wsL_law, w.before #[Value.ref b] s = true := fun w h => hts0 w (wsL_law_in w h)
  have hown : s.vm.findClass RL = some m.cls := hown
  have hbA : ¬ (fun q : Nat => s.heap.size ≤ q) b := Nat.not_le.mpr hbl
  obtain ⟨hK1, hK2, hX1, hi1, hi2, hb1, hb2, hdj⟩ := id hLK
  refine lv_aload_n hx hb dL_law_992 rfl (lv_at hl 1 rfl) ?_
  refine lv_aload_n hx hb dL_law_993 rfl (lv_at hl 0 rfl) ?_
  refine lv_iload_n hx hb dL_law_994 rfl (lv_at hl 3 rfl) ?_
  refine lv_iconst (v := nI 1) hx hb dL_law_995 (by decide) ?_
  refine xn_iadd hx hb dL_law_996 ?_
  refine va_sld hx hb hX hbl hbA hLW.2.2.2.2 (vp_in_nI (by omega) (by omega)) dL_law_997 ?_
  refine xn_eqi (y := xs (i + 1)) (by rw [nI_clamp (by omega)]) ?_
  obtain ⟨P1, P2, k1, k2, hag⟩ := ag_tell l (D := D) (ca := ca) (ca' := ca') hi1 hi2 hR (xs (i + 1))
  refine lc_1i (va_runV (As := [.int (xs (i + 1))]) (rest := []) ⟨hx, hb, hml, hown, hts⟩ k1 (cwV 1 hts gL_law_X6_tell rfl rfl rfl (by decide +kernel) ⟨Nat.le_of_ble_eq_true rfl, Nat.le_of_ble_eq_true rfl⟩) (xk_preV X1_ok hK1 hX1 hLW.1 (xk_recv hK1 hLW.1 0 (by omega) (ci := 6) e1_well rfl)) rfl rfl hl.1 rfl (lv_room (Nat.le_of_ble_eq_true rfl)) dL_law_998 ⟨Nat.le_of_ble_eq_true rfl, Nat.le_of_ble_eq_true rfl⟩) hLK hLW (fun r1 u1 H locs hp1 hLW => ?_)
  refine lv_aload_n hx hb dL_law_1001 rfl (lv_at hl 2 rfl) ?_
  refine lv_aload_n hx hb dL_law_1002 rfl (lv_at hl 0 rfl) ?_
  refine lv_iload_n hx hb dL_law_1003 rfl (lv_at hl 3 rfl) ?_
  refine lv_iconst (v := nI 1) hx hb dL_law_1004 (by decide) ?_
  refine xn_iadd hx hb dL_law_1005 ?_
  refine va_sld hx hb hX hbl hbA hLW.2.2.2.2 (vp_in_nI (by omega) (by omega)) dL_law_1006 ?_
  refine xn_eqi (y := xs (i + 1)) (by rw [nI_clamp (by omega)]) ?_
  refine lc_2i (va_runV (As := [.int (xs (i + 1))]) (rest := [.int r1]) ⟨hx, hb, hml, hown, hts⟩ k2 (cwV 1 hts gL_law_X7_tell rfl rfl rfl (by decide +kernel) ⟨Nat.le_of_ble_eq_true rfl, Nat.le_of_ble_eq_true rfl⟩) (xk_preV X2_ok hK2 trivial hLW.2.1 (xk_recv hK2 hLW.2.1 0 (by omega) (ci := 7) e2_obj rfl)) rfl rfl hl.1 rfl (lv_room (Nat.le_of_ble_eq_true rfl)) dL_law_1007 ⟨Nat.le_of_ble_eq_true rfl, Nat.le_of_ble_eq_true rfl⟩) hLK hLW (fun r2 u2 H locs hp2 hLW => ?_)
  obtain ⟨rfl, hR⟩ := hag _ _ _ _ hp1 hp2
  refine lv_icmp_eq (tgt := 1120) hx hb dL_law_1010 (by decide) (fun _ => ?_) (fun q => absurd rfl q)
  exact K _ _ _ _ _ hLW hR hl

set_option maxHeartbeats 4000000 in
set_option maxRecDepth 100000 in
theorem cs_25 {p : Program} {e : Env} {s : State} {m : MethodId} {below : List Frame} {meth : Method} {c : Code} (l : Launch) {b L : Nat} {xs : Nat → Int32} (hL : L ≤ 3072) (C0 : lw_At p s m meth c b L xs) {D : va_G} {ca ca' : Nat → ClassId} {ad ad' : Nat → Nat} (hLK : LK D ca ca' ad ad' s) {i : Nat} (hi : i + 6 ≤ L) {σ1 σ2 : Sg} {H : Heap} {locs : List Loc} {ls : Array Slot} (hLW : LW D ca ca' ad ad' σ1 σ2 s H locs) (hR : R2 σ1 σ2) (hl : lv_has ls 4 [(0, .ref b), (1, .ref (ad 0)), (2, .ref (ad' 0)), (3, .int (nI i))]) (K : ∀ (σ1 σ2 : Sg) (H : Heap) (locs : List Loc) (ls : Array Slot), LW D ca ca' ad ad' σ1 σ2 s H locs → R2 σ1 σ2 → lv_has ls 4 [(0, .ref b), (1, .ref (ad 0)), (2, .ref (ad' 0)), (3, .int (nI i))] → W p l e room_1 s m #[Value.ref b] below meth c H locs 52 800 (lw_Z below #[Value.ref b] s) (F0 m 1120 ls [])) : W p l e room_1 s m #[Value.ref b] below meth c H locs 52 800 (lw_Z below #[Value.ref b] s) (F0 m 1015 ls []) := by
  obtain ⟨hx, hb, hr, hml, hown, hts0, hX, hbl, hlocks, hgv⟩ := id C0
  have hts : ∀ w ∈ wsL_law, w.before #[Value.ref b] s = true := fun w h => hts0 w (wsL_law_in w h)
  have hown : s.vm.findClass RL = some m.cls := hown
  have hbA : ¬ (fun q : Nat => s.heap.size ≤ q) b := Nat.not_le.mpr hbl
  obtain ⟨hK1, hK2, hX1, hi1, hi2, hb1, hb2, hdj⟩ := id hLK
  refine lv_aload_n hx hb dL_law_1015 rfl (lv_at hl 1 rfl) ?_
  refine lv_aload_n hx hb dL_law_1016 rfl (lv_at hl 0 rfl) ?_
  refine lv_iload_n hx hb dL_law_1017 rfl (lv_at hl 3 rfl) ?_
  refine lv_iconst (v := nI 1) hx hb dL_law_1018 (by decide) ?_
  refine xn_iadd hx hb dL_law_1019 ?_
  refine va_sld hx hb hX hbl hbA hLW.2.2.2.2 (vp_in_nI (by omega) (by omega)) dL_law_1020 ?_
  refine xn_eqi (y := xs (i + 1)) (by rw [nI_clamp (by omega)]) ?_
  obtain ⟨P1, P2, k1, k2, hag⟩ := ag_splash l (D := D) (ca := ca) (ca' := ca') hi1 hi2 hR (xs (i + 1))
  refine lc_1i (va_runV (As := [.int (xs (i + 1))]) (rest := []) ⟨hx, hb, hml, hown, hts⟩ k1 (cwV 1 hts gL_law_X6_splash rfl rfl rfl (by decide +kernel) ⟨Nat.le_of_ble_eq_true rfl, Nat.le_of_ble_eq_true rfl⟩) (xk_preV X1_ok hK1 hX1 hLW.1 (xk_recv hK1 hLW.1 0 (by omega) (ci := 6) e1_well rfl)) rfl rfl hl.1 rfl (lv_room (Nat.le_of_ble_eq_true rfl)) dL_law_1021 ⟨Nat.le_of_ble_eq_true rfl, Nat.le_of_ble_eq_true rfl⟩) hLK hLW (fun r1 u1 H locs hp1 hLW => ?_)
  refine lv_aload_n hx hb dL_law_1024 rfl (lv_at hl 2 rfl) ?_
  refine lv_aload_n hx hb dL_law_1025 rfl (lv_at hl 0 rfl) ?_
  refine lv_iload_n hx hb dL_law_1026 rfl (lv_at hl 3 rfl) ?_
  refine lv_iconst (v := nI 1) hx hb dL_law_1027 (by decide) ?_
  refine xn_iadd hx hb dL_law_1028 ?_
  refine va_sld hx hb hX hbl hbA hLW.2.2.2.2 (vp_in_nI (by omega) (by omega)) dL_law_1029 ?_
  refine xn_eqi (y := xs (i + 1)) (by rw [nI_clamp (by omega)]) ?_
  refine lc_2i (va_runV (As := [.int (xs (i + 1))]) (rest := [.int r1]) ⟨hx, hb, hml, hown, hts⟩ k2 (cwV 1 hts gL_law_X7_splash rfl rfl rfl (by decide +kernel) ⟨Nat.le_of_ble_eq_true rfl, Nat.le_of_ble_eq_true rfl⟩) (xk_preV X2_ok hK2 trivial hLW.2.1 (xk_recv hK2 hLW.2.1 0 (by omega) (ci := 7) e2_obj rfl)) rfl rfl hl.1 rfl (lv_room (Nat.le_of_ble_eq_true rfl)) dL_law_1030 ⟨Nat.le_of_ble_eq_true rfl, Nat.le_of_ble_eq_true rfl⟩) hLK hLW (fun r2 u2 H locs hp2 hLW => ?_)
  obtain ⟨rfl, hR⟩ := hag _ _ _ _ hp1 hp2
  refine lv_icmp_eq (tgt := 1120) hx hb dL_law_1033 (by decide) (fun _ => ?_) (fun q => absurd rfl q)
  exact K _ _ _ _ _ hLW hR hl

set_option maxHeartbeats 4000000 in
set_option maxRecDepth 100000 in
theorem cs_26 {p : Program} {e : Env} {s : State} {m : MethodId} {below : List Frame} {meth : Method} {c : Code} (l : Launch) {b L : Nat} {xs : Nat → Int32} (hL : L ≤ 3072) (C0 : lw_At p s m meth c b L xs) {D : va_G} {ca ca' : Nat → ClassId} {ad ad' : Nat → Nat} (hLK : LK D ca ca' ad ad' s) {i : Nat} (hi : i + 6 ≤ L) {σ1 σ2 : Sg} {H : Heap} {locs : List Loc} {ls : Array Slot} (hLW : LW D ca ca' ad ad' σ1 σ2 s H locs) (hR : R2 σ1 σ2) (hl : lv_has ls 4 [(0, .ref b), (1, .ref (ad 0)), (2, .ref (ad' 0)), (3, .int (nI i))]) (K : ∀ (σ1 σ2 : Sg) (H : Heap) (locs : List Loc) (ls : Array Slot), LW D ca ca' ad ad' σ1 σ2 s H locs → R2 σ1 σ2 → lv_has ls 4 [(0, .ref b), (1, .ref (ad 0)), (2, .ref (ad' 0)), (3, .int (nI i))] → W p l e room_1 s m #[Value.ref b] below meth c H locs 52 800 (lw_Z below #[Value.ref b] s) (F0 m 1120 ls [])) : W p l e room_1 s m #[Value.ref b] below meth c H locs 52 800 (lw_Z below #[Value.ref b] s) (F0 m 1038 ls []) := by
  obtain ⟨hx, hb, hr, hml, hown, hts0, hX, hbl, hlocks, hgv⟩ := id C0
  have hts : ∀ w ∈ wsL_law, w.before #[Value.ref b] s = true := fun w h => hts0 w (wsL_law_in w h)
  have hown : s.vm.findClass RL = some m.cls := hown
  have hbA : ¬ (fun q : Nat => s.heap.size ≤ q) b := Nat.not_le.mpr hbl
  obtain ⟨hK1, hK2, hX1, hi1, hi2, hb1, hb2, hdj⟩ := id hLK
  refine lv_aload_n hx hb dL_law_1038 rfl (lv_at hl 1 rfl) ?_
  refine lv_aload_n hx hb dL_law_1039 rfl (lv_at hl 0 rfl) ?_
  refine lv_iload_n hx hb dL_law_1040 rfl (lv_at hl 3 rfl) ?_
  refine lv_iconst (v := nI 1) hx hb dL_law_1041 (by decide) ?_
  refine xn_iadd hx hb dL_law_1042 ?_
  refine va_sld hx hb hX hbl hbA hLW.2.2.2.2 (vp_in_nI (by omega) (by omega)) dL_law_1043 ?_
  refine xn_eqi (y := xs (i + 1)) (by rw [nI_clamp (by omega)]) ?_
  refine lv_aload_n hx hb dL_law_1044 rfl (lv_at hl 0 rfl) ?_
  refine lv_iload_n hx hb dL_law_1045 rfl (lv_at hl 3 rfl) ?_
  refine lv_iconst (v := nI 2) hx hb dL_law_1046 (by decide) ?_
  refine xn_iadd hx hb dL_law_1047 ?_
  refine va_sld hx hb hX hbl hbA hLW.2.2.2.2 (vp_in_nI (by omega) (by omega)) dL_law_1048 ?_
  refine xn_eqi (y := xs (i + 2)) (by rw [nI_clamp (by omega)]) ?_
  obtain ⟨P1, P2, k1, k2, hag⟩ := ag_as l (D := D) (ca := ca) (ca' := ca') hi1 hi2 hR (xs (i + 1)) (xs (i + 2))
  refine lc_1i (va_runV (As := [.int (xs (i + 1)), .int (xs (i + 2))]) (rest := []) ⟨hx, hb, hml, hown, hts⟩ k1 (cwV 2 hts gL_law_X6_as rfl rfl rfl (by decide +kernel) ⟨Nat.le_of_ble_eq_true rfl, Nat.le_of_ble_eq_true rfl⟩) (xk_preV X1_ok hK1 hX1 hLW.1 (xk_recv hK1 hLW.1 0 (by omega) (ci := 6) e1_well rfl)) rfl rfl hl.1 rfl (lv_room (Nat.le_of_ble_eq_true rfl)) dL_law_1049 ⟨Nat.le_of_ble_eq_true rfl, Nat.le_of_ble_eq_true rfl⟩) hLK hLW (fun r1 u1 H locs hp1 hLW => ?_)
  refine lv_aload_n hx hb dL_law_1052 rfl (lv_at hl 2 rfl) ?_
  refine lv_aload_n hx hb dL_law_1053 rfl (lv_at hl 0 rfl) ?_
  refine lv_iload_n hx hb dL_law_1054 rfl (lv_at hl 3 rfl) ?_
  refine lv_iconst (v := nI 1) hx hb dL_law_1055 (by decide) ?_
  refine xn_iadd hx hb dL_law_1056 ?_
  refine va_sld hx hb hX hbl hbA hLW.2.2.2.2 (vp_in_nI (by omega) (by omega)) dL_law_1057 ?_
  refine xn_eqi (y := xs (i + 1)) (by rw [nI_clamp (by omega)]) ?_
  refine lv_aload_n hx hb dL_law_1058 rfl (lv_at hl 0 rfl) ?_
  refine lv_iload_n hx hb dL_law_1059 rfl (lv_at hl 3 rfl) ?_
  refine lv_iconst (v := nI 2) hx hb dL_law_1060 (by decide) ?_
  refine xn_iadd hx hb dL_law_1061 ?_
  refine va_sld hx hb hX hbl hbA hLW.2.2.2.2 (vp_in_nI (by omega) (by omega)) dL_law_1062 ?_
  refine xn_eqi (y := xs (i + 2)) (by rw [nI_clamp (by omega)]) ?_
  refine lc_2i (va_runV (As := [.int (xs (i + 1)), .int (xs (i + 2))]) (rest := [.int r1]) ⟨hx, hb, hml, hown, hts⟩ k2 (cwV 2 hts gL_law_X7_as rfl rfl rfl (by decide +kernel) ⟨Nat.le_of_ble_eq_true rfl, Nat.le_of_ble_eq_true rfl⟩) (xk_preV X2_ok hK2 trivial hLW.2.1 (xk_recv hK2 hLW.2.1 0 (by omega) (ci := 7) e2_obj rfl)) rfl rfl hl.1 rfl (lv_room (Nat.le_of_ble_eq_true rfl)) dL_law_1063 ⟨Nat.le_of_ble_eq_true rfl, Nat.le_of_ble_eq_true rfl⟩) hLK hLW (fun r2 u2 H locs hp2 hLW => ?_)
  obtain ⟨rfl, hR⟩ := hag _ _ _ _ hp1 hp2
  refine lv_icmp_eq (tgt := 1120) hx hb dL_law_1066 (by decide) (fun _ => ?_) (fun q => absurd rfl q)
  exact K _ _ _ _ _ hLW hR hl

set_option maxHeartbeats 4000000 in
set_option maxRecDepth 100000 in
theorem cs_27 {p : Program} {e : Env} {s : State} {m : MethodId} {below : List Frame} {meth : Method} {c : Code} (l : Launch) {b L : Nat} {xs : Nat → Int32} (hL : L ≤ 3072) (C0 : lw_At p s m meth c b L xs) {D : va_G} {ca ca' : Nat → ClassId} {ad ad' : Nat → Nat} (hLK : LK D ca ca' ad ad' s) {i : Nat} (hi : i + 6 ≤ L) {σ1 σ2 : Sg} {H : Heap} {locs : List Loc} {ls : Array Slot} (hLW : LW D ca ca' ad ad' σ1 σ2 s H locs) (hR : R2 σ1 σ2) (hl : lv_has ls 4 [(0, .ref b), (1, .ref (ad 0)), (2, .ref (ad' 0)), (3, .int (nI i))]) (K : ∀ (σ1 σ2 : Sg) (H : Heap) (locs : List Loc) (ls : Array Slot), LW D ca ca' ad ad' σ1 σ2 s H locs → R2 σ1 σ2 → lv_has ls 4 [(0, .ref b), (1, .ref (ad 0)), (2, .ref (ad' 0)), (3, .int (nI i))] → W p l e room_1 s m #[Value.ref b] below meth c H locs 52 800 (lw_Z below #[Value.ref b] s) (F0 m 1120 ls [])) : W p l e room_1 s m #[Value.ref b] below meth c H locs 52 800 (lw_Z below #[Value.ref b] s) (F0 m 1071 ls []) := by
  obtain ⟨hx, hb, hr, hml, hown, hts0, hX, hbl, hlocks, hgv⟩ := id C0
  have hts : ∀ w ∈ wsL_law, w.before #[Value.ref b] s = true := fun w h => hts0 w (wsL_law_in w h)
  have hown : s.vm.findClass RL = some m.cls := hown
  have hbA : ¬ (fun q : Nat => s.heap.size ≤ q) b := Nat.not_le.mpr hbl
  obtain ⟨hK1, hK2, hX1, hi1, hi2, hb1, hb2, hdj⟩ := id hLK
  refine lv_aload_n hx hb dL_law_1071 rfl (lv_at hl 1 rfl) ?_
  obtain ⟨P1, P2, k1, k2, hag⟩ := ag_trace l (D := D) (ca := ca) (ca' := ca') hi1 hi2 hR 
  refine lc_1i (va_runV (As := []) (rest := []) ⟨hx, hb, hml, hown, hts⟩ k1 (cwV 0 hts gL_law_X6_trace rfl rfl rfl (by decide +kernel) ⟨Nat.le_of_ble_eq_true rfl, Nat.le_of_ble_eq_true rfl⟩) (xk_preV X1_ok hK1 hX1 hLW.1 (xk_recv hK1 hLW.1 0 (by omega) (ci := 6) e1_well rfl)) rfl rfl hl.1 rfl (lv_room (Nat.le_of_ble_eq_true rfl)) dL_law_1072 ⟨Nat.le_of_ble_eq_true rfl, Nat.le_of_ble_eq_true rfl⟩) hLK hLW (fun r1 u1 H locs hp1 hLW => ?_)
  refine lv_aload_n hx hb dL_law_1075 rfl (lv_at hl 2 rfl) ?_
  refine lc_2i (va_runV (As := []) (rest := [.int r1]) ⟨hx, hb, hml, hown, hts⟩ k2 (cwV 0 hts gL_law_X7_trace rfl rfl rfl (by decide +kernel) ⟨Nat.le_of_ble_eq_true rfl, Nat.le_of_ble_eq_true rfl⟩) (xk_preV X2_ok hK2 trivial hLW.2.1 (xk_recv hK2 hLW.2.1 0 (by omega) (ci := 7) e2_obj rfl)) rfl rfl hl.1 rfl (lv_room (Nat.le_of_ble_eq_true rfl)) dL_law_1076 ⟨Nat.le_of_ble_eq_true rfl, Nat.le_of_ble_eq_true rfl⟩) hLK hLW (fun r2 u2 H locs hp2 hLW => ?_)
  obtain ⟨rfl, hR⟩ := hag _ _ _ _ hp1 hp2
  refine lv_icmp_eq (tgt := 1120) hx hb dL_law_1079 (by decide) (fun _ => ?_) (fun q => absurd rfl q)
  exact K _ _ _ _ _ hLW hR hl

set_option maxHeartbeats 4000000 in
set_option maxRecDepth 100000 in
theorem cs_28 {p : Program} {e : Env} {s : State} {m : MethodId} {below : List Frame} {meth : Method} {c : Code} (l : Launch) {b L : Nat} {xs : Nat → Int32} (hL : L ≤ 3072) (C0 : lw_At p s m meth c b L xs) {D : va_G} {ca ca' : Nat → ClassId} {ad ad' : Nat → Nat} (hLK : LK D ca ca' ad ad' s) {i : Nat} (hi : i + 6 ≤ L) {σ1 σ2 : Sg} {H : Heap} {locs : List Loc} {ls : Array Slot} (hLW : LW D ca ca' ad ad' σ1 σ2 s H locs) (hR : R2 σ1 σ2) (hl : lv_has ls 4 [(0, .ref b), (1, .ref (ad 0)), (2, .ref (ad' 0)), (3, .int (nI i))]) (K : ∀ (σ1 σ2 : Sg) (H : Heap) (locs : List Loc) (ls : Array Slot), LW D ca ca' ad ad' σ1 σ2 s H locs → R2 σ1 σ2 → lv_has ls 4 [(0, .ref b), (1, .ref (ad 0)), (2, .ref (ad' 0)), (3, .int (nI i))] → W p l e room_1 s m #[Value.ref b] below meth c H locs 52 800 (lw_Z below #[Value.ref b] s) (F0 m 1120 ls [])) : W p l e room_1 s m #[Value.ref b] below meth c H locs 52 800 (lw_Z below #[Value.ref b] s) (F0 m 1084 ls []) := by
  obtain ⟨hx, hb, hr, hml, hown, hts0, hX, hbl, hlocks, hgv⟩ := id C0
  have hts : ∀ w ∈ wsL_law, w.before #[Value.ref b] s = true := fun w h => hts0 w (wsL_law_in w h)
  have hown : s.vm.findClass RL = some m.cls := hown
  have hbA : ¬ (fun q : Nat => s.heap.size ≤ q) b := Nat.not_le.mpr hbl
  obtain ⟨hK1, hK2, hX1, hi1, hi2, hb1, hb2, hdj⟩ := id hLK
  refine lv_aload_n hx hb dL_law_1084 rfl (lv_at hl 1 rfl) ?_
  obtain ⟨P1, P2, k1, k2, hag⟩ := ag_fault l (D := D) (ca := ca) (ca' := ca') hi1 hi2 hR 
  refine lc_1i (va_runV (As := []) (rest := []) ⟨hx, hb, hml, hown, hts⟩ k1 (cwV 0 hts gL_law_X6_fault rfl rfl rfl (by decide +kernel) ⟨Nat.le_of_ble_eq_true rfl, Nat.le_of_ble_eq_true rfl⟩) (xk_preV X1_ok hK1 hX1 hLW.1 (xk_recv hK1 hLW.1 0 (by omega) (ci := 6) e1_well rfl)) rfl rfl hl.1 rfl (lv_room (Nat.le_of_ble_eq_true rfl)) dL_law_1085 ⟨Nat.le_of_ble_eq_true rfl, Nat.le_of_ble_eq_true rfl⟩) hLK hLW (fun r1 u1 H locs hp1 hLW => ?_)
  refine lv_aload_n hx hb dL_law_1088 rfl (lv_at hl 2 rfl) ?_
  refine lc_2i (va_runV (As := []) (rest := [.int r1]) ⟨hx, hb, hml, hown, hts⟩ k2 (cwV 0 hts gL_law_X7_fault rfl rfl rfl (by decide +kernel) ⟨Nat.le_of_ble_eq_true rfl, Nat.le_of_ble_eq_true rfl⟩) (xk_preV X2_ok hK2 trivial hLW.2.1 (xk_recv hK2 hLW.2.1 0 (by omega) (ci := 7) e2_obj rfl)) rfl rfl hl.1 rfl (lv_room (Nat.le_of_ble_eq_true rfl)) dL_law_1089 ⟨Nat.le_of_ble_eq_true rfl, Nat.le_of_ble_eq_true rfl⟩) hLK hLW (fun r2 u2 H locs hp2 hLW => ?_)
  obtain ⟨rfl, hR⟩ := hag _ _ _ _ hp1 hp2
  refine lv_icmp_eq (tgt := 1120) hx hb dL_law_1092 (by decide) (fun _ => ?_) (fun q => absurd rfl q)
  exact K _ _ _ _ _ hLW hR hl

set_option maxHeartbeats 4000000 in
set_option maxRecDepth 100000 in
theorem cs_29 {p : Program} {e : Env} {s : State} {m : MethodId} {below : List Frame} {meth : Method} {c : Code} (l : Launch) {b L : Nat} {xs : Nat → Int32} (hL : L ≤ 3072) (C0 : lw_At p s m meth c b L xs) {D : va_G} {ca ca' : Nat → ClassId} {ad ad' : Nat → Nat} (hLK : LK D ca ca' ad ad' s) {i : Nat} (hi : i + 6 ≤ L) {σ1 σ2 : Sg} {H : Heap} {locs : List Loc} {ls : Array Slot} (hLW : LW D ca ca' ad ad' σ1 σ2 s H locs) (hR : R2 σ1 σ2) (hl : lv_has ls 4 [(0, .ref b), (1, .ref (ad 0)), (2, .ref (ad' 0)), (3, .int (nI i))]) (K : ∀ (σ1 σ2 : Sg) (H : Heap) (locs : List Loc) (ls : Array Slot), LW D ca ca' ad ad' σ1 σ2 s H locs → R2 σ1 σ2 → lv_has ls 4 [(0, .ref b), (1, .ref (ad 0)), (2, .ref (ad' 0)), (3, .int (nI i))] → W p l e room_1 s m #[Value.ref b] below meth c H locs 52 800 (lw_Z below #[Value.ref b] s) (F0 m 1120 ls [])) : W p l e room_1 s m #[Value.ref b] below meth c H locs 52 800 (lw_Z below #[Value.ref b] s) (F0 m 1097 ls []) := by
  obtain ⟨hx, hb, hr, hml, hown, hts0, hX, hbl, hlocks, hgv⟩ := id C0
  have hts : ∀ w ∈ wsL_law, w.before #[Value.ref b] s = true := fun w h => hts0 w (wsL_law_in w h)
  have hown : s.vm.findClass RL = some m.cls := hown
  have hbA : ¬ (fun q : Nat => s.heap.size ≤ q) b := Nat.not_le.mpr hbl
  obtain ⟨hK1, hK2, hX1, hi1, hi2, hb1, hb2, hdj⟩ := id hLK
  refine lv_aload_n hx hb dL_law_1097 rfl (lv_at hl 1 rfl) ?_
  refine lv_aload_n hx hb dL_law_1098 rfl (lv_at hl 0 rfl) ?_
  refine lv_iload_n hx hb dL_law_1099 rfl (lv_at hl 3 rfl) ?_
  refine lv_iconst (v := nI 1) hx hb dL_law_1100 (by decide) ?_
  refine xn_iadd hx hb dL_law_1101 ?_
  refine va_sld hx hb hX hbl hbA hLW.2.2.2.2 (vp_in_nI (by omega) (by omega)) dL_law_1102 ?_
  refine xn_eqi (y := xs (i + 1)) (by rw [nI_clamp (by omega)]) ?_
  obtain ⟨P1, P2, k1, k2, hag⟩ := ag_many l (D := D) (ca := ca) (ca' := ca') hi1 hi2 hR (xs (i + 1))
  refine lc_1i (va_runV (As := [.int (xs (i + 1))]) (rest := []) ⟨hx, hb, hml, hown, hts⟩ k1 (cwV 1 hts gL_law_X6_many rfl rfl rfl (by decide +kernel) ⟨Nat.le_of_ble_eq_true rfl, Nat.le_of_ble_eq_true rfl⟩) (xk_preV X1_ok hK1 hX1 hLW.1 (xk_recv hK1 hLW.1 0 (by omega) (ci := 6) e1_well rfl)) rfl rfl hl.1 rfl (lv_room (Nat.le_of_ble_eq_true rfl)) dL_law_1103 ⟨Nat.le_of_ble_eq_true rfl, Nat.le_of_ble_eq_true rfl⟩) hLK hLW (fun r1 u1 H locs hp1 hLW => ?_)
  refine lv_aload_n hx hb dL_law_1106 rfl (lv_at hl 2 rfl) ?_
  refine lv_aload_n hx hb dL_law_1107 rfl (lv_at hl 0 rfl) ?_
  refine lv_iload_n hx hb dL_law_1108 rfl (lv_at hl 3 rfl) ?_
  refine lv_iconst (v := nI 1) hx hb dL_law_1109 (by decide) ?_
  refine xn_iadd hx hb dL_law_1110 ?_
  refine va_sld hx hb hX hbl hbA hLW.2.2.2.2 (vp_in_nI (by omega) (by omega)) dL_law_1111 ?_
  refine xn_eqi (y := xs (i + 1)) (by rw [nI_clamp (by omega)]) ?_
  refine lc_2i (va_runV (As := [.int (xs (i + 1))]) (rest := [.int r1]) ⟨hx, hb, hml, hown, hts⟩ k2 (cwV 1 hts gL_law_X7_many rfl rfl rfl (by decide +kernel) ⟨Nat.le_of_ble_eq_true rfl, Nat.le_of_ble_eq_true rfl⟩) (xk_preV X2_ok hK2 trivial hLW.2.1 (xk_recv hK2 hLW.2.1 0 (by omega) (ci := 7) e2_obj rfl)) rfl rfl hl.1 rfl (lv_room (Nat.le_of_ble_eq_true rfl)) dL_law_1112 ⟨Nat.le_of_ble_eq_true rfl, Nat.le_of_ble_eq_true rfl⟩) hLK hLW (fun r2 u2 H locs hp2 hLW => ?_)
  obtain ⟨rfl, hR⟩ := hag _ _ _ _ hp1 hp2
  refine lv_icmp_eq (tgt := 1120) hx hb dL_law_1115 (by decide) (fun _ => ?_) (fun q => absurd rfl q)
  exact K _ _ _ _ _ hLW hR hl

theorem ll_6 : ∀ L, L < 6 → ∀ i, i < 6 → nI L - nI 6 < nI i := by decide +kernel
set_option maxHeartbeats 4000000 in
set_option maxRecDepth 100000 in
theorem law_loop {p : Program} {e : Env} {s : State} {m : MethodId} {below : List Frame} {meth : Method} {c : Code} (l : Launch) {b L : Nat} {xs : Nat → Int32} (hL : L ≤ 3072) (C0 : lw_At p s m meth c b L xs) {D : va_G} {ca ca' : Nat → ClassId} {ad ad' : Nat → Nat} (hLK : LK D ca ca' ad ad' s) : ∀ (n i : Nat) (σ1 σ2 : Sg) (H : Heap) (locs : List Loc) (ls : Array Slot), i ≤ L → L < i + n → LW D ca ca' ad ad' σ1 σ2 s H locs → R2 σ1 σ2 → lv_has ls 4 [(0, .ref b), (1, .ref (ad 0)), (2, .ref (ad' 0)), (3, .int (nI i))] → W p l e room_1 s m #[Value.ref b] below meth c H locs 52 800 (lw_Z below #[Value.ref b] s) (F0 m 18 ls []) := by
  obtain ⟨hx, hb, hr, hml, hown, hts0, hX, hbl, hlocks, hgv⟩ := id C0
  have hts : ∀ w ∈ wsL_law, w.before #[Value.ref b] s = true := fun w h => hts0 w (wsL_law_in w h)
  have hown : s.vm.findClass RL = some m.cls := hown
  have hbA : ¬ (fun q : Nat => s.heap.size ≤ q) b := Nat.not_le.mpr hbl
  obtain ⟨hK1, hK2, hX1, hi1, hi2, hb1, hb2, hdj⟩ := id hLK
  intro n
  induction n with
  | zero =>
    intro i σ1 σ2 H locs ls h1 h2
    exact absurd h2 (by omega)
  | succ n ih =>
    intro i σ1 σ2 H locs ls hiL hin hLW hR hl
    refine lv_iload_n hx hb dL_law_18 rfl (lv_at hl 3 rfl) ?_
    refine lv_aload_n hx hb dL_law_19 rfl (lv_at hl 0 rfl) ?_
    refine va_slen hx hb hX hbl hbA hLW.2.2.2.2 dL_law_20 ?_
    refine lv_bipush (v := nI 6) hx hb dL_law_21 (by decide) ?_
    refine lv_isub hx hb dL_law_23 ?_
    have hend : ∀ ls, W p l e room_1 s m #[Value.ref b] below meth c H locs 52 800 (lw_Z below #[Value.ref b] s) (F0 m 1126 ls []) := fun ls => by
      refine lv_iconst (v := 1) hx hb dL_law_1126 (by decide) ?_
      refine va_forget (fun q hq => hLW.2.2.2.2.2.2 q hq) ?_
      refine W.widen (k := 600000) (n := 7302250) (by omega) (by omega) ?_
      exact lw_ret hx hb hr hlocks dL_law_1127
    by_cases h6 : i + 6 ≤ L
    · refine lv_icmp_gt (tgt := 1126) hx hb dL_law_24 (by decide) (fun q => absurd q (Int32.not_lt.mpr (by show nI i ≤ nI L - nI 6; rw [pk_sub (by omega)]; exact nI_le (by omega) (by omega)))) (fun _ => ?_)
      refine lv_aload_n hx hb dL_law_27 rfl (lv_at hl 0 rfl) ?_
      refine lv_iload_n hx hb dL_law_28 rfl (lv_at hl 3 rfl) ?_
      refine va_sld hx hb hX hbl hbA hLW.2.2.2.2 (vp_in_nI (by omega) (by omega)) dL_law_29 ?_
      refine xn_eqi (y := xs i) (by rw [nI_clamp (by omega)]) ?_
      refine lv_bipush (v := nI 31) hx hb dL_law_30 (by decide) ?_
      refine lv_iand hx hb dL_law_32 ?_
      have K : ∀ (σ1 σ2 : Sg) (H : Heap) (locs : List Loc) (ls : Array Slot), LW D ca ca' ad ad' σ1 σ2 s H locs → R2 σ1 σ2 → lv_has ls 4 [(0, .ref b), (1, .ref (ad 0)), (2, .ref (ad' 0)), (3, .int (nI i))] → W p l e room_1 s m #[Value.ref b] below meth c H locs 52 800 (lw_Z below #[Value.ref b] s) (F0 m 1120 ls []) := by
        intro σ1 σ2 H locs ls hLW hR hl
        refine lv_iinc (v := nI (i + 6)) (lv' := [(3, .int (nI (i + 6))), (0, .ref b), (1, .ref (ad 0)), (2, .ref (ad' 0))]) hx hb dL_law_1120 hl (k := 3) rfl (xn_inc _ 6) (by decide) rfl (fun ls hl => ?_)
        refine lv_goto (tgt := 18) hx hb dL_law_1123 (by decide) ?_
        exact ih (i + 6) σ1 σ2 H locs ls (by omega) (by omega) hLW hR (lv_sub hl [1, 2, 3, 0] rfl)
      obtain ⟨y, hy⟩ : ∃ y, y = xs i &&& nI 31 := ⟨_, rfl⟩
      rw [← hy]
      rcases cl_rg y 0 29 (by decide) with ⟨j, -, hj, rfl⟩ | hno
      · rcases (show j = 0 ∨ j = 1 ∨ j = 2 ∨ j = 3 ∨ j = 4 ∨ j = 5 ∨ j = 6 ∨ j = 7 ∨ j = 8 ∨ j = 9 ∨ j = 10 ∨ j = 11 ∨ j = 12 ∨ j = 13 ∨ j = 14 ∨ j = 15 ∨ j = 16 ∨ j = 17 ∨ j = 18 ∨ j = 19 ∨ j = 20 ∨ j = 21 ∨ j = 22 ∨ j = 23 ∨ j = 24 ∨ j = 25 ∨ j = 26 ∨ j = 27 ∨ j = 28 ∨ j = 29 by omega) with rfl | rfl | rfl | rfl | rfl | rfl | rfl | rfl | rfl | rfl | rfl | rfl | rfl | rfl | rfl | rfl | rfl | rfl | rfl | rfl | rfl | rfl | rfl | rfl | rfl | rfl | rfl | rfl | rfl | rfl
        · exact lv_tableIn (tgt := 168) hx hb dL_law_33 (by decide) (by decide) (off := 135) (by decide) (by decide) (cs_0 l hL C0 hLK h6 hLW hR hl K)
        · exact lv_tableIn (tgt := 221) hx hb dL_law_33 (by decide) (by decide) (off := 188) (by decide) (by decide) (cs_1 l hL C0 hLK h6 hLW hR hl K)
        · exact lv_tableIn (tgt := 254) hx hb dL_law_33 (by decide) (by decide) (off := 221) (by decide) (by decide) (cs_2 l hL C0 hLK h6 hLW hR hl K)
        · exact lv_tableIn (tgt := 277) hx hb dL_law_33 (by decide) (by decide) (off := 244) (by decide) (by decide) (cs_3 l hL C0 hLK h6 hLW hR hl K)
        · exact lv_tableIn (tgt := 310) hx hb dL_law_33 (by decide) (by decide) (off := 277) (by decide) (by decide) (cs_4 l hL C0 hLK h6 hLW hR hl K)
        · exact lv_tableIn (tgt := 333) hx hb dL_law_33 (by decide) (by decide) (off := 300) (by decide) (by decide) (cs_5 l hL C0 hLK h6 hLW hR hl K)
        · exact lv_tableIn (tgt := 366) hx hb dL_law_33 (by decide) (by decide) (off := 333) (by decide) (by decide) (cs_6 l hL C0 hLK h6 hLW hR hl K)
        · exact lv_tableIn (tgt := 419) hx hb dL_law_33 (by decide) (by decide) (off := 386) (by decide) (by decide) (cs_7 l hL C0 hLK h6 hLW hR hl K)
        · exact lv_tableIn (tgt := 452) hx hb dL_law_33 (by decide) (by decide) (off := 419) (by decide) (by decide) (cs_8 l hL C0 hLK h6 hLW hR hl K)
        · exact lv_tableIn (tgt := 475) hx hb dL_law_33 (by decide) (by decide) (off := 442) (by decide) (by decide) (cs_9 l hL C0 hLK h6 hLW hR hl K)
        · exact lv_tableIn (tgt := 498) hx hb dL_law_33 (by decide) (by decide) (off := 465) (by decide) (by decide) (cs_10 l hL C0 hLK h6 hLW hR hl K)
        · exact lv_tableIn (tgt := 561) hx hb dL_law_33 (by decide) (by decide) (off := 528) (by decide) (by decide) (cs_11 l hL C0 hLK h6 hLW hR hl K)
        · exact lv_tableIn (tgt := 594) hx hb dL_law_33 (by decide) (by decide) (off := 561) (by decide) (by decide) (cs_12 l hL C0 hLK h6 hLW hR hl K)
        · exact lv_tableIn (tgt := 617) hx hb dL_law_33 (by decide) (by decide) (off := 584) (by decide) (by decide) (cs_13 l hL C0 hLK h6 hLW hR hl K)
        · exact lv_tableIn (tgt := 660) hx hb dL_law_33 (by decide) (by decide) (off := 627) (by decide) (by decide) (cs_14 l hL C0 hLK h6 hLW hR hl K)
        · exact lv_tableIn (tgt := 683) hx hb dL_law_33 (by decide) (by decide) (off := 650) (by decide) (by decide) (cs_15 l hL C0 hLK h6 hLW hR hl K)
        · exact lv_tableIn (tgt := 706) hx hb dL_law_33 (by decide) (by decide) (off := 673) (by decide) (by decide) (cs_16 l hL C0 hLK h6 hLW hR hl K)
        · exact lv_tableIn (tgt := 729) hx hb dL_law_33 (by decide) (by decide) (off := 696) (by decide) (by decide) (cs_17 l hL C0 hLK h6 hLW hR hl K)
        · exact lv_tableIn (tgt := 742) hx hb dL_law_33 (by decide) (by decide) (off := 709) (by decide) (by decide) (cs_18 l hL C0 hLK h6 hLW hR hl K)
        · exact lv_tableIn (tgt := 776) hx hb dL_law_33 (by decide) (by decide) (off := 743) (by decide) (by decide) (cs_19 l hL C0 hLK h6 hLW hR hl K)
        · exact lv_tableIn (tgt := 819) hx hb dL_law_33 (by decide) (by decide) (off := 786) (by decide) (by decide) (cs_20 l hL C0 hLK h6 hLW hR hl K)
        · exact lv_tableIn (tgt := 842) hx hb dL_law_33 (by decide) (by decide) (off := 809) (by decide) (by decide) (cs_21 l hL C0 hLK h6 hLW hR hl K)
        · exact lv_tableIn (tgt := 885) hx hb dL_law_33 (by decide) (by decide) (off := 852) (by decide) (by decide) (cs_22 l hL C0 hLK h6 hLW hR hl K)
        · exact lv_tableIn (tgt := 929) hx hb dL_law_33 (by decide) (by decide) (off := 896) (by decide) (by decide) (cs_23 l hL C0 hLK h6 hLW hR hl K)
        · exact lv_tableIn (tgt := 992) hx hb dL_law_33 (by decide) (by decide) (off := 959) (by decide) (by decide) (cs_24 l hL C0 hLK h6 hLW hR hl K)
        · exact lv_tableIn (tgt := 1015) hx hb dL_law_33 (by decide) (by decide) (off := 982) (by decide) (by decide) (cs_25 l hL C0 hLK h6 hLW hR hl K)
        · exact lv_tableIn (tgt := 1038) hx hb dL_law_33 (by decide) (by decide) (off := 1005) (by decide) (by decide) (cs_26 l hL C0 hLK h6 hLW hR hl K)
        · exact lv_tableIn (tgt := 1071) hx hb dL_law_33 (by decide) (by decide) (off := 1038) (by decide) (by decide) (cs_27 l hL C0 hLK h6 hLW hR hl K)
        · exact lv_tableIn (tgt := 1084) hx hb dL_law_33 (by decide) (by decide) (off := 1051) (by decide) (by decide) (cs_28 l hL C0 hLK h6 hLW hR hl K)
        · exact lv_tableIn (tgt := 1097) hx hb dL_law_33 (by decide) (by decide) (off := 1064) (by decide) (by decide) (cs_29 l hL C0 hLK h6 hLW hR hl K)
      · exact lv_tableOut (tgt := 1120) hx hb dL_law_33 (xn_tab hno) (by decide) (K _ _ _ _ _ hLW hR hl)
    · refine lv_icmp_gt (tgt := 1126) hx hb dL_law_24 (by decide) (fun _ => hend _) (fun q => absurd ?_ q)
      show nI L - nI 6 < nI i
      rcases Nat.lt_or_ge L 6 with z | z
      · exact ll_6 L z i (by omega)
      · rw [pk_sub z]
        exact (nI_ltI (by omega) (by omega)).mpr (by omega)
