/-! the constructors -/
theorem va_1 {D : va_G} {cl : List vw_C} {tys : List (ClassId × FieldType)} {s : State} (hK : va_K D cl tys s) (i j : Nat) {a b : ClassId} (hi : tys[i]? = some (a, .int)) (hj : tys[j]? = some (b, .int)) : a = b := Option.some.inj ((va_nm_int (hK.2 i _ hi).2).symm.trans (va_nm_int (hK.2 j _ hj).2))
theorem arrV_cg {cI : ClassId} {N : Nat} {f g : Nat → Value} (h : ∀ j, j < N → f j = g j) : arrV cI N f = arrV cI N g := by
  unfold arrV
  congr 2
  funext j
  exact h j.val j.isLt
theorem va_Pf {D : va_G} {cl : List vw_C} {ws : va_W} {H : Heap} (hP : va_P D cl ws H) (k : Nat) {q : Nat} {cA : ClassId} {n : Nat} {f : Nat → Option Nat} (g : Nat → Option Nat) (he : ws[k]? = some (q, .inl (cA, n, .inr (.inr (.inr (.inr f)))))) (hfg : ∀ j, j < n → f j = g j) : va_P D cl (ws.set k (q, .inl (cA, n, .inr (.inr (.inr (.inr g)))))) H := by
  intro i e hi
  rw [List.getElem?_set] at hi
  by_cases hk : k = i
  · rw [if_pos hk] at hi
    by_cases hl : k < ws.length
    · rw [if_pos (by omega)] at hi
      cases hi
      have h1 : H[q]? = some (arrV cA n (fun j => va_rf (f j))) := hP k _ he
      show H[q]? = some (arrV cA n (fun j => va_rf (g j)))
      rw [h1, arrV_cg (fun j hj => by rw [hfg j hj])]
    · rw [if_neg (by omega)] at hi
      cases hi
  · rw [if_neg hk] at hi
    exact hP i e hi
theorem va_Df {A : Nat → Prop} {ws : va_W} (hD : va_D A ws) (k : Nat) {q : Nat} {e : va_E} (e' : va_E) (he : ws[k]? = some (q, e)) : va_D A (ws.set k (q, e')) := by
  have key : ∀ (i : Nat) (p : Nat × va_E), (ws.set k (q, e'))[i]? = some p → ∃ p', ws[i]? = some p' ∧ p'.1 = p.1 := by
    intro i p hp
    rw [List.getElem?_set] at hp
    by_cases hk : k = i
    · rw [if_pos hk] at hp
      by_cases hl : k < ws.length
      · rw [if_pos (by omega)] at hp
        cases hp
        exact ⟨(q, e), by rw [← hk]; exact he, rfl⟩
      · rw [if_neg (by omega)] at hp
        cases hp
    · rw [if_neg hk] at hp
      exact ⟨p, hp, rfl⟩
  refine ⟨fun i j p r hi hj hpr => ?_, fun i p hi => ?_⟩
  · obtain ⟨p', h1, h2⟩ := key i p hi
    obtain ⟨r', h3, h4⟩ := key j r hj
    exact hD.1 i j p' r' h1 h3 (by rw [h2, h4, hpr])
  · obtain ⟨p', h1, h2⟩ := key i p hi
    rw [← h2]
    exact hD.2 i p' h1
theorem Ij_of {A : Nat → Prop} {ad : Nat → Nat} {N : Nat} {en : Nat → va_E} (h : va_D A (wl ad N en)) : Ij ad N := fun i j hi hj e => h.1 i j _ _ (wl_get hi) (wl_get hj) e
def XI (U : State) : Prop := va_Nw (.methodLinkNest RX6 31 yX1_init "WellBack") U ∧ va_Nw (.methodLinkNest RX6 44 yX3_init "WellBack") U ∧ va_Nw (.methodLinkNest RX6 51 yX5_init "WellBack") U ∧ va_Nw (.methodLinkNest RX6 56 yX2_init "WellBack") U ∧ va_Nw (.methodLinkNest RX6 57 yX4_init "WellBack") U ∧ va_Nw (.methodLinkNest RX6 58 yX0_init "WellBack") U ∧ va_AO RX2 U ∧ va_AO RX4 U ∧ va_AO RX0 U
def z1 : Sg := fun i j => if 1 ≤ i ∧ i < 5 ∧ j = 1 then -9 else 0
def z2f : Nat → Int32 := upd (upd (upd (upd (fun _ => 0) 0 (-9)) 1 (-9)) 2 (-9)) 3 (-9)
def z2 : Sg := fun i j => if i = 1 then z2f j else 0

set_option maxHeartbeats 8000000 in
set_option maxRecDepth 100000 in
theorem iX0 (l : Launch) (D : va_G) (h0 sz : Nat) : Met l yX0_init wsX0_init ({ frames := 1, cells := 0, slots := 0, locals := 40 }) (va_Pc [.ref h0] (fun U => U.heap.size = sz ∧ va_P D vwCl [(h0, .inr (0, [.int 0, .int 0, .int 0]))] U.heap ∧ va_K D vwCl [] U ∧ va_D (fun _ => True) [(h0, .inr (0, [.int 0, .int 0, .int 0]))])) (va_Qv (fun _ => True) (fun (_ : Unit) U => va_P D vwCl [(h0, .inr (0, [.int 0, .int 0, .int 0]))] U.heap ∧ va_K D vwCl [] U ∧ va_D (va_A [(h0, .inr (0, [.int 0, .int 0, .int 0]))] sz) [(h0, .inr (0, [.int 0, .int 0, .int 0]))]) (va_A [(h0, .inr (0, [.int 0, .int 0, .int 0]))] sz)) 0 0 (va_A [(h0, .inr (0, [.int 0, .int 0, .int 0]))] sz) := by
  refine Met.ofW (cc := cX0_init) (maxL := 1) (ret := none) (by decide) rfl ?_
  intro p e s m args below meth c s₁ B hml hv
  obtain ⟨rfl, hsz, hP, hK, hD0⟩ := hv
  have hx := B.exec
  have hb := B.bytes
  have hr := B.returns
  have hts := atoms_spec (ws := wsX0_init) B.pre
  have hown : s.vm.findClass RX0 = some m.cls := findClass_of_methodNamed B.named
  have hin : meth.name = "<init>" := (name_of_methodNamed B.named B.method).1
  subst hsz
  have hD := hD0.self (sz := s.heap.size)
  generalize hAe : va_A [(h0, .inr (0, [.int 0, .int 0, .int 0]))] s.heap.size = A at hD ⊢
  have hA : ∀ q : Nat, s.heap.size ≤ q → A q := fun q h => by rw [← hAe]; exact Or.inr h
  have hS : va_S A s.heap s.heap [] := va_S.rf
  have hP : va_P D vwCl [(h0, .inr (0, [.int 0, .int 0, .int 0]))] s.heap := hP
  have hl := lv_entry ([.ref h0]) (n := 1) (Nat.le_of_ble_eq_true rfl)
  rw [lg_entry_eq]
  generalize (lg_sl ([.ref h0]) ++ List.replicate (1 - (lg_sl ([.ref h0])).length) Slot.unset).toArray = ls at hl ⊢
  have hl : lv_has ls 1 [(0, .ref h0)] := hl
  refine lv_aload_n hx hb dX0_init_0 rfl (lv_at hl 0 rfl) ?_
  refine W.objInit hx hb hown (hts (.methodLink RX0 1 objectInit) (by decide +kernel)) (hts (.instanceMethod objectInit) (by decide +kernel)) (hts (.code objectInit ⟨#[0xb1]⟩ 1 none) (List.mem_cons_of_mem _ (List.mem_of_getElem? (i := 2) rfl))) rfl (by rw [hml]; exact hl.1) rfl dX0_init_1 (Nat.le_of_ble_eq_true rfl) (Nat.le_of_ble_eq_true rfl) ?_
  refine W.eq (g2 := F0 m 4 ls []) rfl ?_
  exact W.vret hx hb hr (fun t ht hW => ⟨⟨(), rfl, trivial, by rw [ht]; exact hP, va_K.moved hW.alike hK, hD⟩, hS.F ht⟩) hS.2.2 dX0_init_4

set_option maxHeartbeats 8000000 in
set_option maxRecDepth 100000 in
theorem iX4 (l : Launch) (D : va_G) (h0 sz : Nat) : Met l yX4_init wsX4_init ({ frames := 1, cells := 0, slots := 0, locals := 40 }) (va_Pc [.ref h0] (fun U => U.heap.size = sz ∧ va_P D vwCl [(h0, .inr (4, [.int 0, .int 0, .int 0, .int 0, .int 0]))] U.heap ∧ va_K D vwCl [] U ∧ va_D (fun _ => True) [(h0, .inr (4, [.int 0, .int 0, .int 0, .int 0, .int 0]))])) (va_Qv (fun _ => True) (fun (_ : Unit) U => va_P D vwCl [(h0, .inr (4, [.int 0, .int 0, .int 0, .int 0, .int 0]))] U.heap ∧ va_K D vwCl [] U ∧ va_D (va_A [(h0, .inr (4, [.int 0, .int 0, .int 0, .int 0, .int 0]))] sz) [(h0, .inr (4, [.int 0, .int 0, .int 0, .int 0, .int 0]))]) (va_A [(h0, .inr (4, [.int 0, .int 0, .int 0, .int 0, .int 0]))] sz)) 0 0 (va_A [(h0, .inr (4, [.int 0, .int 0, .int 0, .int 0, .int 0]))] sz) := by
  refine Met.ofW (cc := cX4_init) (maxL := 1) (ret := none) (by decide) rfl ?_
  intro p e s m args below meth c s₁ B hml hv
  obtain ⟨rfl, hsz, hP, hK, hD0⟩ := hv
  have hx := B.exec
  have hb := B.bytes
  have hr := B.returns
  have hts := atoms_spec (ws := wsX4_init) B.pre
  have hown : s.vm.findClass RX4 = some m.cls := findClass_of_methodNamed B.named
  have hin : meth.name = "<init>" := (name_of_methodNamed B.named B.method).1
  subst hsz
  have hD := hD0.self (sz := s.heap.size)
  generalize hAe : va_A [(h0, .inr (4, [.int 0, .int 0, .int 0, .int 0, .int 0]))] s.heap.size = A at hD ⊢
  have hA : ∀ q : Nat, s.heap.size ≤ q → A q := fun q h => by rw [← hAe]; exact Or.inr h
  have hS : va_S A s.heap s.heap [] := va_S.rf
  have hP : va_P D vwCl [(h0, .inr (4, [.int 0, .int 0, .int 0, .int 0, .int 0]))] s.heap := hP
  have hl := lv_entry ([.ref h0]) (n := 1) (Nat.le_of_ble_eq_true rfl)
  rw [lg_entry_eq]
  generalize (lg_sl ([.ref h0]) ++ List.replicate (1 - (lg_sl ([.ref h0])).length) Slot.unset).toArray = ls at hl ⊢
  have hl : lv_has ls 1 [(0, .ref h0)] := hl
  refine lv_aload_n hx hb dX4_init_0 rfl (lv_at hl 0 rfl) ?_
  refine W.objInit hx hb hown (hts (.methodLink RX4 1 objectInit) (by decide +kernel)) (hts (.instanceMethod objectInit) (by decide +kernel)) (hts (.code objectInit ⟨#[0xb1]⟩ 1 none) (List.mem_cons_of_mem _ (List.mem_of_getElem? (i := 2) rfl))) rfl (by rw [hml]; exact hl.1) rfl dX4_init_1 (Nat.le_of_ble_eq_true rfl) (Nat.le_of_ble_eq_true rfl) ?_
  refine W.eq (g2 := F0 m 4 ls []) rfl ?_
  exact W.vret hx hb hr (fun t ht hW => ⟨⟨(), rfl, trivial, by rw [ht]; exact hP, va_K.moved hW.alike hK, hD⟩, hS.F ht⟩) hS.2.2 dX4_init_4

set_option maxHeartbeats 8000000 in
set_option maxRecDepth 100000 in
theorem iX5 (l : Launch) (D : va_G) (h0 sz : Nat) : Met l yX5_init wsX5_init ({ frames := 1, cells := 0, slots := 0, locals := 40 }) (va_Pc [.ref h0] (fun U => U.heap.size = sz ∧ va_P D vwCl [(h0, .inr (5, [.int 0, .int 0]))] U.heap ∧ va_K D vwCl [] U ∧ va_D (fun _ => True) [(h0, .inr (5, [.int 0, .int 0]))])) (va_Qv (fun _ => True) (fun (_ : Unit) U => va_P D vwCl [(h0, .inr (5, [.int 0, .int 0]))] U.heap ∧ va_K D vwCl [] U ∧ va_D (va_A [(h0, .inr (5, [.int 0, .int 0]))] sz) [(h0, .inr (5, [.int 0, .int 0]))]) (va_A [(h0, .inr (5, [.int 0, .int 0]))] sz)) 0 0 (va_A [(h0, .inr (5, [.int 0, .int 0]))] sz) := by
  refine Met.ofW (cc := cX5_init) (maxL := 1) (ret := none) (by decide) rfl ?_
  intro p e s m args below meth c s₁ B hml hv
  obtain ⟨rfl, hsz, hP, hK, hD0⟩ := hv
  have hx := B.exec
  have hb := B.bytes
  have hr := B.returns
  have hts := atoms_spec (ws := wsX5_init) B.pre
  have hown : s.vm.findClass RX5 = some m.cls := findClass_of_methodNamed B.named
  have hin : meth.name = "<init>" := (name_of_methodNamed B.named B.method).1
  subst hsz
  have hD := hD0.self (sz := s.heap.size)
  generalize hAe : va_A [(h0, .inr (5, [.int 0, .int 0]))] s.heap.size = A at hD ⊢
  have hA : ∀ q : Nat, s.heap.size ≤ q → A q := fun q h => by rw [← hAe]; exact Or.inr h
  have hS : va_S A s.heap s.heap [] := va_S.rf
  have hP : va_P D vwCl [(h0, .inr (5, [.int 0, .int 0]))] s.heap := hP
  have hl := lv_entry ([.ref h0]) (n := 1) (Nat.le_of_ble_eq_true rfl)
  rw [lg_entry_eq]
  generalize (lg_sl ([.ref h0]) ++ List.replicate (1 - (lg_sl ([.ref h0])).length) Slot.unset).toArray = ls at hl ⊢
  have hl : lv_has ls 1 [(0, .ref h0)] := hl
  refine lv_aload_n hx hb dX5_init_0 rfl (lv_at hl 0 rfl) ?_
  refine W.objInit hx hb hown (hts (.methodLink RX5 1 objectInit) (by decide +kernel)) (hts (.instanceMethod objectInit) (by decide +kernel)) (hts (.code objectInit ⟨#[0xb1]⟩ 1 none) (List.mem_cons_of_mem _ (List.mem_of_getElem? (i := 2) rfl))) rfl (by rw [hml]; exact hl.1) rfl dX5_init_1 (Nat.le_of_ble_eq_true rfl) (Nat.le_of_ble_eq_true rfl) ?_
  refine W.eq (g2 := F0 m 4 ls []) rfl ?_
  exact W.vret hx hb hr (fun t ht hW => ⟨⟨(), rfl, trivial, by rw [ht]; exact hP, va_K.moved hW.alike hK, hD⟩, hS.F ht⟩) hS.2.2 dX5_init_4

set_option maxRecDepth 20000 in
theorem flX1_init_9 {s : State} {av : Array Value} (hts : ∀ w ∈ wsX1_init, w.before av s = true) : (Cond.fieldLink RX1 9 "WellBack$Rota" "drawers" "[I").before av s = true := hts _ (by decide +kernel)
set_option maxRecDepth 20000 in
theorem inX1_init_X1 : ∀ w ∈ u_ws RX1 TX1 2, w ∈ wsX1_init := by decide +kernel
set_option maxHeartbeats 8000000 in
set_option maxRecDepth 100000 in
theorem iX1 (l : Launch) (D : va_G) (h0 sz : Nat) : Met l yX1_init wsX1_init ({ frames := 1, cells := 1, slots := 6, locals := 40 }) (va_Pc [.ref h0] (fun U => U.heap.size = sz ∧ va_P D vwCl [(h0, .inr (1, [.null, .int 0]))] U.heap ∧ va_K D vwCl [] U ∧ va_D (fun _ => True) [(h0, .inr (1, [.null, .int 0]))])) (va_Qv (fun _ => True) (fun (_ : Unit) U => ∃ (r : Nat) (cI : ClassId), va_P D vwCl [(h0, .inr (1, [.ref r, .int 0])), (r, .inl (cI, 6, .inl (fun _ => 0)))] U.heap ∧ va_K D vwCl [(cI, .int)] U ∧ va_D (va_A [(h0, .inr (1, [.null, .int 0]))] sz) [(h0, .inr (1, [.ref r, .int 0])), (r, .inl (cI, 6, .inl (fun _ => 0)))]) (va_A [(h0, .inr (1, [.null, .int 0]))] sz)) 1 6 (va_A [(h0, .inr (1, [.null, .int 0]))] sz) := by
  refine Met.ofW (cc := cX1_init) (maxL := 1) (ret := none) (by decide) rfl ?_
  intro p e s m args below meth c s₁ B hml hv
  obtain ⟨rfl, hsz, hP, hK, hD0⟩ := hv
  have hx := B.exec
  have hb := B.bytes
  have hr := B.returns
  have hts := atoms_spec (ws := wsX1_init) B.pre
  have hown : s.vm.findClass RX1 = some m.cls := findClass_of_methodNamed B.named
  have hin : meth.name = "<init>" := (name_of_methodNamed B.named B.method).1
  subst hsz
  have hD := hD0.self (sz := s.heap.size)
  generalize hAe : va_A [(h0, .inr (1, [.null, .int 0]))] s.heap.size = A at hD ⊢
  have hA : ∀ q : Nat, s.heap.size ≤ q → A q := fun q h => by rw [← hAe]; exact Or.inr h
  have hS : va_S A s.heap s.heap [] := va_S.rf
  have hP : va_P D vwCl [(h0, .inr (1, [.null, .int 0]))] s.heap := hP
  have hl := lv_entry ([.ref h0]) (n := 1) (Nat.le_of_ble_eq_true rfl)
  rw [lg_entry_eq]
  generalize (lg_sl ([.ref h0]) ++ List.replicate (1 - (lg_sl ([.ref h0])).length) Slot.unset).toArray = ls at hl ⊢
  have hl : lv_has ls 1 [(0, .ref h0)] := hl
  refine lv_aload_n hx hb dX1_init_0 rfl (lv_at hl 0 rfl) ?_
  refine W.objInit hx hb hown (hts (.methodLink RX1 3 objectInit) (by decide +kernel)) (hts (.instanceMethod objectInit) (by decide +kernel)) (hts (.code objectInit ⟨#[0xb1]⟩ 1 none) (List.mem_cons_of_mem _ (List.mem_append_left _ (List.mem_of_getElem? (i := 2) rfl)))) rfl (by rw [hml]; exact hl.1) rfl dX1_init_1 (Nat.le_of_ble_eq_true rfl) (Nat.le_of_ble_eq_true rfl) ?_
  refine W.eq (g2 := F0 m 4 ls []) rfl ?_
  refine lv_aload_n hx hb dX1_init_4 rfl (lv_at hl 0 rfl) ?_
  refine lv_bipush (v := nI 6) hx hb dX1_init_5 (by decide) ?_
  refine va_newa (atype := .int) (a0 := (6, .inl (fun _ => 0))) (ty := .int) hx hb (hts (.arrayClass .int) (by decide +kernel)) rfl hK hP hD hS hA (fun cA => rfl) (nI_pos (by omega)) (N' := 6) (nI_clamp (by omega)) (show 6 * 4 ≤ 536870912 by omega) (Nat.le_of_ble_eq_true rfl) (Nat.le_of_ble_eq_true rfl) dX1_init_7 (fun q7 c7 H hK hP hD hS => ?_)
  have hK : va_K D vwCl [(c7, .int)] s := hK
  have hP : va_P D vwCl [(h0, .inr (1, [.null, .int 0])), (q7, .inl (c7, 6, .inl (fun _ => 0)))] H := hP
  have hD : va_D A [(h0, .inr (1, [.null, .int 0])), (q7, .inl (c7, 6, .inl (fun _ => 0)))] := hD
  refine W.widen (k := 1) (n := 6) (by omega) (by omega) ?_
  refine va_putF (D := D) (ci := 1) (v := (.ref q7)) (C := RX1) (T := TX1) (N := 2) hx hb hts (inX1_init_X1) tyX1 tyX1_ok nmX1 hown hK hP hD hS 0 rfl rfl 0 (by decide) (flX1_init_9 hts) (fun _ h9 => h9) rfl hin rfl (tyX1_ok 0 (by decide)) rfl rfl (Nat.le_of_ble_eq_true rfl) dX1_init_9 (fun H locs hP hD hS => ?_)
  have hP : va_P D vwCl [(h0, .inr (1, [.ref q7, .int 0])), (q7, .inl (c7, 6, .inl (fun _ => 0)))] H := hP
  have hD : va_D A [(h0, .inr (1, [.ref q7, .int 0])), (q7, .inl (c7, 6, .inl (fun _ => 0)))] := hD
  exact W.vret hx hb hr (fun t ht hW => ⟨⟨(), rfl, trivial, q7, c7, by rw [ht]; exact hP, va_K.moved hW.alike hK, hD⟩, hS.F ht⟩) hS.2.2 dX1_init_12

set_option maxRecDepth 20000 in
theorem flX2_init_9 {s : State} {av : Array Value} (hts : ∀ w ∈ wsX2_init, w.before av s = true) : (Cond.fieldLink RX2 9 "WellBack$Sheet" "cells" "[I").before av s = true := hts _ (by decide +kernel)
set_option maxRecDepth 20000 in
theorem flX2_init_15 {s : State} {av : Array Value} (hts : ∀ w ∈ wsX2_init, w.before av s = true) : (Cond.fieldLink RX2 15 "WellBack$Sheet" "lane" "I").before av s = true := hts _ (by decide +kernel)
set_option maxRecDepth 20000 in
theorem inX2_init_X2 : ∀ w ∈ u_ws RX2 TX2 3, w ∈ wsX2_init := by decide +kernel
set_option maxHeartbeats 8000000 in
set_option maxRecDepth 100000 in
theorem iX2 (l : Launch) (D : va_G) (h0 sz : Nat) : Met l yX2_init wsX2_init ({ frames := 1, cells := 1, slots := 60, locals := 40 }) (va_Pc [.ref h0] (fun U => U.heap.size = sz ∧ va_P D vwCl [(h0, .inr (2, [.null, .int 0, .int 0]))] U.heap ∧ va_K D vwCl [] U ∧ va_D (fun _ => True) [(h0, .inr (2, [.null, .int 0, .int 0]))])) (va_Qv (fun _ => True) (fun (_ : Unit) U => ∃ (r : Nat) (cI : ClassId), va_P D vwCl [(h0, .inr (2, [.ref r, .int (-9), .int 0])), (r, .inl (cI, 60, .inl (fun _ => 0)))] U.heap ∧ va_K D vwCl [(cI, .int)] U ∧ va_D (va_A [(h0, .inr (2, [.null, .int 0, .int 0]))] sz) [(h0, .inr (2, [.ref r, .int (-9), .int 0])), (r, .inl (cI, 60, .inl (fun _ => 0)))]) (va_A [(h0, .inr (2, [.null, .int 0, .int 0]))] sz)) 1 60 (va_A [(h0, .inr (2, [.null, .int 0, .int 0]))] sz) := by
  refine Met.ofW (cc := cX2_init) (maxL := 1) (ret := none) (by decide) rfl ?_
  intro p e s m args below meth c s₁ B hml hv
  obtain ⟨rfl, hsz, hP, hK, hD0⟩ := hv
  have hx := B.exec
  have hb := B.bytes
  have hr := B.returns
  have hts := atoms_spec (ws := wsX2_init) B.pre
  have hown : s.vm.findClass RX2 = some m.cls := findClass_of_methodNamed B.named
  have hin : meth.name = "<init>" := (name_of_methodNamed B.named B.method).1
  subst hsz
  have hD := hD0.self (sz := s.heap.size)
  generalize hAe : va_A [(h0, .inr (2, [.null, .int 0, .int 0]))] s.heap.size = A at hD ⊢
  have hA : ∀ q : Nat, s.heap.size ≤ q → A q := fun q h => by rw [← hAe]; exact Or.inr h
  have hS : va_S A s.heap s.heap [] := va_S.rf
  have hP : va_P D vwCl [(h0, .inr (2, [.null, .int 0, .int 0]))] s.heap := hP
  have hl := lv_entry ([.ref h0]) (n := 1) (Nat.le_of_ble_eq_true rfl)
  rw [lg_entry_eq]
  generalize (lg_sl ([.ref h0]) ++ List.replicate (1 - (lg_sl ([.ref h0])).length) Slot.unset).toArray = ls at hl ⊢
  have hl : lv_has ls 1 [(0, .ref h0)] := hl
  refine lv_aload_n hx hb dX2_init_0 rfl (lv_at hl 0 rfl) ?_
  refine W.objInit hx hb hown (hts (.methodLink RX2 3 objectInit) (by decide +kernel)) (hts (.instanceMethod objectInit) (by decide +kernel)) (hts (.code objectInit ⟨#[0xb1]⟩ 1 none) (List.mem_cons_of_mem _ (List.mem_append_left _ (List.mem_of_getElem? (i := 2) rfl)))) rfl (by rw [hml]; exact hl.1) rfl dX2_init_1 (Nat.le_of_ble_eq_true rfl) (Nat.le_of_ble_eq_true rfl) ?_
  refine W.eq (g2 := F0 m 4 ls []) rfl ?_
  refine lv_aload_n hx hb dX2_init_4 rfl (lv_at hl 0 rfl) ?_
  refine lv_bipush (v := nI 60) hx hb dX2_init_5 (by decide) ?_
  refine va_newa (atype := .int) (a0 := (60, .inl (fun _ => 0))) (ty := .int) hx hb (hts (.arrayClass .int) (by decide +kernel)) rfl hK hP hD hS hA (fun cA => rfl) (nI_pos (by omega)) (N' := 60) (nI_clamp (by omega)) (show 60 * 4 ≤ 536870912 by omega) (Nat.le_of_ble_eq_true rfl) (Nat.le_of_ble_eq_true rfl) dX2_init_7 (fun q7 c7 H hK hP hD hS => ?_)
  have hK : va_K D vwCl [(c7, .int)] s := hK
  have hP : va_P D vwCl [(h0, .inr (2, [.null, .int 0, .int 0])), (q7, .inl (c7, 60, .inl (fun _ => 0)))] H := hP
  have hD : va_D A [(h0, .inr (2, [.null, .int 0, .int 0])), (q7, .inl (c7, 60, .inl (fun _ => 0)))] := hD
  refine W.widen (k := 1) (n := 60) (by omega) (by omega) ?_
  refine va_putF (D := D) (ci := 2) (v := (.ref q7)) (C := RX2) (T := TX2) (N := 3) hx hb hts (inX2_init_X2) tyX2 tyX2_ok nmX2 hown hK hP hD hS 0 rfl rfl 0 (by decide) (flX2_init_9 hts) (fun _ h9 => h9) rfl hin rfl (tyX2_ok 0 (by decide)) rfl rfl (Nat.le_of_ble_eq_true rfl) dX2_init_9 (fun H locs hP hD hS => ?_)
  have hP : va_P D vwCl [(h0, .inr (2, [.ref q7, .int 0, .int 0])), (q7, .inl (c7, 60, .inl (fun _ => 0)))] H := hP
  have hD : va_D A [(h0, .inr (2, [.ref q7, .int 0, .int 0])), (q7, .inl (c7, 60, .inl (fun _ => 0)))] := hD
  refine lv_aload_n hx hb dX2_init_12 rfl (lv_at hl 0 rfl) ?_
  refine lv_bipush (v := (-9)) hx hb dX2_init_13 (by decide) ?_
  refine va_put (D := D) (ci := 2) (v := (.int (-9))) (C := RX2) (T := TX2) (N := 3) hx hb hts (inX2_init_X2) tyX2 tyX2_ok nmX2 hown hK hP hD hS 0 rfl rfl 1 (by decide) (flX2_init_15 hts) (fun _ h9 => h9) rfl (tyX2_ok 1 (by decide)) rfl rfl (Nat.le_of_ble_eq_true rfl) dX2_init_15 (fun H locs hP hD hS => ?_)
  have hP : va_P D vwCl [(h0, .inr (2, [.ref q7, .int (-9), .int 0])), (q7, .inl (c7, 60, .inl (fun _ => 0)))] H := hP
  have hD : va_D A [(h0, .inr (2, [.ref q7, .int (-9), .int 0])), (q7, .inl (c7, 60, .inl (fun _ => 0)))] := hD
  exact W.vret hx hb hr (fun t ht hW => ⟨⟨(), rfl, trivial, q7, c7, by rw [ht]; exact hP, va_K.moved hW.alike hK, hD⟩, hS.F ht⟩) hS.2.2 dX2_init_18

set_option maxRecDepth 20000 in
theorem flX3_init_9 {s : State} {av : Array Value} (hts : ∀ w ∈ wsX3_init, w.before av s = true) : (Cond.fieldLink RX3 9 "WellBack$Text" "codes" "[I").before av s = true := hts _ (by decide +kernel)
set_option maxRecDepth 20000 in
theorem inX3_init_X3 : ∀ w ∈ u_ws RX3 TX3 2, w ∈ wsX3_init := by decide +kernel
set_option maxHeartbeats 8000000 in
set_option maxRecDepth 100000 in
theorem iX3 (l : Launch) (D : va_G) (h0 sz : Nat) : Met l yX3_init wsX3_init ({ frames := 1, cells := 1, slots := 60, locals := 40 }) (va_Pc [.ref h0] (fun U => U.heap.size = sz ∧ va_P D vwCl [(h0, .inr (3, [.null, .int 0]))] U.heap ∧ va_K D vwCl [] U ∧ va_D (fun _ => True) [(h0, .inr (3, [.null, .int 0]))])) (va_Qv (fun _ => True) (fun (_ : Unit) U => ∃ (r : Nat) (cI : ClassId), va_P D vwCl [(h0, .inr (3, [.ref r, .int 0])), (r, .inl (cI, 60, .inl (fun _ => 0)))] U.heap ∧ va_K D vwCl [(cI, .int)] U ∧ va_D (va_A [(h0, .inr (3, [.null, .int 0]))] sz) [(h0, .inr (3, [.ref r, .int 0])), (r, .inl (cI, 60, .inl (fun _ => 0)))]) (va_A [(h0, .inr (3, [.null, .int 0]))] sz)) 1 60 (va_A [(h0, .inr (3, [.null, .int 0]))] sz) := by
  refine Met.ofW (cc := cX3_init) (maxL := 1) (ret := none) (by decide) rfl ?_
  intro p e s m args below meth c s₁ B hml hv
  obtain ⟨rfl, hsz, hP, hK, hD0⟩ := hv
  have hx := B.exec
  have hb := B.bytes
  have hr := B.returns
  have hts := atoms_spec (ws := wsX3_init) B.pre
  have hown : s.vm.findClass RX3 = some m.cls := findClass_of_methodNamed B.named
  have hin : meth.name = "<init>" := (name_of_methodNamed B.named B.method).1
  subst hsz
  have hD := hD0.self (sz := s.heap.size)
  generalize hAe : va_A [(h0, .inr (3, [.null, .int 0]))] s.heap.size = A at hD ⊢
  have hA : ∀ q : Nat, s.heap.size ≤ q → A q := fun q h => by rw [← hAe]; exact Or.inr h
  have hS : va_S A s.heap s.heap [] := va_S.rf
  have hP : va_P D vwCl [(h0, .inr (3, [.null, .int 0]))] s.heap := hP
  have hl := lv_entry ([.ref h0]) (n := 1) (Nat.le_of_ble_eq_true rfl)
  rw [lg_entry_eq]
  generalize (lg_sl ([.ref h0]) ++ List.replicate (1 - (lg_sl ([.ref h0])).length) Slot.unset).toArray = ls at hl ⊢
  have hl : lv_has ls 1 [(0, .ref h0)] := hl
  refine lv_aload_n hx hb dX3_init_0 rfl (lv_at hl 0 rfl) ?_
  refine W.objInit hx hb hown (hts (.methodLink RX3 3 objectInit) (by decide +kernel)) (hts (.instanceMethod objectInit) (by decide +kernel)) (hts (.code objectInit ⟨#[0xb1]⟩ 1 none) (List.mem_cons_of_mem _ (List.mem_append_left _ (List.mem_of_getElem? (i := 2) rfl)))) rfl (by rw [hml]; exact hl.1) rfl dX3_init_1 (Nat.le_of_ble_eq_true rfl) (Nat.le_of_ble_eq_true rfl) ?_
  refine W.eq (g2 := F0 m 4 ls []) rfl ?_
  refine lv_aload_n hx hb dX3_init_4 rfl (lv_at hl 0 rfl) ?_
  refine lv_bipush (v := nI 60) hx hb dX3_init_5 (by decide) ?_
  refine va_newa (atype := .int) (a0 := (60, .inl (fun _ => 0))) (ty := .int) hx hb (hts (.arrayClass .int) (by decide +kernel)) rfl hK hP hD hS hA (fun cA => rfl) (nI_pos (by omega)) (N' := 60) (nI_clamp (by omega)) (show 60 * 4 ≤ 536870912 by omega) (Nat.le_of_ble_eq_true rfl) (Nat.le_of_ble_eq_true rfl) dX3_init_7 (fun q7 c7 H hK hP hD hS => ?_)
  have hK : va_K D vwCl [(c7, .int)] s := hK
  have hP : va_P D vwCl [(h0, .inr (3, [.null, .int 0])), (q7, .inl (c7, 60, .inl (fun _ => 0)))] H := hP
  have hD : va_D A [(h0, .inr (3, [.null, .int 0])), (q7, .inl (c7, 60, .inl (fun _ => 0)))] := hD
  refine W.widen (k := 1) (n := 60) (by omega) (by omega) ?_
  refine va_putF (D := D) (ci := 3) (v := (.ref q7)) (C := RX3) (T := TX3) (N := 2) hx hb hts (inX3_init_X3) tyX3 tyX3_ok nmX3 hown hK hP hD hS 0 rfl rfl 0 (by decide) (flX3_init_9 hts) (fun _ h9 => h9) rfl hin rfl (tyX3_ok 0 (by decide)) rfl rfl (Nat.le_of_ble_eq_true rfl) dX3_init_9 (fun H locs hP hD hS => ?_)
  have hP : va_P D vwCl [(h0, .inr (3, [.ref q7, .int 0])), (q7, .inl (c7, 60, .inl (fun _ => 0)))] H := hP
  have hD : va_D A [(h0, .inr (3, [.ref q7, .int 0])), (q7, .inl (c7, 60, .inl (fun _ => 0)))] := hD
  exact W.vret hx hb hr (fun t ht hW => ⟨⟨(), rfl, trivial, q7, c7, by rw [ht]; exact hP, va_K.moved hW.alike hK, hD⟩, hS.F ht⟩) hS.2.2 dX3_init_12

set_option maxRecDepth 20000 in
theorem flX7_init_9 {s : State} {av : Array Value} (hts : ∀ w ∈ wsX7_init, w.before av s = true) : (Cond.fieldLink RX7 9 "WellBackModel" "sorts" "[I").before av s = true := hts _ (by decide +kernel)
set_option maxRecDepth 20000 in
theorem flX7_init_13 {s : State} {av : Array Value} (hts : ∀ w ∈ wsX7_init, w.before av s = true) : (Cond.fieldLink RX7 13 "WellBackModel" "sheetLong" "[I").before av s = true := hts _ (by decide +kernel)
set_option maxRecDepth 20000 in
theorem flX7_init_16 {s : State} {av : Array Value} (hts : ∀ w ∈ wsX7_init, w.before av s = true) : (Cond.fieldLink RX7 16 "WellBackModel" "cells" "[I").before av s = true := hts _ (by decide +kernel)
set_option maxRecDepth 20000 in
theorem flX7_init_19 {s : State} {av : Array Value} (hts : ∀ w ∈ wsX7_init, w.before av s = true) : (Cond.fieldLink RX7 19 "WellBackModel" "rota" "[I").before av s = true := hts _ (by decide +kernel)
set_option maxRecDepth 20000 in
theorem flX7_init_22 {s : State} {av : Array Value} (hts : ∀ w ∈ wsX7_init, w.before av s = true) : (Cond.fieldLink RX7 22 "WellBackModel" "kind" "[I").before av s = true := hts _ (by decide +kernel)
set_option maxRecDepth 20000 in
theorem flX7_init_25 {s : State} {av : Array Value} (hts : ∀ w ∈ wsX7_init, w.before av s = true) : (Cond.fieldLink RX7 25 "WellBackModel" "weight" "[I").before av s = true := hts _ (by decide +kernel)
set_option maxRecDepth 20000 in
theorem flX7_init_28 {s : State} {av : Array Value} (hts : ∀ w ∈ wsX7_init, w.before av s = true) : (Cond.fieldLink RX7 28 "WellBackModel" "owner" "[I").before av s = true := hts _ (by decide +kernel)
set_option maxRecDepth 20000 in
theorem flX7_init_31 {s : State} {av : Array Value} (hts : ∀ w ∈ wsX7_init, w.before av s = true) : (Cond.fieldLink RX7 31 "WellBackModel" "goal" "[I").before av s = true := hts _ (by decide +kernel)
set_option maxRecDepth 20000 in
theorem flX7_init_34 {s : State} {av : Array Value} (hts : ∀ w ∈ wsX7_init, w.before av s = true) : (Cond.fieldLink RX7 34 "WellBackModel" "hourOf" "[I").before av s = true := hts _ (by decide +kernel)
set_option maxRecDepth 20000 in
theorem flX7_init_37 {s : State} {av : Array Value} (hts : ∀ w ∈ wsX7_init, w.before av s = true) : (Cond.fieldLink RX7 37 "WellBackModel" "readRota" "[I").before av s = true := hts _ (by decide +kernel)
set_option maxRecDepth 20000 in
theorem flX7_init_40 {s : State} {av : Array Value} (hts : ∀ w ∈ wsX7_init, w.before av s = true) : (Cond.fieldLink RX7 40 "WellBackModel" "read" "[I").before av s = true := hts _ (by decide +kernel)
set_option maxRecDepth 20000 in
theorem flX7_init_43 {s : State} {av : Array Value} (hts : ∀ w ∈ wsX7_init, w.before av s = true) : (Cond.fieldLink RX7 43 "WellBackModel" "count" "[I").before av s = true := hts _ (by decide +kernel)
set_option maxRecDepth 20000 in
theorem flX7_init_46 {s : State} {av : Array Value} (hts : ∀ w ∈ wsX7_init, w.before av s = true) : (Cond.fieldLink RX7 46 "WellBackModel" "kept" "[I").before av s = true := hts _ (by decide +kernel)
set_option maxRecDepth 20000 in
theorem flX7_init_49 {s : State} {av : Array Value} (hts : ∀ w ∈ wsX7_init, w.before av s = true) : (Cond.fieldLink RX7 49 "WellBackModel" "found" "[I").before av s = true := hts _ (by decide +kernel)
set_option maxRecDepth 20000 in
theorem flX7_init_52 {s : State} {av : Array Value} (hts : ∀ w ∈ wsX7_init, w.before av s = true) : (Cond.fieldLink RX7 52 "WellBackModel" "readThing" "[I").before av s = true := hts _ (by decide +kernel)
set_option maxRecDepth 20000 in
theorem flX7_init_55 {s : State} {av : Array Value} (hts : ∀ w ∈ wsX7_init, w.before av s = true) : (Cond.fieldLink RX7 55 "WellBackModel" "readHour" "[I").before av s = true := hts _ (by decide +kernel)
set_option maxRecDepth 20000 in
theorem flX7_init_58 {s : State} {av : Array Value} (hts : ∀ w ∈ wsX7_init, w.before av s = true) : (Cond.fieldLink RX7 58 "WellBackModel" "readDrawer" "[I").before av s = true := hts _ (by decide +kernel)
set_option maxRecDepth 20000 in
theorem inX7_init_X7 : ∀ w ∈ u_ws RX7 TX7 30, w ∈ wsX7_init := by decide +kernel
set_option maxHeartbeats 8000000 in
set_option maxRecDepth 100000 in
theorem iX7 (l : Launch) (D : va_G) (h0 sz : Nat) : Met l yX7_init wsX7_init ({ frames := 1, cells := 17, slots := 351, locals := 40 }) (va_Pc [.ref h0] (fun U => U.heap.size = sz ∧ va_P D vwCl [(h0, .inr (7, [.int 0, .int 0, .null, .null, .null, .int 0, .int 0, .int 0, .null, .null, .null, .null, .null, .null, .int 0, .int 0, .int 0, .int 0, .null, .null, .int 0, .int 0, .int 0, .null, .null, .null, .int 0, .null, .null, .null]))] U.heap ∧ va_K D vwCl [] U ∧ va_D (fun _ => True) [(h0, .inr (7, [.int 0, .int 0, .null, .null, .null, .int 0, .int 0, .int 0, .null, .null, .null, .null, .null, .null, .int 0, .int 0, .int 0, .int 0, .null, .null, .int 0, .int 0, .int 0, .null, .null, .null, .int 0, .null, .null, .null]))])) (va_Qv (fun _ => True) (fun (_ : Unit) U => ∃ (ad : Nat → Nat) (ca : Nat → ClassId), ad 0 = h0 ∧ va_P D vwCl (wl ad 18 (en2 ad ca z2)) U.heap ∧ va_K D vwCl (tys2 ca) U ∧ va_D (va_A [(h0, .inr (7, [.int 0, .int 0, .null, .null, .null, .int 0, .int 0, .int 0, .null, .null, .null, .null, .null, .null, .int 0, .int 0, .int 0, .int 0, .null, .null, .int 0, .int 0, .int 0, .null, .null, .null, .int 0, .null, .null, .null]))] sz) (wl ad 18 (en2 ad ca z2))) (va_A [(h0, .inr (7, [.int 0, .int 0, .null, .null, .null, .int 0, .int 0, .int 0, .null, .null, .null, .null, .null, .null, .int 0, .int 0, .int 0, .int 0, .null, .null, .int 0, .int 0, .int 0, .null, .null, .null, .int 0, .null, .null, .null]))] sz)) 17 351 (va_A [(h0, .inr (7, [.int 0, .int 0, .null, .null, .null, .int 0, .int 0, .int 0, .null, .null, .null, .null, .null, .null, .int 0, .int 0, .int 0, .int 0, .null, .null, .int 0, .int 0, .int 0, .null, .null, .null, .int 0, .null, .null, .null]))] sz) := by
  refine Met.ofW (cc := cX7_init) (maxL := 1) (ret := none) (by decide) rfl ?_
  intro p e s m args below meth c s₁ B hml hv
  obtain ⟨rfl, hsz, hP, hK, hD0⟩ := hv
  have hx := B.exec
  have hb := B.bytes
  have hr := B.returns
  have hts := atoms_spec (ws := wsX7_init) B.pre
  have hown : s.vm.findClass RX7 = some m.cls := findClass_of_methodNamed B.named
  have hin : meth.name = "<init>" := (name_of_methodNamed B.named B.method).1
  subst hsz
  have hD := hD0.self (sz := s.heap.size)
  generalize hAe : va_A [(h0, .inr (7, [.int 0, .int 0, .null, .null, .null, .int 0, .int 0, .int 0, .null, .null, .null, .null, .null, .null, .int 0, .int 0, .int 0, .int 0, .null, .null, .int 0, .int 0, .int 0, .null, .null, .null, .int 0, .null, .null, .null]))] s.heap.size = A at hD ⊢
  have hA : ∀ q : Nat, s.heap.size ≤ q → A q := fun q h => by rw [← hAe]; exact Or.inr h
  have hS : va_S A s.heap s.heap [] := va_S.rf
  have hP : va_P D vwCl [(h0, .inr (7, [.int 0, .int 0, .null, .null, .null, .int 0, .int 0, .int 0, .null, .null, .null, .null, .null, .null, .int 0, .int 0, .int 0, .int 0, .null, .null, .int 0, .int 0, .int 0, .null, .null, .null, .int 0, .null, .null, .null]))] s.heap := hP
  have hl := lv_entry ([.ref h0]) (n := 1) (Nat.le_of_ble_eq_true rfl)
  rw [lg_entry_eq]
  generalize (lg_sl ([.ref h0]) ++ List.replicate (1 - (lg_sl ([.ref h0])).length) Slot.unset).toArray = ls at hl ⊢
  have hl : lv_has ls 1 [(0, .ref h0)] := hl
  refine lv_aload_n hx hb dX7_init_0 rfl (lv_at hl 0 rfl) ?_
  refine W.objInit hx hb hown (hts (.methodLink RX7 1 objectInit) (by decide +kernel)) (hts (.instanceMethod objectInit) (by decide +kernel)) (hts (.code objectInit ⟨#[0xb1]⟩ 1 none) (List.mem_cons_of_mem _ (List.mem_append_left _ (List.mem_of_getElem? (i := 2) rfl)))) rfl (by rw [hml]; exact hl.1) rfl dX7_init_1 (Nat.le_of_ble_eq_true rfl) (Nat.le_of_ble_eq_true rfl) ?_
  refine W.eq (g2 := F0 m 4 ls []) rfl ?_
  refine lv_aload_n hx hb dX7_init_4 rfl (lv_at hl 0 rfl) ?_
  refine lv_iconst (v := nI 4) hx hb dX7_init_5 (by decide) ?_
  refine va_newa (atype := .int) (a0 := (4, .inl (fun _ => 0))) (ty := .int) hx hb (hts (.arrayClass .int) (by decide +kernel)) rfl hK hP hD hS hA (fun cA => rfl) (nI_pos (by omega)) (N' := 4) (nI_clamp (by omega)) (show 4 * 4 ≤ 536870912 by omega) (Nat.le_of_ble_eq_true rfl) (Nat.le_of_ble_eq_true rfl) dX7_init_6 (fun q6 c6 H hK hP hD hS => ?_)
  have hK : va_K D vwCl [(c6, .int)] s := hK
  have hP : va_P D vwCl [(h0, .inr (7, [.int 0, .int 0, .null, .null, .null, .int 0, .int 0, .int 0, .null, .null, .null, .null, .null, .null, .int 0, .int 0, .int 0, .int 0, .null, .null, .int 0, .int 0, .int 0, .null, .null, .null, .int 0, .null, .null, .null])), (q6, .inl (c6, 4, .inl (fun _ => 0)))] H := hP
  have hD : va_D A [(h0, .inr (7, [.int 0, .int 0, .null, .null, .null, .int 0, .int 0, .int 0, .null, .null, .null, .null, .null, .null, .int 0, .int 0, .int 0, .int 0, .null, .null, .int 0, .int 0, .int 0, .null, .null, .null, .int 0, .null, .null, .null])), (q6, .inl (c6, 4, .inl (fun _ => 0)))] := hD
  refine W.widen (k := 1) (n := 4) (by omega) (by omega) ?_
  refine lv_dup hx hb dX7_init_8 rfl ?_
  refine lv_iconst (v := nI 0) hx hb dX7_init_9 (by decide) ?_
  refine lv_bipush (v := (-9)) hx hb dX7_init_10 (by decide) ?_
  refine va_iast hx hb hK hP hD hS 1 0 rfl rfl (vp_in_nI (by decide) (by decide)) dX7_init_12 (fun H locs hP hD hS => ?_)
  rw [nI_clamp (by decide)] at hP hD
  have hP : va_P D vwCl [(h0, .inr (7, [.int 0, .int 0, .null, .null, .null, .int 0, .int 0, .int 0, .null, .null, .null, .null, .null, .null, .int 0, .int 0, .int 0, .int 0, .null, .null, .int 0, .int 0, .int 0, .null, .null, .null, .int 0, .null, .null, .null])), (q6, .inl (c6, 4, .inl (upd (fun _ => 0) 0 (-9))))] H := hP
  have hD : va_D A [(h0, .inr (7, [.int 0, .int 0, .null, .null, .null, .int 0, .int 0, .int 0, .null, .null, .null, .null, .null, .null, .int 0, .int 0, .int 0, .int 0, .null, .null, .int 0, .int 0, .int 0, .null, .null, .null, .int 0, .null, .null, .null])), (q6, .inl (c6, 4, .inl (upd (fun _ => 0) 0 (-9))))] := hD
  refine lv_dup hx hb dX7_init_13 rfl ?_
  refine lv_iconst (v := nI 1) hx hb dX7_init_14 (by decide) ?_
  refine lv_bipush (v := (-9)) hx hb dX7_init_15 (by decide) ?_
  refine va_iast hx hb hK hP hD hS 1 0 rfl rfl (vp_in_nI (by decide) (by decide)) dX7_init_17 (fun H locs hP hD hS => ?_)
  rw [nI_clamp (by decide)] at hP hD
  have hP : va_P D vwCl [(h0, .inr (7, [.int 0, .int 0, .null, .null, .null, .int 0, .int 0, .int 0, .null, .null, .null, .null, .null, .null, .int 0, .int 0, .int 0, .int 0, .null, .null, .int 0, .int 0, .int 0, .null, .null, .null, .int 0, .null, .null, .null])), (q6, .inl (c6, 4, .inl (upd (upd (fun _ => 0) 0 (-9)) 1 (-9))))] H := hP
  have hD : va_D A [(h0, .inr (7, [.int 0, .int 0, .null, .null, .null, .int 0, .int 0, .int 0, .null, .null, .null, .null, .null, .null, .int 0, .int 0, .int 0, .int 0, .null, .null, .int 0, .int 0, .int 0, .null, .null, .null, .int 0, .null, .null, .null])), (q6, .inl (c6, 4, .inl (upd (upd (fun _ => 0) 0 (-9)) 1 (-9))))] := hD
  refine lv_dup hx hb dX7_init_18 rfl ?_
  refine lv_iconst (v := nI 2) hx hb dX7_init_19 (by decide) ?_
  refine lv_bipush (v := (-9)) hx hb dX7_init_20 (by decide) ?_
  refine va_iast hx hb hK hP hD hS 1 0 rfl rfl (vp_in_nI (by decide) (by decide)) dX7_init_22 (fun H locs hP hD hS => ?_)
  rw [nI_clamp (by decide)] at hP hD
  have hP : va_P D vwCl [(h0, .inr (7, [.int 0, .int 0, .null, .null, .null, .int 0, .int 0, .int 0, .null, .null, .null, .null, .null, .null, .int 0, .int 0, .int 0, .int 0, .null, .null, .int 0, .int 0, .int 0, .null, .null, .null, .int 0, .null, .null, .null])), (q6, .inl (c6, 4, .inl (upd (upd (upd (fun _ => 0) 0 (-9)) 1 (-9)) 2 (-9))))] H := hP
  have hD : va_D A [(h0, .inr (7, [.int 0, .int 0, .null, .null, .null, .int 0, .int 0, .int 0, .null, .null, .null, .null, .null, .null, .int 0, .int 0, .int 0, .int 0, .null, .null, .int 0, .int 0, .int 0, .null, .null, .null, .int 0, .null, .null, .null])), (q6, .inl (c6, 4, .inl (upd (upd (upd (fun _ => 0) 0 (-9)) 1 (-9)) 2 (-9))))] := hD
  refine lv_dup hx hb dX7_init_23 rfl ?_
  refine lv_iconst (v := nI 3) hx hb dX7_init_24 (by decide) ?_
  refine lv_bipush (v := (-9)) hx hb dX7_init_25 (by decide) ?_
  refine va_iast hx hb hK hP hD hS 1 0 rfl rfl (vp_in_nI (by decide) (by decide)) dX7_init_27 (fun H locs hP hD hS => ?_)
  rw [nI_clamp (by decide)] at hP hD
  have hP : va_P D vwCl [(h0, .inr (7, [.int 0, .int 0, .null, .null, .null, .int 0, .int 0, .int 0, .null, .null, .null, .null, .null, .null, .int 0, .int 0, .int 0, .int 0, .null, .null, .int 0, .int 0, .int 0, .null, .null, .null, .int 0, .null, .null, .null])), (q6, .inl (c6, 4, .inl (upd (upd (upd (upd (fun _ => 0) 0 (-9)) 1 (-9)) 2 (-9)) 3 (-9))))] H := hP
  have hD : va_D A [(h0, .inr (7, [.int 0, .int 0, .null, .null, .null, .int 0, .int 0, .int 0, .null, .null, .null, .null, .null, .null, .int 0, .int 0, .int 0, .int 0, .null, .null, .int 0, .int 0, .int 0, .null, .null, .null, .int 0, .null, .null, .null])), (q6, .inl (c6, 4, .inl (upd (upd (upd (upd (fun _ => 0) 0 (-9)) 1 (-9)) 2 (-9)) 3 (-9))))] := hD
  refine va_putF (D := D) (ci := 7) (v := (.ref q6)) (C := RX7) (T := TX7) (N := 30) hx hb hts (inX7_init_X7) tyX7 tyX7_ok nmX7 hown hK hP hD hS 0 rfl rfl 2 (by decide) (flX7_init_9 hts) (fun _ h9 => h9) rfl hin rfl (tyX7_ok 2 (by decide)) rfl rfl (Nat.le_of_ble_eq_true rfl) dX7_init_28 (fun H locs hP hD hS => ?_)
  have hP : va_P D vwCl [(h0, .inr (7, [.int 0, .int 0, .ref q6, .null, .null, .int 0, .int 0, .int 0, .null, .null, .null, .null, .null, .null, .int 0, .int 0, .int 0, .int 0, .null, .null, .int 0, .int 0, .int 0, .null, .null, .null, .int 0, .null, .null, .null])), (q6, .inl (c6, 4, .inl (upd (upd (upd (upd (fun _ => 0) 0 (-9)) 1 (-9)) 2 (-9)) 3 (-9))))] H := hP
  have hD : va_D A [(h0, .inr (7, [.int 0, .int 0, .ref q6, .null, .null, .int 0, .int 0, .int 0, .null, .null, .null, .null, .null, .null, .int 0, .int 0, .int 0, .int 0, .null, .null, .int 0, .int 0, .int 0, .null, .null, .null, .int 0, .null, .null, .null])), (q6, .inl (c6, 4, .inl (upd (upd (upd (upd (fun _ => 0) 0 (-9)) 1 (-9)) 2 (-9)) 3 (-9))))] := hD
  refine lv_aload_n hx hb dX7_init_31 rfl (lv_at hl 0 rfl) ?_
  refine lv_iconst (v := nI 4) hx hb dX7_init_32 (by decide) ?_
  refine va_newa (atype := .int) (a0 := (4, .inl (fun _ => 0))) (ty := .int) hx hb (hts (.arrayClass .int) (by decide +kernel)) rfl hK hP hD hS hA (fun cA => rfl) (nI_pos (by omega)) (N' := 4) (nI_clamp (by omega)) (show 4 * 4 ≤ 536870912 by omega) (Nat.le_of_ble_eq_true rfl) (Nat.le_of_ble_eq_true rfl) dX7_init_33 (fun q33 c33 H hK hP hD hS => ?_)
  obtain rfl : c6 = c33 := va_1 hK 0 1 rfl rfl
  have hK : va_K D vwCl [(c6, .int)] s := hK.sub (tys' := [(c6, .int)]) [0] rfl
  have hP : va_P D vwCl [(h0, .inr (7, [.int 0, .int 0, .ref q6, .null, .null, .int 0, .int 0, .int 0, .null, .null, .null, .null, .null, .null, .int 0, .int 0, .int 0, .int 0, .null, .null, .int 0, .int 0, .int 0, .null, .null, .null, .int 0, .null, .null, .null])), (q6, .inl (c6, 4, .inl (upd (upd (upd (upd (fun _ => 0) 0 (-9)) 1 (-9)) 2 (-9)) 3 (-9)))), (q33, .inl (c6, 4, .inl (fun _ => 0)))] H := hP
  have hD : va_D A [(h0, .inr (7, [.int 0, .int 0, .ref q6, .null, .null, .int 0, .int 0, .int 0, .null, .null, .null, .null, .null, .null, .int 0, .int 0, .int 0, .int 0, .null, .null, .int 0, .int 0, .int 0, .null, .null, .null, .int 0, .null, .null, .null])), (q6, .inl (c6, 4, .inl (upd (upd (upd (upd (fun _ => 0) 0 (-9)) 1 (-9)) 2 (-9)) 3 (-9)))), (q33, .inl (c6, 4, .inl (fun _ => 0)))] := hD
  refine W.widen (k := 2) (n := 8) (by omega) (by omega) ?_
  refine va_putF (D := D) (ci := 7) (v := (.ref q33)) (C := RX7) (T := TX7) (N := 30) hx hb hts (inX7_init_X7) tyX7 tyX7_ok nmX7 hown hK hP hD hS 0 rfl rfl 3 (by decide) (flX7_init_13 hts) (fun _ h9 => h9) rfl hin rfl (tyX7_ok 3 (by decide)) rfl rfl (Nat.le_of_ble_eq_true rfl) dX7_init_35 (fun H locs hP hD hS => ?_)
  have hP : va_P D vwCl [(h0, .inr (7, [.int 0, .int 0, .ref q6, .ref q33, .null, .int 0, .int 0, .int 0, .null, .null, .null, .null, .null, .null, .int 0, .int 0, .int 0, .int 0, .null, .null, .int 0, .int 0, .int 0, .null, .null, .null, .int 0, .null, .null, .null])), (q6, .inl (c6, 4, .inl (upd (upd (upd (upd (fun _ => 0) 0 (-9)) 1 (-9)) 2 (-9)) 3 (-9)))), (q33, .inl (c6, 4, .inl (fun _ => 0)))] H := hP
  have hD : va_D A [(h0, .inr (7, [.int 0, .int 0, .ref q6, .ref q33, .null, .int 0, .int 0, .int 0, .null, .null, .null, .null, .null, .null, .int 0, .int 0, .int 0, .int 0, .null, .null, .int 0, .int 0, .int 0, .null, .null, .null, .int 0, .null, .null, .null])), (q6, .inl (c6, 4, .inl (upd (upd (upd (upd (fun _ => 0) 0 (-9)) 1 (-9)) 2 (-9)) 3 (-9)))), (q33, .inl (c6, 4, .inl (fun _ => 0)))] := hD
  refine lv_aload_n hx hb dX7_init_38 rfl (lv_at hl 0 rfl) ?_
  refine lv_sipush (v := nI 240) hx hb dX7_init_39 (by decide) ?_
  refine va_newa (atype := .int) (a0 := (240, .inl (fun _ => 0))) (ty := .int) hx hb (hts (.arrayClass .int) (by decide +kernel)) rfl hK hP hD hS hA (fun cA => rfl) (nI_pos (by omega)) (N' := 240) (nI_clamp (by omega)) (show 240 * 4 ≤ 536870912 by omega) (Nat.le_of_ble_eq_true rfl) (Nat.le_of_ble_eq_true rfl) dX7_init_42 (fun q42 c42 H hK hP hD hS => ?_)
  obtain rfl : c6 = c42 := va_1 hK 0 1 rfl rfl
  have hK : va_K D vwCl [(c6, .int)] s := hK.sub (tys' := [(c6, .int)]) [0] rfl
  have hP : va_P D vwCl [(h0, .inr (7, [.int 0, .int 0, .ref q6, .ref q33, .null, .int 0, .int 0, .int 0, .null, .null, .null, .null, .null, .null, .int 0, .int 0, .int 0, .int 0, .null, .null, .int 0, .int 0, .int 0, .null, .null, .null, .int 0, .null, .null, .null])), (q6, .inl (c6, 4, .inl (upd (upd (upd (upd (fun _ => 0) 0 (-9)) 1 (-9)) 2 (-9)) 3 (-9)))), (q33, .inl (c6, 4, .inl (fun _ => 0))), (q42, .inl (c6, 240, .inl (fun _ => 0)))] H := hP
  have hD : va_D A [(h0, .inr (7, [.int 0, .int 0, .ref q6, .ref q33, .null, .int 0, .int 0, .int 0, .null, .null, .null, .null, .null, .null, .int 0, .int 0, .int 0, .int 0, .null, .null, .int 0, .int 0, .int 0, .null, .null, .null, .int 0, .null, .null, .null])), (q6, .inl (c6, 4, .inl (upd (upd (upd (upd (fun _ => 0) 0 (-9)) 1 (-9)) 2 (-9)) 3 (-9)))), (q33, .inl (c6, 4, .inl (fun _ => 0))), (q42, .inl (c6, 240, .inl (fun _ => 0)))] := hD
  refine W.widen (k := 3) (n := 248) (by omega) (by omega) ?_
  refine va_putF (D := D) (ci := 7) (v := (.ref q42)) (C := RX7) (T := TX7) (N := 30) hx hb hts (inX7_init_X7) tyX7 tyX7_ok nmX7 hown hK hP hD hS 0 rfl rfl 4 (by decide) (flX7_init_16 hts) (fun _ h9 => h9) rfl hin rfl (tyX7_ok 4 (by decide)) rfl rfl (Nat.le_of_ble_eq_true rfl) dX7_init_44 (fun H locs hP hD hS => ?_)
  have hP : va_P D vwCl [(h0, .inr (7, [.int 0, .int 0, .ref q6, .ref q33, .ref q42, .int 0, .int 0, .int 0, .null, .null, .null, .null, .null, .null, .int 0, .int 0, .int 0, .int 0, .null, .null, .int 0, .int 0, .int 0, .null, .null, .null, .int 0, .null, .null, .null])), (q6, .inl (c6, 4, .inl (upd (upd (upd (upd (fun _ => 0) 0 (-9)) 1 (-9)) 2 (-9)) 3 (-9)))), (q33, .inl (c6, 4, .inl (fun _ => 0))), (q42, .inl (c6, 240, .inl (fun _ => 0)))] H := hP
  have hD : va_D A [(h0, .inr (7, [.int 0, .int 0, .ref q6, .ref q33, .ref q42, .int 0, .int 0, .int 0, .null, .null, .null, .null, .null, .null, .int 0, .int 0, .int 0, .int 0, .null, .null, .int 0, .int 0, .int 0, .null, .null, .null, .int 0, .null, .null, .null])), (q6, .inl (c6, 4, .inl (upd (upd (upd (upd (fun _ => 0) 0 (-9)) 1 (-9)) 2 (-9)) 3 (-9)))), (q33, .inl (c6, 4, .inl (fun _ => 0))), (q42, .inl (c6, 240, .inl (fun _ => 0)))] := hD
  refine lv_aload_n hx hb dX7_init_47 rfl (lv_at hl 0 rfl) ?_
  refine lv_bipush (v := nI 6) hx hb dX7_init_48 (by decide) ?_
  refine va_newa (atype := .int) (a0 := (6, .inl (fun _ => 0))) (ty := .int) hx hb (hts (.arrayClass .int) (by decide +kernel)) rfl hK hP hD hS hA (fun cA => rfl) (nI_pos (by omega)) (N' := 6) (nI_clamp (by omega)) (show 6 * 4 ≤ 536870912 by omega) (Nat.le_of_ble_eq_true rfl) (Nat.le_of_ble_eq_true rfl) dX7_init_50 (fun q50 c50 H hK hP hD hS => ?_)
  obtain rfl : c6 = c50 := va_1 hK 0 1 rfl rfl
  have hK : va_K D vwCl [(c6, .int)] s := hK.sub (tys' := [(c6, .int)]) [0] rfl
  have hP : va_P D vwCl [(h0, .inr (7, [.int 0, .int 0, .ref q6, .ref q33, .ref q42, .int 0, .int 0, .int 0, .null, .null, .null, .null, .null, .null, .int 0, .int 0, .int 0, .int 0, .null, .null, .int 0, .int 0, .int 0, .null, .null, .null, .int 0, .null, .null, .null])), (q6, .inl (c6, 4, .inl (upd (upd (upd (upd (fun _ => 0) 0 (-9)) 1 (-9)) 2 (-9)) 3 (-9)))), (q33, .inl (c6, 4, .inl (fun _ => 0))), (q42, .inl (c6, 240, .inl (fun _ => 0))), (q50, .inl (c6, 6, .inl (fun _ => 0)))] H := hP
  have hD : va_D A [(h0, .inr (7, [.int 0, .int 0, .ref q6, .ref q33, .ref q42, .int 0, .int 0, .int 0, .null, .null, .null, .null, .null, .null, .int 0, .int 0, .int 0, .int 0, .null, .null, .int 0, .int 0, .int 0, .null, .null, .null, .int 0, .null, .null, .null])), (q6, .inl (c6, 4, .inl (upd (upd (upd (upd (fun _ => 0) 0 (-9)) 1 (-9)) 2 (-9)) 3 (-9)))), (q33, .inl (c6, 4, .inl (fun _ => 0))), (q42, .inl (c6, 240, .inl (fun _ => 0))), (q50, .inl (c6, 6, .inl (fun _ => 0)))] := hD
  refine W.widen (k := 4) (n := 254) (by omega) (by omega) ?_
  refine va_putF (D := D) (ci := 7) (v := (.ref q50)) (C := RX7) (T := TX7) (N := 30) hx hb hts (inX7_init_X7) tyX7 tyX7_ok nmX7 hown hK hP hD hS 0 rfl rfl 8 (by decide) (flX7_init_19 hts) (fun _ h9 => h9) rfl hin rfl (tyX7_ok 8 (by decide)) rfl rfl (Nat.le_of_ble_eq_true rfl) dX7_init_52 (fun H locs hP hD hS => ?_)
  have hP : va_P D vwCl [(h0, .inr (7, [.int 0, .int 0, .ref q6, .ref q33, .ref q42, .int 0, .int 0, .int 0, .ref q50, .null, .null, .null, .null, .null, .int 0, .int 0, .int 0, .int 0, .null, .null, .int 0, .int 0, .int 0, .null, .null, .null, .int 0, .null, .null, .null])), (q6, .inl (c6, 4, .inl (upd (upd (upd (upd (fun _ => 0) 0 (-9)) 1 (-9)) 2 (-9)) 3 (-9)))), (q33, .inl (c6, 4, .inl (fun _ => 0))), (q42, .inl (c6, 240, .inl (fun _ => 0))), (q50, .inl (c6, 6, .inl (fun _ => 0)))] H := hP
  have hD : va_D A [(h0, .inr (7, [.int 0, .int 0, .ref q6, .ref q33, .ref q42, .int 0, .int 0, .int 0, .ref q50, .null, .null, .null, .null, .null, .int 0, .int 0, .int 0, .int 0, .null, .null, .int 0, .int 0, .int 0, .null, .null, .null, .int 0, .null, .null, .null])), (q6, .inl (c6, 4, .inl (upd (upd (upd (upd (fun _ => 0) 0 (-9)) 1 (-9)) 2 (-9)) 3 (-9)))), (q33, .inl (c6, 4, .inl (fun _ => 0))), (q42, .inl (c6, 240, .inl (fun _ => 0))), (q50, .inl (c6, 6, .inl (fun _ => 0)))] := hD
  refine lv_aload_n hx hb dX7_init_55 rfl (lv_at hl 0 rfl) ?_
  refine lv_iconst (v := nI 5) hx hb dX7_init_56 (by decide) ?_
  refine va_newa (atype := .int) (a0 := (5, .inl (fun _ => 0))) (ty := .int) hx hb (hts (.arrayClass .int) (by decide +kernel)) rfl hK hP hD hS hA (fun cA => rfl) (nI_pos (by omega)) (N' := 5) (nI_clamp (by omega)) (show 5 * 4 ≤ 536870912 by omega) (Nat.le_of_ble_eq_true rfl) (Nat.le_of_ble_eq_true rfl) dX7_init_57 (fun q57 c57 H hK hP hD hS => ?_)
  obtain rfl : c6 = c57 := va_1 hK 0 1 rfl rfl
  have hK : va_K D vwCl [(c6, .int)] s := hK.sub (tys' := [(c6, .int)]) [0] rfl
  have hP : va_P D vwCl [(h0, .inr (7, [.int 0, .int 0, .ref q6, .ref q33, .ref q42, .int 0, .int 0, .int 0, .ref q50, .null, .null, .null, .null, .null, .int 0, .int 0, .int 0, .int 0, .null, .null, .int 0, .int 0, .int 0, .null, .null, .null, .int 0, .null, .null, .null])), (q6, .inl (c6, 4, .inl (upd (upd (upd (upd (fun _ => 0) 0 (-9)) 1 (-9)) 2 (-9)) 3 (-9)))), (q33, .inl (c6, 4, .inl (fun _ => 0))), (q42, .inl (c6, 240, .inl (fun _ => 0))), (q50, .inl (c6, 6, .inl (fun _ => 0))), (q57, .inl (c6, 5, .inl (fun _ => 0)))] H := hP
  have hD : va_D A [(h0, .inr (7, [.int 0, .int 0, .ref q6, .ref q33, .ref q42, .int 0, .int 0, .int 0, .ref q50, .null, .null, .null, .null, .null, .int 0, .int 0, .int 0, .int 0, .null, .null, .int 0, .int 0, .int 0, .null, .null, .null, .int 0, .null, .null, .null])), (q6, .inl (c6, 4, .inl (upd (upd (upd (upd (fun _ => 0) 0 (-9)) 1 (-9)) 2 (-9)) 3 (-9)))), (q33, .inl (c6, 4, .inl (fun _ => 0))), (q42, .inl (c6, 240, .inl (fun _ => 0))), (q50, .inl (c6, 6, .inl (fun _ => 0))), (q57, .inl (c6, 5, .inl (fun _ => 0)))] := hD
  refine W.widen (k := 5) (n := 259) (by omega) (by omega) ?_
  refine va_putF (D := D) (ci := 7) (v := (.ref q57)) (C := RX7) (T := TX7) (N := 30) hx hb hts (inX7_init_X7) tyX7 tyX7_ok nmX7 hown hK hP hD hS 0 rfl rfl 9 (by decide) (flX7_init_22 hts) (fun _ h9 => h9) rfl hin rfl (tyX7_ok 9 (by decide)) rfl rfl (Nat.le_of_ble_eq_true rfl) dX7_init_59 (fun H locs hP hD hS => ?_)
  have hP : va_P D vwCl [(h0, .inr (7, [.int 0, .int 0, .ref q6, .ref q33, .ref q42, .int 0, .int 0, .int 0, .ref q50, .ref q57, .null, .null, .null, .null, .int 0, .int 0, .int 0, .int 0, .null, .null, .int 0, .int 0, .int 0, .null, .null, .null, .int 0, .null, .null, .null])), (q6, .inl (c6, 4, .inl (upd (upd (upd (upd (fun _ => 0) 0 (-9)) 1 (-9)) 2 (-9)) 3 (-9)))), (q33, .inl (c6, 4, .inl (fun _ => 0))), (q42, .inl (c6, 240, .inl (fun _ => 0))), (q50, .inl (c6, 6, .inl (fun _ => 0))), (q57, .inl (c6, 5, .inl (fun _ => 0)))] H := hP
  have hD : va_D A [(h0, .inr (7, [.int 0, .int 0, .ref q6, .ref q33, .ref q42, .int 0, .int 0, .int 0, .ref q50, .ref q57, .null, .null, .null, .null, .int 0, .int 0, .int 0, .int 0, .null, .null, .int 0, .int 0, .int 0, .null, .null, .null, .int 0, .null, .null, .null])), (q6, .inl (c6, 4, .inl (upd (upd (upd (upd (fun _ => 0) 0 (-9)) 1 (-9)) 2 (-9)) 3 (-9)))), (q33, .inl (c6, 4, .inl (fun _ => 0))), (q42, .inl (c6, 240, .inl (fun _ => 0))), (q50, .inl (c6, 6, .inl (fun _ => 0))), (q57, .inl (c6, 5, .inl (fun _ => 0)))] := hD
  refine lv_aload_n hx hb dX7_init_62 rfl (lv_at hl 0 rfl) ?_
  refine lv_iconst (v := nI 5) hx hb dX7_init_63 (by decide) ?_
  refine va_newa (atype := .int) (a0 := (5, .inl (fun _ => 0))) (ty := .int) hx hb (hts (.arrayClass .int) (by decide +kernel)) rfl hK hP hD hS hA (fun cA => rfl) (nI_pos (by omega)) (N' := 5) (nI_clamp (by omega)) (show 5 * 4 ≤ 536870912 by omega) (Nat.le_of_ble_eq_true rfl) (Nat.le_of_ble_eq_true rfl) dX7_init_64 (fun q64 c64 H hK hP hD hS => ?_)
  obtain rfl : c6 = c64 := va_1 hK 0 1 rfl rfl
  have hK : va_K D vwCl [(c6, .int)] s := hK.sub (tys' := [(c6, .int)]) [0] rfl
  have hP : va_P D vwCl [(h0, .inr (7, [.int 0, .int 0, .ref q6, .ref q33, .ref q42, .int 0, .int 0, .int 0, .ref q50, .ref q57, .null, .null, .null, .null, .int 0, .int 0, .int 0, .int 0, .null, .null, .int 0, .int 0, .int 0, .null, .null, .null, .int 0, .null, .null, .null])), (q6, .inl (c6, 4, .inl (upd (upd (upd (upd (fun _ => 0) 0 (-9)) 1 (-9)) 2 (-9)) 3 (-9)))), (q33, .inl (c6, 4, .inl (fun _ => 0))), (q42, .inl (c6, 240, .inl (fun _ => 0))), (q50, .inl (c6, 6, .inl (fun _ => 0))), (q57, .inl (c6, 5, .inl (fun _ => 0))), (q64, .inl (c6, 5, .inl (fun _ => 0)))] H := hP
  have hD : va_D A [(h0, .inr (7, [.int 0, .int 0, .ref q6, .ref q33, .ref q42, .int 0, .int 0, .int 0, .ref q50, .ref q57, .null, .null, .null, .null, .int 0, .int 0, .int 0, .int 0, .null, .null, .int 0, .int 0, .int 0, .null, .null, .null, .int 0, .null, .null, .null])), (q6, .inl (c6, 4, .inl (upd (upd (upd (upd (fun _ => 0) 0 (-9)) 1 (-9)) 2 (-9)) 3 (-9)))), (q33, .inl (c6, 4, .inl (fun _ => 0))), (q42, .inl (c6, 240, .inl (fun _ => 0))), (q50, .inl (c6, 6, .inl (fun _ => 0))), (q57, .inl (c6, 5, .inl (fun _ => 0))), (q64, .inl (c6, 5, .inl (fun _ => 0)))] := hD
  refine W.widen (k := 6) (n := 264) (by omega) (by omega) ?_
  refine va_putF (D := D) (ci := 7) (v := (.ref q64)) (C := RX7) (T := TX7) (N := 30) hx hb hts (inX7_init_X7) tyX7 tyX7_ok nmX7 hown hK hP hD hS 0 rfl rfl 10 (by decide) (flX7_init_25 hts) (fun _ h9 => h9) rfl hin rfl (tyX7_ok 10 (by decide)) rfl rfl (Nat.le_of_ble_eq_true rfl) dX7_init_66 (fun H locs hP hD hS => ?_)
  have hP : va_P D vwCl [(h0, .inr (7, [.int 0, .int 0, .ref q6, .ref q33, .ref q42, .int 0, .int 0, .int 0, .ref q50, .ref q57, .ref q64, .null, .null, .null, .int 0, .int 0, .int 0, .int 0, .null, .null, .int 0, .int 0, .int 0, .null, .null, .null, .int 0, .null, .null, .null])), (q6, .inl (c6, 4, .inl (upd (upd (upd (upd (fun _ => 0) 0 (-9)) 1 (-9)) 2 (-9)) 3 (-9)))), (q33, .inl (c6, 4, .inl (fun _ => 0))), (q42, .inl (c6, 240, .inl (fun _ => 0))), (q50, .inl (c6, 6, .inl (fun _ => 0))), (q57, .inl (c6, 5, .inl (fun _ => 0))), (q64, .inl (c6, 5, .inl (fun _ => 0)))] H := hP
  have hD : va_D A [(h0, .inr (7, [.int 0, .int 0, .ref q6, .ref q33, .ref q42, .int 0, .int 0, .int 0, .ref q50, .ref q57, .ref q64, .null, .null, .null, .int 0, .int 0, .int 0, .int 0, .null, .null, .int 0, .int 0, .int 0, .null, .null, .null, .int 0, .null, .null, .null])), (q6, .inl (c6, 4, .inl (upd (upd (upd (upd (fun _ => 0) 0 (-9)) 1 (-9)) 2 (-9)) 3 (-9)))), (q33, .inl (c6, 4, .inl (fun _ => 0))), (q42, .inl (c6, 240, .inl (fun _ => 0))), (q50, .inl (c6, 6, .inl (fun _ => 0))), (q57, .inl (c6, 5, .inl (fun _ => 0))), (q64, .inl (c6, 5, .inl (fun _ => 0)))] := hD
  refine lv_aload_n hx hb dX7_init_69 rfl (lv_at hl 0 rfl) ?_
  refine lv_iconst (v := nI 5) hx hb dX7_init_70 (by decide) ?_
  refine va_newa (atype := .int) (a0 := (5, .inl (fun _ => 0))) (ty := .int) hx hb (hts (.arrayClass .int) (by decide +kernel)) rfl hK hP hD hS hA (fun cA => rfl) (nI_pos (by omega)) (N' := 5) (nI_clamp (by omega)) (show 5 * 4 ≤ 536870912 by omega) (Nat.le_of_ble_eq_true rfl) (Nat.le_of_ble_eq_true rfl) dX7_init_71 (fun q71 c71 H hK hP hD hS => ?_)
  obtain rfl : c6 = c71 := va_1 hK 0 1 rfl rfl
  have hK : va_K D vwCl [(c6, .int)] s := hK.sub (tys' := [(c6, .int)]) [0] rfl
  have hP : va_P D vwCl [(h0, .inr (7, [.int 0, .int 0, .ref q6, .ref q33, .ref q42, .int 0, .int 0, .int 0, .ref q50, .ref q57, .ref q64, .null, .null, .null, .int 0, .int 0, .int 0, .int 0, .null, .null, .int 0, .int 0, .int 0, .null, .null, .null, .int 0, .null, .null, .null])), (q6, .inl (c6, 4, .inl (upd (upd (upd (upd (fun _ => 0) 0 (-9)) 1 (-9)) 2 (-9)) 3 (-9)))), (q33, .inl (c6, 4, .inl (fun _ => 0))), (q42, .inl (c6, 240, .inl (fun _ => 0))), (q50, .inl (c6, 6, .inl (fun _ => 0))), (q57, .inl (c6, 5, .inl (fun _ => 0))), (q64, .inl (c6, 5, .inl (fun _ => 0))), (q71, .inl (c6, 5, .inl (fun _ => 0)))] H := hP
  have hD : va_D A [(h0, .inr (7, [.int 0, .int 0, .ref q6, .ref q33, .ref q42, .int 0, .int 0, .int 0, .ref q50, .ref q57, .ref q64, .null, .null, .null, .int 0, .int 0, .int 0, .int 0, .null, .null, .int 0, .int 0, .int 0, .null, .null, .null, .int 0, .null, .null, .null])), (q6, .inl (c6, 4, .inl (upd (upd (upd (upd (fun _ => 0) 0 (-9)) 1 (-9)) 2 (-9)) 3 (-9)))), (q33, .inl (c6, 4, .inl (fun _ => 0))), (q42, .inl (c6, 240, .inl (fun _ => 0))), (q50, .inl (c6, 6, .inl (fun _ => 0))), (q57, .inl (c6, 5, .inl (fun _ => 0))), (q64, .inl (c6, 5, .inl (fun _ => 0))), (q71, .inl (c6, 5, .inl (fun _ => 0)))] := hD
  refine W.widen (k := 7) (n := 269) (by omega) (by omega) ?_
  refine va_putF (D := D) (ci := 7) (v := (.ref q71)) (C := RX7) (T := TX7) (N := 30) hx hb hts (inX7_init_X7) tyX7 tyX7_ok nmX7 hown hK hP hD hS 0 rfl rfl 11 (by decide) (flX7_init_28 hts) (fun _ h9 => h9) rfl hin rfl (tyX7_ok 11 (by decide)) rfl rfl (Nat.le_of_ble_eq_true rfl) dX7_init_73 (fun H locs hP hD hS => ?_)
  have hP : va_P D vwCl [(h0, .inr (7, [.int 0, .int 0, .ref q6, .ref q33, .ref q42, .int 0, .int 0, .int 0, .ref q50, .ref q57, .ref q64, .ref q71, .null, .null, .int 0, .int 0, .int 0, .int 0, .null, .null, .int 0, .int 0, .int 0, .null, .null, .null, .int 0, .null, .null, .null])), (q6, .inl (c6, 4, .inl (upd (upd (upd (upd (fun _ => 0) 0 (-9)) 1 (-9)) 2 (-9)) 3 (-9)))), (q33, .inl (c6, 4, .inl (fun _ => 0))), (q42, .inl (c6, 240, .inl (fun _ => 0))), (q50, .inl (c6, 6, .inl (fun _ => 0))), (q57, .inl (c6, 5, .inl (fun _ => 0))), (q64, .inl (c6, 5, .inl (fun _ => 0))), (q71, .inl (c6, 5, .inl (fun _ => 0)))] H := hP
  have hD : va_D A [(h0, .inr (7, [.int 0, .int 0, .ref q6, .ref q33, .ref q42, .int 0, .int 0, .int 0, .ref q50, .ref q57, .ref q64, .ref q71, .null, .null, .int 0, .int 0, .int 0, .int 0, .null, .null, .int 0, .int 0, .int 0, .null, .null, .null, .int 0, .null, .null, .null])), (q6, .inl (c6, 4, .inl (upd (upd (upd (upd (fun _ => 0) 0 (-9)) 1 (-9)) 2 (-9)) 3 (-9)))), (q33, .inl (c6, 4, .inl (fun _ => 0))), (q42, .inl (c6, 240, .inl (fun _ => 0))), (q50, .inl (c6, 6, .inl (fun _ => 0))), (q57, .inl (c6, 5, .inl (fun _ => 0))), (q64, .inl (c6, 5, .inl (fun _ => 0))), (q71, .inl (c6, 5, .inl (fun _ => 0)))] := hD
  refine lv_aload_n hx hb dX7_init_76 rfl (lv_at hl 0 rfl) ?_
  refine lv_iconst (v := nI 5) hx hb dX7_init_77 (by decide) ?_
  refine va_newa (atype := .int) (a0 := (5, .inl (fun _ => 0))) (ty := .int) hx hb (hts (.arrayClass .int) (by decide +kernel)) rfl hK hP hD hS hA (fun cA => rfl) (nI_pos (by omega)) (N' := 5) (nI_clamp (by omega)) (show 5 * 4 ≤ 536870912 by omega) (Nat.le_of_ble_eq_true rfl) (Nat.le_of_ble_eq_true rfl) dX7_init_78 (fun q78 c78 H hK hP hD hS => ?_)
  obtain rfl : c6 = c78 := va_1 hK 0 1 rfl rfl
  have hK : va_K D vwCl [(c6, .int)] s := hK.sub (tys' := [(c6, .int)]) [0] rfl
  have hP : va_P D vwCl [(h0, .inr (7, [.int 0, .int 0, .ref q6, .ref q33, .ref q42, .int 0, .int 0, .int 0, .ref q50, .ref q57, .ref q64, .ref q71, .null, .null, .int 0, .int 0, .int 0, .int 0, .null, .null, .int 0, .int 0, .int 0, .null, .null, .null, .int 0, .null, .null, .null])), (q6, .inl (c6, 4, .inl (upd (upd (upd (upd (fun _ => 0) 0 (-9)) 1 (-9)) 2 (-9)) 3 (-9)))), (q33, .inl (c6, 4, .inl (fun _ => 0))), (q42, .inl (c6, 240, .inl (fun _ => 0))), (q50, .inl (c6, 6, .inl (fun _ => 0))), (q57, .inl (c6, 5, .inl (fun _ => 0))), (q64, .inl (c6, 5, .inl (fun _ => 0))), (q71, .inl (c6, 5, .inl (fun _ => 0))), (q78, .inl (c6, 5, .inl (fun _ => 0)))] H := hP
  have hD : va_D A [(h0, .inr (7, [.int 0, .int 0, .ref q6, .ref q33, .ref q42, .int 0, .int 0, .int 0, .ref q50, .ref q57, .ref q64, .ref q71, .null, .null, .int 0, .int 0, .int 0, .int 0, .null, .null, .int 0, .int 0, .int 0, .null, .null, .null, .int 0, .null, .null, .null])), (q6, .inl (c6, 4, .inl (upd (upd (upd (upd (fun _ => 0) 0 (-9)) 1 (-9)) 2 (-9)) 3 (-9)))), (q33, .inl (c6, 4, .inl (fun _ => 0))), (q42, .inl (c6, 240, .inl (fun _ => 0))), (q50, .inl (c6, 6, .inl (fun _ => 0))), (q57, .inl (c6, 5, .inl (fun _ => 0))), (q64, .inl (c6, 5, .inl (fun _ => 0))), (q71, .inl (c6, 5, .inl (fun _ => 0))), (q78, .inl (c6, 5, .inl (fun _ => 0)))] := hD
  refine W.widen (k := 8) (n := 274) (by omega) (by omega) ?_
  refine va_putF (D := D) (ci := 7) (v := (.ref q78)) (C := RX7) (T := TX7) (N := 30) hx hb hts (inX7_init_X7) tyX7 tyX7_ok nmX7 hown hK hP hD hS 0 rfl rfl 12 (by decide) (flX7_init_31 hts) (fun _ h9 => h9) rfl hin rfl (tyX7_ok 12 (by decide)) rfl rfl (Nat.le_of_ble_eq_true rfl) dX7_init_80 (fun H locs hP hD hS => ?_)
  have hP : va_P D vwCl [(h0, .inr (7, [.int 0, .int 0, .ref q6, .ref q33, .ref q42, .int 0, .int 0, .int 0, .ref q50, .ref q57, .ref q64, .ref q71, .ref q78, .null, .int 0, .int 0, .int 0, .int 0, .null, .null, .int 0, .int 0, .int 0, .null, .null, .null, .int 0, .null, .null, .null])), (q6, .inl (c6, 4, .inl (upd (upd (upd (upd (fun _ => 0) 0 (-9)) 1 (-9)) 2 (-9)) 3 (-9)))), (q33, .inl (c6, 4, .inl (fun _ => 0))), (q42, .inl (c6, 240, .inl (fun _ => 0))), (q50, .inl (c6, 6, .inl (fun _ => 0))), (q57, .inl (c6, 5, .inl (fun _ => 0))), (q64, .inl (c6, 5, .inl (fun _ => 0))), (q71, .inl (c6, 5, .inl (fun _ => 0))), (q78, .inl (c6, 5, .inl (fun _ => 0)))] H := hP
  have hD : va_D A [(h0, .inr (7, [.int 0, .int 0, .ref q6, .ref q33, .ref q42, .int 0, .int 0, .int 0, .ref q50, .ref q57, .ref q64, .ref q71, .ref q78, .null, .int 0, .int 0, .int 0, .int 0, .null, .null, .int 0, .int 0, .int 0, .null, .null, .null, .int 0, .null, .null, .null])), (q6, .inl (c6, 4, .inl (upd (upd (upd (upd (fun _ => 0) 0 (-9)) 1 (-9)) 2 (-9)) 3 (-9)))), (q33, .inl (c6, 4, .inl (fun _ => 0))), (q42, .inl (c6, 240, .inl (fun _ => 0))), (q50, .inl (c6, 6, .inl (fun _ => 0))), (q57, .inl (c6, 5, .inl (fun _ => 0))), (q64, .inl (c6, 5, .inl (fun _ => 0))), (q71, .inl (c6, 5, .inl (fun _ => 0))), (q78, .inl (c6, 5, .inl (fun _ => 0)))] := hD
  refine lv_aload_n hx hb dX7_init_83 rfl (lv_at hl 0 rfl) ?_
  refine lv_iconst (v := nI 5) hx hb dX7_init_84 (by decide) ?_
  refine va_newa (atype := .int) (a0 := (5, .inl (fun _ => 0))) (ty := .int) hx hb (hts (.arrayClass .int) (by decide +kernel)) rfl hK hP hD hS hA (fun cA => rfl) (nI_pos (by omega)) (N' := 5) (nI_clamp (by omega)) (show 5 * 4 ≤ 536870912 by omega) (Nat.le_of_ble_eq_true rfl) (Nat.le_of_ble_eq_true rfl) dX7_init_85 (fun q85 c85 H hK hP hD hS => ?_)
  obtain rfl : c6 = c85 := va_1 hK 0 1 rfl rfl
  have hK : va_K D vwCl [(c6, .int)] s := hK.sub (tys' := [(c6, .int)]) [0] rfl
  have hP : va_P D vwCl [(h0, .inr (7, [.int 0, .int 0, .ref q6, .ref q33, .ref q42, .int 0, .int 0, .int 0, .ref q50, .ref q57, .ref q64, .ref q71, .ref q78, .null, .int 0, .int 0, .int 0, .int 0, .null, .null, .int 0, .int 0, .int 0, .null, .null, .null, .int 0, .null, .null, .null])), (q6, .inl (c6, 4, .inl (upd (upd (upd (upd (fun _ => 0) 0 (-9)) 1 (-9)) 2 (-9)) 3 (-9)))), (q33, .inl (c6, 4, .inl (fun _ => 0))), (q42, .inl (c6, 240, .inl (fun _ => 0))), (q50, .inl (c6, 6, .inl (fun _ => 0))), (q57, .inl (c6, 5, .inl (fun _ => 0))), (q64, .inl (c6, 5, .inl (fun _ => 0))), (q71, .inl (c6, 5, .inl (fun _ => 0))), (q78, .inl (c6, 5, .inl (fun _ => 0))), (q85, .inl (c6, 5, .inl (fun _ => 0)))] H := hP
  have hD : va_D A [(h0, .inr (7, [.int 0, .int 0, .ref q6, .ref q33, .ref q42, .int 0, .int 0, .int 0, .ref q50, .ref q57, .ref q64, .ref q71, .ref q78, .null, .int 0, .int 0, .int 0, .int 0, .null, .null, .int 0, .int 0, .int 0, .null, .null, .null, .int 0, .null, .null, .null])), (q6, .inl (c6, 4, .inl (upd (upd (upd (upd (fun _ => 0) 0 (-9)) 1 (-9)) 2 (-9)) 3 (-9)))), (q33, .inl (c6, 4, .inl (fun _ => 0))), (q42, .inl (c6, 240, .inl (fun _ => 0))), (q50, .inl (c6, 6, .inl (fun _ => 0))), (q57, .inl (c6, 5, .inl (fun _ => 0))), (q64, .inl (c6, 5, .inl (fun _ => 0))), (q71, .inl (c6, 5, .inl (fun _ => 0))), (q78, .inl (c6, 5, .inl (fun _ => 0))), (q85, .inl (c6, 5, .inl (fun _ => 0)))] := hD
  refine W.widen (k := 9) (n := 279) (by omega) (by omega) ?_
  refine va_putF (D := D) (ci := 7) (v := (.ref q85)) (C := RX7) (T := TX7) (N := 30) hx hb hts (inX7_init_X7) tyX7 tyX7_ok nmX7 hown hK hP hD hS 0 rfl rfl 13 (by decide) (flX7_init_34 hts) (fun _ h9 => h9) rfl hin rfl (tyX7_ok 13 (by decide)) rfl rfl (Nat.le_of_ble_eq_true rfl) dX7_init_87 (fun H locs hP hD hS => ?_)
  have hP : va_P D vwCl [(h0, .inr (7, [.int 0, .int 0, .ref q6, .ref q33, .ref q42, .int 0, .int 0, .int 0, .ref q50, .ref q57, .ref q64, .ref q71, .ref q78, .ref q85, .int 0, .int 0, .int 0, .int 0, .null, .null, .int 0, .int 0, .int 0, .null, .null, .null, .int 0, .null, .null, .null])), (q6, .inl (c6, 4, .inl (upd (upd (upd (upd (fun _ => 0) 0 (-9)) 1 (-9)) 2 (-9)) 3 (-9)))), (q33, .inl (c6, 4, .inl (fun _ => 0))), (q42, .inl (c6, 240, .inl (fun _ => 0))), (q50, .inl (c6, 6, .inl (fun _ => 0))), (q57, .inl (c6, 5, .inl (fun _ => 0))), (q64, .inl (c6, 5, .inl (fun _ => 0))), (q71, .inl (c6, 5, .inl (fun _ => 0))), (q78, .inl (c6, 5, .inl (fun _ => 0))), (q85, .inl (c6, 5, .inl (fun _ => 0)))] H := hP
  have hD : va_D A [(h0, .inr (7, [.int 0, .int 0, .ref q6, .ref q33, .ref q42, .int 0, .int 0, .int 0, .ref q50, .ref q57, .ref q64, .ref q71, .ref q78, .ref q85, .int 0, .int 0, .int 0, .int 0, .null, .null, .int 0, .int 0, .int 0, .null, .null, .null, .int 0, .null, .null, .null])), (q6, .inl (c6, 4, .inl (upd (upd (upd (upd (fun _ => 0) 0 (-9)) 1 (-9)) 2 (-9)) 3 (-9)))), (q33, .inl (c6, 4, .inl (fun _ => 0))), (q42, .inl (c6, 240, .inl (fun _ => 0))), (q50, .inl (c6, 6, .inl (fun _ => 0))), (q57, .inl (c6, 5, .inl (fun _ => 0))), (q64, .inl (c6, 5, .inl (fun _ => 0))), (q71, .inl (c6, 5, .inl (fun _ => 0))), (q78, .inl (c6, 5, .inl (fun _ => 0))), (q85, .inl (c6, 5, .inl (fun _ => 0)))] := hD
  refine lv_aload_n hx hb dX7_init_90 rfl (lv_at hl 0 rfl) ?_
  refine lv_bipush (v := nI 6) hx hb dX7_init_91 (by decide) ?_
  refine va_newa (atype := .int) (a0 := (6, .inl (fun _ => 0))) (ty := .int) hx hb (hts (.arrayClass .int) (by decide +kernel)) rfl hK hP hD hS hA (fun cA => rfl) (nI_pos (by omega)) (N' := 6) (nI_clamp (by omega)) (show 6 * 4 ≤ 536870912 by omega) (Nat.le_of_ble_eq_true rfl) (Nat.le_of_ble_eq_true rfl) dX7_init_93 (fun q93 c93 H hK hP hD hS => ?_)
  obtain rfl : c6 = c93 := va_1 hK 0 1 rfl rfl
  have hK : va_K D vwCl [(c6, .int)] s := hK.sub (tys' := [(c6, .int)]) [0] rfl
  have hP : va_P D vwCl [(h0, .inr (7, [.int 0, .int 0, .ref q6, .ref q33, .ref q42, .int 0, .int 0, .int 0, .ref q50, .ref q57, .ref q64, .ref q71, .ref q78, .ref q85, .int 0, .int 0, .int 0, .int 0, .null, .null, .int 0, .int 0, .int 0, .null, .null, .null, .int 0, .null, .null, .null])), (q6, .inl (c6, 4, .inl (upd (upd (upd (upd (fun _ => 0) 0 (-9)) 1 (-9)) 2 (-9)) 3 (-9)))), (q33, .inl (c6, 4, .inl (fun _ => 0))), (q42, .inl (c6, 240, .inl (fun _ => 0))), (q50, .inl (c6, 6, .inl (fun _ => 0))), (q57, .inl (c6, 5, .inl (fun _ => 0))), (q64, .inl (c6, 5, .inl (fun _ => 0))), (q71, .inl (c6, 5, .inl (fun _ => 0))), (q78, .inl (c6, 5, .inl (fun _ => 0))), (q85, .inl (c6, 5, .inl (fun _ => 0))), (q93, .inl (c6, 6, .inl (fun _ => 0)))] H := hP
  have hD : va_D A [(h0, .inr (7, [.int 0, .int 0, .ref q6, .ref q33, .ref q42, .int 0, .int 0, .int 0, .ref q50, .ref q57, .ref q64, .ref q71, .ref q78, .ref q85, .int 0, .int 0, .int 0, .int 0, .null, .null, .int 0, .int 0, .int 0, .null, .null, .null, .int 0, .null, .null, .null])), (q6, .inl (c6, 4, .inl (upd (upd (upd (upd (fun _ => 0) 0 (-9)) 1 (-9)) 2 (-9)) 3 (-9)))), (q33, .inl (c6, 4, .inl (fun _ => 0))), (q42, .inl (c6, 240, .inl (fun _ => 0))), (q50, .inl (c6, 6, .inl (fun _ => 0))), (q57, .inl (c6, 5, .inl (fun _ => 0))), (q64, .inl (c6, 5, .inl (fun _ => 0))), (q71, .inl (c6, 5, .inl (fun _ => 0))), (q78, .inl (c6, 5, .inl (fun _ => 0))), (q85, .inl (c6, 5, .inl (fun _ => 0))), (q93, .inl (c6, 6, .inl (fun _ => 0)))] := hD
  refine W.widen (k := 10) (n := 285) (by omega) (by omega) ?_
  refine va_putF (D := D) (ci := 7) (v := (.ref q93)) (C := RX7) (T := TX7) (N := 30) hx hb hts (inX7_init_X7) tyX7 tyX7_ok nmX7 hown hK hP hD hS 0 rfl rfl 18 (by decide) (flX7_init_37 hts) (fun _ h9 => h9) rfl hin rfl (tyX7_ok 18 (by decide)) rfl rfl (Nat.le_of_ble_eq_true rfl) dX7_init_95 (fun H locs hP hD hS => ?_)
  have hP : va_P D vwCl [(h0, .inr (7, [.int 0, .int 0, .ref q6, .ref q33, .ref q42, .int 0, .int 0, .int 0, .ref q50, .ref q57, .ref q64, .ref q71, .ref q78, .ref q85, .int 0, .int 0, .int 0, .int 0, .ref q93, .null, .int 0, .int 0, .int 0, .null, .null, .null, .int 0, .null, .null, .null])), (q6, .inl (c6, 4, .inl (upd (upd (upd (upd (fun _ => 0) 0 (-9)) 1 (-9)) 2 (-9)) 3 (-9)))), (q33, .inl (c6, 4, .inl (fun _ => 0))), (q42, .inl (c6, 240, .inl (fun _ => 0))), (q50, .inl (c6, 6, .inl (fun _ => 0))), (q57, .inl (c6, 5, .inl (fun _ => 0))), (q64, .inl (c6, 5, .inl (fun _ => 0))), (q71, .inl (c6, 5, .inl (fun _ => 0))), (q78, .inl (c6, 5, .inl (fun _ => 0))), (q85, .inl (c6, 5, .inl (fun _ => 0))), (q93, .inl (c6, 6, .inl (fun _ => 0)))] H := hP
  have hD : va_D A [(h0, .inr (7, [.int 0, .int 0, .ref q6, .ref q33, .ref q42, .int 0, .int 0, .int 0, .ref q50, .ref q57, .ref q64, .ref q71, .ref q78, .ref q85, .int 0, .int 0, .int 0, .int 0, .ref q93, .null, .int 0, .int 0, .int 0, .null, .null, .null, .int 0, .null, .null, .null])), (q6, .inl (c6, 4, .inl (upd (upd (upd (upd (fun _ => 0) 0 (-9)) 1 (-9)) 2 (-9)) 3 (-9)))), (q33, .inl (c6, 4, .inl (fun _ => 0))), (q42, .inl (c6, 240, .inl (fun _ => 0))), (q50, .inl (c6, 6, .inl (fun _ => 0))), (q57, .inl (c6, 5, .inl (fun _ => 0))), (q64, .inl (c6, 5, .inl (fun _ => 0))), (q71, .inl (c6, 5, .inl (fun _ => 0))), (q78, .inl (c6, 5, .inl (fun _ => 0))), (q85, .inl (c6, 5, .inl (fun _ => 0))), (q93, .inl (c6, 6, .inl (fun _ => 0)))] := hD
  refine lv_aload_n hx hb dX7_init_98 rfl (lv_at hl 0 rfl) ?_
  refine lv_bipush (v := nI 25) hx hb dX7_init_99 (by decide) ?_
  refine va_newa (atype := .int) (a0 := (25, .inl (fun _ => 0))) (ty := .int) hx hb (hts (.arrayClass .int) (by decide +kernel)) rfl hK hP hD hS hA (fun cA => rfl) (nI_pos (by omega)) (N' := 25) (nI_clamp (by omega)) (show 25 * 4 ≤ 536870912 by omega) (Nat.le_of_ble_eq_true rfl) (Nat.le_of_ble_eq_true rfl) dX7_init_101 (fun q101 c101 H hK hP hD hS => ?_)
  obtain rfl : c6 = c101 := va_1 hK 0 1 rfl rfl
  have hK : va_K D vwCl [(c6, .int)] s := hK.sub (tys' := [(c6, .int)]) [0] rfl
  have hP : va_P D vwCl [(h0, .inr (7, [.int 0, .int 0, .ref q6, .ref q33, .ref q42, .int 0, .int 0, .int 0, .ref q50, .ref q57, .ref q64, .ref q71, .ref q78, .ref q85, .int 0, .int 0, .int 0, .int 0, .ref q93, .null, .int 0, .int 0, .int 0, .null, .null, .null, .int 0, .null, .null, .null])), (q6, .inl (c6, 4, .inl (upd (upd (upd (upd (fun _ => 0) 0 (-9)) 1 (-9)) 2 (-9)) 3 (-9)))), (q33, .inl (c6, 4, .inl (fun _ => 0))), (q42, .inl (c6, 240, .inl (fun _ => 0))), (q50, .inl (c6, 6, .inl (fun _ => 0))), (q57, .inl (c6, 5, .inl (fun _ => 0))), (q64, .inl (c6, 5, .inl (fun _ => 0))), (q71, .inl (c6, 5, .inl (fun _ => 0))), (q78, .inl (c6, 5, .inl (fun _ => 0))), (q85, .inl (c6, 5, .inl (fun _ => 0))), (q93, .inl (c6, 6, .inl (fun _ => 0))), (q101, .inl (c6, 25, .inl (fun _ => 0)))] H := hP
  have hD : va_D A [(h0, .inr (7, [.int 0, .int 0, .ref q6, .ref q33, .ref q42, .int 0, .int 0, .int 0, .ref q50, .ref q57, .ref q64, .ref q71, .ref q78, .ref q85, .int 0, .int 0, .int 0, .int 0, .ref q93, .null, .int 0, .int 0, .int 0, .null, .null, .null, .int 0, .null, .null, .null])), (q6, .inl (c6, 4, .inl (upd (upd (upd (upd (fun _ => 0) 0 (-9)) 1 (-9)) 2 (-9)) 3 (-9)))), (q33, .inl (c6, 4, .inl (fun _ => 0))), (q42, .inl (c6, 240, .inl (fun _ => 0))), (q50, .inl (c6, 6, .inl (fun _ => 0))), (q57, .inl (c6, 5, .inl (fun _ => 0))), (q64, .inl (c6, 5, .inl (fun _ => 0))), (q71, .inl (c6, 5, .inl (fun _ => 0))), (q78, .inl (c6, 5, .inl (fun _ => 0))), (q85, .inl (c6, 5, .inl (fun _ => 0))), (q93, .inl (c6, 6, .inl (fun _ => 0))), (q101, .inl (c6, 25, .inl (fun _ => 0)))] := hD
  refine W.widen (k := 11) (n := 310) (by omega) (by omega) ?_
  refine va_putF (D := D) (ci := 7) (v := (.ref q101)) (C := RX7) (T := TX7) (N := 30) hx hb hts (inX7_init_X7) tyX7 tyX7_ok nmX7 hown hK hP hD hS 0 rfl rfl 19 (by decide) (flX7_init_40 hts) (fun _ h9 => h9) rfl hin rfl (tyX7_ok 19 (by decide)) rfl rfl (Nat.le_of_ble_eq_true rfl) dX7_init_103 (fun H locs hP hD hS => ?_)
  have hP : va_P D vwCl [(h0, .inr (7, [.int 0, .int 0, .ref q6, .ref q33, .ref q42, .int 0, .int 0, .int 0, .ref q50, .ref q57, .ref q64, .ref q71, .ref q78, .ref q85, .int 0, .int 0, .int 0, .int 0, .ref q93, .ref q101, .int 0, .int 0, .int 0, .null, .null, .null, .int 0, .null, .null, .null])), (q6, .inl (c6, 4, .inl (upd (upd (upd (upd (fun _ => 0) 0 (-9)) 1 (-9)) 2 (-9)) 3 (-9)))), (q33, .inl (c6, 4, .inl (fun _ => 0))), (q42, .inl (c6, 240, .inl (fun _ => 0))), (q50, .inl (c6, 6, .inl (fun _ => 0))), (q57, .inl (c6, 5, .inl (fun _ => 0))), (q64, .inl (c6, 5, .inl (fun _ => 0))), (q71, .inl (c6, 5, .inl (fun _ => 0))), (q78, .inl (c6, 5, .inl (fun _ => 0))), (q85, .inl (c6, 5, .inl (fun _ => 0))), (q93, .inl (c6, 6, .inl (fun _ => 0))), (q101, .inl (c6, 25, .inl (fun _ => 0)))] H := hP
  have hD : va_D A [(h0, .inr (7, [.int 0, .int 0, .ref q6, .ref q33, .ref q42, .int 0, .int 0, .int 0, .ref q50, .ref q57, .ref q64, .ref q71, .ref q78, .ref q85, .int 0, .int 0, .int 0, .int 0, .ref q93, .ref q101, .int 0, .int 0, .int 0, .null, .null, .null, .int 0, .null, .null, .null])), (q6, .inl (c6, 4, .inl (upd (upd (upd (upd (fun _ => 0) 0 (-9)) 1 (-9)) 2 (-9)) 3 (-9)))), (q33, .inl (c6, 4, .inl (fun _ => 0))), (q42, .inl (c6, 240, .inl (fun _ => 0))), (q50, .inl (c6, 6, .inl (fun _ => 0))), (q57, .inl (c6, 5, .inl (fun _ => 0))), (q64, .inl (c6, 5, .inl (fun _ => 0))), (q71, .inl (c6, 5, .inl (fun _ => 0))), (q78, .inl (c6, 5, .inl (fun _ => 0))), (q85, .inl (c6, 5, .inl (fun _ => 0))), (q93, .inl (c6, 6, .inl (fun _ => 0))), (q101, .inl (c6, 25, .inl (fun _ => 0)))] := hD
  refine lv_aload_n hx hb dX7_init_106 rfl (lv_at hl 0 rfl) ?_
  refine lv_iconst (v := nI 5) hx hb dX7_init_107 (by decide) ?_
  refine va_newa (atype := .int) (a0 := (5, .inl (fun _ => 0))) (ty := .int) hx hb (hts (.arrayClass .int) (by decide +kernel)) rfl hK hP hD hS hA (fun cA => rfl) (nI_pos (by omega)) (N' := 5) (nI_clamp (by omega)) (show 5 * 4 ≤ 536870912 by omega) (Nat.le_of_ble_eq_true rfl) (Nat.le_of_ble_eq_true rfl) dX7_init_108 (fun q108 c108 H hK hP hD hS => ?_)
  obtain rfl : c6 = c108 := va_1 hK 0 1 rfl rfl
  have hK : va_K D vwCl [(c6, .int)] s := hK.sub (tys' := [(c6, .int)]) [0] rfl
  have hP : va_P D vwCl [(h0, .inr (7, [.int 0, .int 0, .ref q6, .ref q33, .ref q42, .int 0, .int 0, .int 0, .ref q50, .ref q57, .ref q64, .ref q71, .ref q78, .ref q85, .int 0, .int 0, .int 0, .int 0, .ref q93, .ref q101, .int 0, .int 0, .int 0, .null, .null, .null, .int 0, .null, .null, .null])), (q6, .inl (c6, 4, .inl (upd (upd (upd (upd (fun _ => 0) 0 (-9)) 1 (-9)) 2 (-9)) 3 (-9)))), (q33, .inl (c6, 4, .inl (fun _ => 0))), (q42, .inl (c6, 240, .inl (fun _ => 0))), (q50, .inl (c6, 6, .inl (fun _ => 0))), (q57, .inl (c6, 5, .inl (fun _ => 0))), (q64, .inl (c6, 5, .inl (fun _ => 0))), (q71, .inl (c6, 5, .inl (fun _ => 0))), (q78, .inl (c6, 5, .inl (fun _ => 0))), (q85, .inl (c6, 5, .inl (fun _ => 0))), (q93, .inl (c6, 6, .inl (fun _ => 0))), (q101, .inl (c6, 25, .inl (fun _ => 0))), (q108, .inl (c6, 5, .inl (fun _ => 0)))] H := hP
  have hD : va_D A [(h0, .inr (7, [.int 0, .int 0, .ref q6, .ref q33, .ref q42, .int 0, .int 0, .int 0, .ref q50, .ref q57, .ref q64, .ref q71, .ref q78, .ref q85, .int 0, .int 0, .int 0, .int 0, .ref q93, .ref q101, .int 0, .int 0, .int 0, .null, .null, .null, .int 0, .null, .null, .null])), (q6, .inl (c6, 4, .inl (upd (upd (upd (upd (fun _ => 0) 0 (-9)) 1 (-9)) 2 (-9)) 3 (-9)))), (q33, .inl (c6, 4, .inl (fun _ => 0))), (q42, .inl (c6, 240, .inl (fun _ => 0))), (q50, .inl (c6, 6, .inl (fun _ => 0))), (q57, .inl (c6, 5, .inl (fun _ => 0))), (q64, .inl (c6, 5, .inl (fun _ => 0))), (q71, .inl (c6, 5, .inl (fun _ => 0))), (q78, .inl (c6, 5, .inl (fun _ => 0))), (q85, .inl (c6, 5, .inl (fun _ => 0))), (q93, .inl (c6, 6, .inl (fun _ => 0))), (q101, .inl (c6, 25, .inl (fun _ => 0))), (q108, .inl (c6, 5, .inl (fun _ => 0)))] := hD
  refine W.widen (k := 12) (n := 315) (by omega) (by omega) ?_
  refine va_putF (D := D) (ci := 7) (v := (.ref q108)) (C := RX7) (T := TX7) (N := 30) hx hb hts (inX7_init_X7) tyX7 tyX7_ok nmX7 hown hK hP hD hS 0 rfl rfl 23 (by decide) (flX7_init_43 hts) (fun _ h9 => h9) rfl hin rfl (tyX7_ok 23 (by decide)) rfl rfl (Nat.le_of_ble_eq_true rfl) dX7_init_110 (fun H locs hP hD hS => ?_)
  have hP : va_P D vwCl [(h0, .inr (7, [.int 0, .int 0, .ref q6, .ref q33, .ref q42, .int 0, .int 0, .int 0, .ref q50, .ref q57, .ref q64, .ref q71, .ref q78, .ref q85, .int 0, .int 0, .int 0, .int 0, .ref q93, .ref q101, .int 0, .int 0, .int 0, .ref q108, .null, .null, .int 0, .null, .null, .null])), (q6, .inl (c6, 4, .inl (upd (upd (upd (upd (fun _ => 0) 0 (-9)) 1 (-9)) 2 (-9)) 3 (-9)))), (q33, .inl (c6, 4, .inl (fun _ => 0))), (q42, .inl (c6, 240, .inl (fun _ => 0))), (q50, .inl (c6, 6, .inl (fun _ => 0))), (q57, .inl (c6, 5, .inl (fun _ => 0))), (q64, .inl (c6, 5, .inl (fun _ => 0))), (q71, .inl (c6, 5, .inl (fun _ => 0))), (q78, .inl (c6, 5, .inl (fun _ => 0))), (q85, .inl (c6, 5, .inl (fun _ => 0))), (q93, .inl (c6, 6, .inl (fun _ => 0))), (q101, .inl (c6, 25, .inl (fun _ => 0))), (q108, .inl (c6, 5, .inl (fun _ => 0)))] H := hP
  have hD : va_D A [(h0, .inr (7, [.int 0, .int 0, .ref q6, .ref q33, .ref q42, .int 0, .int 0, .int 0, .ref q50, .ref q57, .ref q64, .ref q71, .ref q78, .ref q85, .int 0, .int 0, .int 0, .int 0, .ref q93, .ref q101, .int 0, .int 0, .int 0, .ref q108, .null, .null, .int 0, .null, .null, .null])), (q6, .inl (c6, 4, .inl (upd (upd (upd (upd (fun _ => 0) 0 (-9)) 1 (-9)) 2 (-9)) 3 (-9)))), (q33, .inl (c6, 4, .inl (fun _ => 0))), (q42, .inl (c6, 240, .inl (fun _ => 0))), (q50, .inl (c6, 6, .inl (fun _ => 0))), (q57, .inl (c6, 5, .inl (fun _ => 0))), (q64, .inl (c6, 5, .inl (fun _ => 0))), (q71, .inl (c6, 5, .inl (fun _ => 0))), (q78, .inl (c6, 5, .inl (fun _ => 0))), (q85, .inl (c6, 5, .inl (fun _ => 0))), (q93, .inl (c6, 6, .inl (fun _ => 0))), (q101, .inl (c6, 25, .inl (fun _ => 0))), (q108, .inl (c6, 5, .inl (fun _ => 0)))] := hD
  refine lv_aload_n hx hb dX7_init_113 rfl (lv_at hl 0 rfl) ?_
  refine lv_bipush (v := nI 6) hx hb dX7_init_114 (by decide) ?_
  refine va_newa (atype := .int) (a0 := (6, .inl (fun _ => 0))) (ty := .int) hx hb (hts (.arrayClass .int) (by decide +kernel)) rfl hK hP hD hS hA (fun cA => rfl) (nI_pos (by omega)) (N' := 6) (nI_clamp (by omega)) (show 6 * 4 ≤ 536870912 by omega) (Nat.le_of_ble_eq_true rfl) (Nat.le_of_ble_eq_true rfl) dX7_init_116 (fun q116 c116 H hK hP hD hS => ?_)
  obtain rfl : c6 = c116 := va_1 hK 0 1 rfl rfl
  have hK : va_K D vwCl [(c6, .int)] s := hK.sub (tys' := [(c6, .int)]) [0] rfl
  have hP : va_P D vwCl [(h0, .inr (7, [.int 0, .int 0, .ref q6, .ref q33, .ref q42, .int 0, .int 0, .int 0, .ref q50, .ref q57, .ref q64, .ref q71, .ref q78, .ref q85, .int 0, .int 0, .int 0, .int 0, .ref q93, .ref q101, .int 0, .int 0, .int 0, .ref q108, .null, .null, .int 0, .null, .null, .null])), (q6, .inl (c6, 4, .inl (upd (upd (upd (upd (fun _ => 0) 0 (-9)) 1 (-9)) 2 (-9)) 3 (-9)))), (q33, .inl (c6, 4, .inl (fun _ => 0))), (q42, .inl (c6, 240, .inl (fun _ => 0))), (q50, .inl (c6, 6, .inl (fun _ => 0))), (q57, .inl (c6, 5, .inl (fun _ => 0))), (q64, .inl (c6, 5, .inl (fun _ => 0))), (q71, .inl (c6, 5, .inl (fun _ => 0))), (q78, .inl (c6, 5, .inl (fun _ => 0))), (q85, .inl (c6, 5, .inl (fun _ => 0))), (q93, .inl (c6, 6, .inl (fun _ => 0))), (q101, .inl (c6, 25, .inl (fun _ => 0))), (q108, .inl (c6, 5, .inl (fun _ => 0))), (q116, .inl (c6, 6, .inl (fun _ => 0)))] H := hP
  have hD : va_D A [(h0, .inr (7, [.int 0, .int 0, .ref q6, .ref q33, .ref q42, .int 0, .int 0, .int 0, .ref q50, .ref q57, .ref q64, .ref q71, .ref q78, .ref q85, .int 0, .int 0, .int 0, .int 0, .ref q93, .ref q101, .int 0, .int 0, .int 0, .ref q108, .null, .null, .int 0, .null, .null, .null])), (q6, .inl (c6, 4, .inl (upd (upd (upd (upd (fun _ => 0) 0 (-9)) 1 (-9)) 2 (-9)) 3 (-9)))), (q33, .inl (c6, 4, .inl (fun _ => 0))), (q42, .inl (c6, 240, .inl (fun _ => 0))), (q50, .inl (c6, 6, .inl (fun _ => 0))), (q57, .inl (c6, 5, .inl (fun _ => 0))), (q64, .inl (c6, 5, .inl (fun _ => 0))), (q71, .inl (c6, 5, .inl (fun _ => 0))), (q78, .inl (c6, 5, .inl (fun _ => 0))), (q85, .inl (c6, 5, .inl (fun _ => 0))), (q93, .inl (c6, 6, .inl (fun _ => 0))), (q101, .inl (c6, 25, .inl (fun _ => 0))), (q108, .inl (c6, 5, .inl (fun _ => 0))), (q116, .inl (c6, 6, .inl (fun _ => 0)))] := hD
  refine W.widen (k := 13) (n := 321) (by omega) (by omega) ?_
  refine va_putF (D := D) (ci := 7) (v := (.ref q116)) (C := RX7) (T := TX7) (N := 30) hx hb hts (inX7_init_X7) tyX7 tyX7_ok nmX7 hown hK hP hD hS 0 rfl rfl 24 (by decide) (flX7_init_46 hts) (fun _ h9 => h9) rfl hin rfl (tyX7_ok 24 (by decide)) rfl rfl (Nat.le_of_ble_eq_true rfl) dX7_init_118 (fun H locs hP hD hS => ?_)
  have hP : va_P D vwCl [(h0, .inr (7, [.int 0, .int 0, .ref q6, .ref q33, .ref q42, .int 0, .int 0, .int 0, .ref q50, .ref q57, .ref q64, .ref q71, .ref q78, .ref q85, .int 0, .int 0, .int 0, .int 0, .ref q93, .ref q101, .int 0, .int 0, .int 0, .ref q108, .ref q116, .null, .int 0, .null, .null, .null])), (q6, .inl (c6, 4, .inl (upd (upd (upd (upd (fun _ => 0) 0 (-9)) 1 (-9)) 2 (-9)) 3 (-9)))), (q33, .inl (c6, 4, .inl (fun _ => 0))), (q42, .inl (c6, 240, .inl (fun _ => 0))), (q50, .inl (c6, 6, .inl (fun _ => 0))), (q57, .inl (c6, 5, .inl (fun _ => 0))), (q64, .inl (c6, 5, .inl (fun _ => 0))), (q71, .inl (c6, 5, .inl (fun _ => 0))), (q78, .inl (c6, 5, .inl (fun _ => 0))), (q85, .inl (c6, 5, .inl (fun _ => 0))), (q93, .inl (c6, 6, .inl (fun _ => 0))), (q101, .inl (c6, 25, .inl (fun _ => 0))), (q108, .inl (c6, 5, .inl (fun _ => 0))), (q116, .inl (c6, 6, .inl (fun _ => 0)))] H := hP
  have hD : va_D A [(h0, .inr (7, [.int 0, .int 0, .ref q6, .ref q33, .ref q42, .int 0, .int 0, .int 0, .ref q50, .ref q57, .ref q64, .ref q71, .ref q78, .ref q85, .int 0, .int 0, .int 0, .int 0, .ref q93, .ref q101, .int 0, .int 0, .int 0, .ref q108, .ref q116, .null, .int 0, .null, .null, .null])), (q6, .inl (c6, 4, .inl (upd (upd (upd (upd (fun _ => 0) 0 (-9)) 1 (-9)) 2 (-9)) 3 (-9)))), (q33, .inl (c6, 4, .inl (fun _ => 0))), (q42, .inl (c6, 240, .inl (fun _ => 0))), (q50, .inl (c6, 6, .inl (fun _ => 0))), (q57, .inl (c6, 5, .inl (fun _ => 0))), (q64, .inl (c6, 5, .inl (fun _ => 0))), (q71, .inl (c6, 5, .inl (fun _ => 0))), (q78, .inl (c6, 5, .inl (fun _ => 0))), (q85, .inl (c6, 5, .inl (fun _ => 0))), (q93, .inl (c6, 6, .inl (fun _ => 0))), (q101, .inl (c6, 25, .inl (fun _ => 0))), (q108, .inl (c6, 5, .inl (fun _ => 0))), (q116, .inl (c6, 6, .inl (fun _ => 0)))] := hD
  refine lv_aload_n hx hb dX7_init_121 rfl (lv_at hl 0 rfl) ?_
  refine lv_bipush (v := nI 6) hx hb dX7_init_122 (by decide) ?_
  refine va_newa (atype := .int) (a0 := (6, .inl (fun _ => 0))) (ty := .int) hx hb (hts (.arrayClass .int) (by decide +kernel)) rfl hK hP hD hS hA (fun cA => rfl) (nI_pos (by omega)) (N' := 6) (nI_clamp (by omega)) (show 6 * 4 ≤ 536870912 by omega) (Nat.le_of_ble_eq_true rfl) (Nat.le_of_ble_eq_true rfl) dX7_init_124 (fun q124 c124 H hK hP hD hS => ?_)
  obtain rfl : c6 = c124 := va_1 hK 0 1 rfl rfl
  have hK : va_K D vwCl [(c6, .int)] s := hK.sub (tys' := [(c6, .int)]) [0] rfl
  have hP : va_P D vwCl [(h0, .inr (7, [.int 0, .int 0, .ref q6, .ref q33, .ref q42, .int 0, .int 0, .int 0, .ref q50, .ref q57, .ref q64, .ref q71, .ref q78, .ref q85, .int 0, .int 0, .int 0, .int 0, .ref q93, .ref q101, .int 0, .int 0, .int 0, .ref q108, .ref q116, .null, .int 0, .null, .null, .null])), (q6, .inl (c6, 4, .inl (upd (upd (upd (upd (fun _ => 0) 0 (-9)) 1 (-9)) 2 (-9)) 3 (-9)))), (q33, .inl (c6, 4, .inl (fun _ => 0))), (q42, .inl (c6, 240, .inl (fun _ => 0))), (q50, .inl (c6, 6, .inl (fun _ => 0))), (q57, .inl (c6, 5, .inl (fun _ => 0))), (q64, .inl (c6, 5, .inl (fun _ => 0))), (q71, .inl (c6, 5, .inl (fun _ => 0))), (q78, .inl (c6, 5, .inl (fun _ => 0))), (q85, .inl (c6, 5, .inl (fun _ => 0))), (q93, .inl (c6, 6, .inl (fun _ => 0))), (q101, .inl (c6, 25, .inl (fun _ => 0))), (q108, .inl (c6, 5, .inl (fun _ => 0))), (q116, .inl (c6, 6, .inl (fun _ => 0))), (q124, .inl (c6, 6, .inl (fun _ => 0)))] H := hP
  have hD : va_D A [(h0, .inr (7, [.int 0, .int 0, .ref q6, .ref q33, .ref q42, .int 0, .int 0, .int 0, .ref q50, .ref q57, .ref q64, .ref q71, .ref q78, .ref q85, .int 0, .int 0, .int 0, .int 0, .ref q93, .ref q101, .int 0, .int 0, .int 0, .ref q108, .ref q116, .null, .int 0, .null, .null, .null])), (q6, .inl (c6, 4, .inl (upd (upd (upd (upd (fun _ => 0) 0 (-9)) 1 (-9)) 2 (-9)) 3 (-9)))), (q33, .inl (c6, 4, .inl (fun _ => 0))), (q42, .inl (c6, 240, .inl (fun _ => 0))), (q50, .inl (c6, 6, .inl (fun _ => 0))), (q57, .inl (c6, 5, .inl (fun _ => 0))), (q64, .inl (c6, 5, .inl (fun _ => 0))), (q71, .inl (c6, 5, .inl (fun _ => 0))), (q78, .inl (c6, 5, .inl (fun _ => 0))), (q85, .inl (c6, 5, .inl (fun _ => 0))), (q93, .inl (c6, 6, .inl (fun _ => 0))), (q101, .inl (c6, 25, .inl (fun _ => 0))), (q108, .inl (c6, 5, .inl (fun _ => 0))), (q116, .inl (c6, 6, .inl (fun _ => 0))), (q124, .inl (c6, 6, .inl (fun _ => 0)))] := hD
  refine W.widen (k := 14) (n := 327) (by omega) (by omega) ?_
  refine va_putF (D := D) (ci := 7) (v := (.ref q124)) (C := RX7) (T := TX7) (N := 30) hx hb hts (inX7_init_X7) tyX7 tyX7_ok nmX7 hown hK hP hD hS 0 rfl rfl 25 (by decide) (flX7_init_49 hts) (fun _ h9 => h9) rfl hin rfl (tyX7_ok 25 (by decide)) rfl rfl (Nat.le_of_ble_eq_true rfl) dX7_init_126 (fun H locs hP hD hS => ?_)
  have hP : va_P D vwCl [(h0, .inr (7, [.int 0, .int 0, .ref q6, .ref q33, .ref q42, .int 0, .int 0, .int 0, .ref q50, .ref q57, .ref q64, .ref q71, .ref q78, .ref q85, .int 0, .int 0, .int 0, .int 0, .ref q93, .ref q101, .int 0, .int 0, .int 0, .ref q108, .ref q116, .ref q124, .int 0, .null, .null, .null])), (q6, .inl (c6, 4, .inl (upd (upd (upd (upd (fun _ => 0) 0 (-9)) 1 (-9)) 2 (-9)) 3 (-9)))), (q33, .inl (c6, 4, .inl (fun _ => 0))), (q42, .inl (c6, 240, .inl (fun _ => 0))), (q50, .inl (c6, 6, .inl (fun _ => 0))), (q57, .inl (c6, 5, .inl (fun _ => 0))), (q64, .inl (c6, 5, .inl (fun _ => 0))), (q71, .inl (c6, 5, .inl (fun _ => 0))), (q78, .inl (c6, 5, .inl (fun _ => 0))), (q85, .inl (c6, 5, .inl (fun _ => 0))), (q93, .inl (c6, 6, .inl (fun _ => 0))), (q101, .inl (c6, 25, .inl (fun _ => 0))), (q108, .inl (c6, 5, .inl (fun _ => 0))), (q116, .inl (c6, 6, .inl (fun _ => 0))), (q124, .inl (c6, 6, .inl (fun _ => 0)))] H := hP
  have hD : va_D A [(h0, .inr (7, [.int 0, .int 0, .ref q6, .ref q33, .ref q42, .int 0, .int 0, .int 0, .ref q50, .ref q57, .ref q64, .ref q71, .ref q78, .ref q85, .int 0, .int 0, .int 0, .int 0, .ref q93, .ref q101, .int 0, .int 0, .int 0, .ref q108, .ref q116, .ref q124, .int 0, .null, .null, .null])), (q6, .inl (c6, 4, .inl (upd (upd (upd (upd (fun _ => 0) 0 (-9)) 1 (-9)) 2 (-9)) 3 (-9)))), (q33, .inl (c6, 4, .inl (fun _ => 0))), (q42, .inl (c6, 240, .inl (fun _ => 0))), (q50, .inl (c6, 6, .inl (fun _ => 0))), (q57, .inl (c6, 5, .inl (fun _ => 0))), (q64, .inl (c6, 5, .inl (fun _ => 0))), (q71, .inl (c6, 5, .inl (fun _ => 0))), (q78, .inl (c6, 5, .inl (fun _ => 0))), (q85, .inl (c6, 5, .inl (fun _ => 0))), (q93, .inl (c6, 6, .inl (fun _ => 0))), (q101, .inl (c6, 25, .inl (fun _ => 0))), (q108, .inl (c6, 5, .inl (fun _ => 0))), (q116, .inl (c6, 6, .inl (fun _ => 0))), (q124, .inl (c6, 6, .inl (fun _ => 0)))] := hD
  refine lv_aload_n hx hb dX7_init_129 rfl (lv_at hl 0 rfl) ?_
  refine lv_bipush (v := nI 8) hx hb dX7_init_130 (by decide) ?_
  refine va_newa (atype := .int) (a0 := (8, .inl (fun _ => 0))) (ty := .int) hx hb (hts (.arrayClass .int) (by decide +kernel)) rfl hK hP hD hS hA (fun cA => rfl) (nI_pos (by omega)) (N' := 8) (nI_clamp (by omega)) (show 8 * 4 ≤ 536870912 by omega) (Nat.le_of_ble_eq_true rfl) (Nat.le_of_ble_eq_true rfl) dX7_init_132 (fun q132 c132 H hK hP hD hS => ?_)
  obtain rfl : c6 = c132 := va_1 hK 0 1 rfl rfl
  have hK : va_K D vwCl [(c6, .int)] s := hK.sub (tys' := [(c6, .int)]) [0] rfl
  have hP : va_P D vwCl [(h0, .inr (7, [.int 0, .int 0, .ref q6, .ref q33, .ref q42, .int 0, .int 0, .int 0, .ref q50, .ref q57, .ref q64, .ref q71, .ref q78, .ref q85, .int 0, .int 0, .int 0, .int 0, .ref q93, .ref q101, .int 0, .int 0, .int 0, .ref q108, .ref q116, .ref q124, .int 0, .null, .null, .null])), (q6, .inl (c6, 4, .inl (upd (upd (upd (upd (fun _ => 0) 0 (-9)) 1 (-9)) 2 (-9)) 3 (-9)))), (q33, .inl (c6, 4, .inl (fun _ => 0))), (q42, .inl (c6, 240, .inl (fun _ => 0))), (q50, .inl (c6, 6, .inl (fun _ => 0))), (q57, .inl (c6, 5, .inl (fun _ => 0))), (q64, .inl (c6, 5, .inl (fun _ => 0))), (q71, .inl (c6, 5, .inl (fun _ => 0))), (q78, .inl (c6, 5, .inl (fun _ => 0))), (q85, .inl (c6, 5, .inl (fun _ => 0))), (q93, .inl (c6, 6, .inl (fun _ => 0))), (q101, .inl (c6, 25, .inl (fun _ => 0))), (q108, .inl (c6, 5, .inl (fun _ => 0))), (q116, .inl (c6, 6, .inl (fun _ => 0))), (q124, .inl (c6, 6, .inl (fun _ => 0))), (q132, .inl (c6, 8, .inl (fun _ => 0)))] H := hP
  have hD : va_D A [(h0, .inr (7, [.int 0, .int 0, .ref q6, .ref q33, .ref q42, .int 0, .int 0, .int 0, .ref q50, .ref q57, .ref q64, .ref q71, .ref q78, .ref q85, .int 0, .int 0, .int 0, .int 0, .ref q93, .ref q101, .int 0, .int 0, .int 0, .ref q108, .ref q116, .ref q124, .int 0, .null, .null, .null])), (q6, .inl (c6, 4, .inl (upd (upd (upd (upd (fun _ => 0) 0 (-9)) 1 (-9)) 2 (-9)) 3 (-9)))), (q33, .inl (c6, 4, .inl (fun _ => 0))), (q42, .inl (c6, 240, .inl (fun _ => 0))), (q50, .inl (c6, 6, .inl (fun _ => 0))), (q57, .inl (c6, 5, .inl (fun _ => 0))), (q64, .inl (c6, 5, .inl (fun _ => 0))), (q71, .inl (c6, 5, .inl (fun _ => 0))), (q78, .inl (c6, 5, .inl (fun _ => 0))), (q85, .inl (c6, 5, .inl (fun _ => 0))), (q93, .inl (c6, 6, .inl (fun _ => 0))), (q101, .inl (c6, 25, .inl (fun _ => 0))), (q108, .inl (c6, 5, .inl (fun _ => 0))), (q116, .inl (c6, 6, .inl (fun _ => 0))), (q124, .inl (c6, 6, .inl (fun _ => 0))), (q132, .inl (c6, 8, .inl (fun _ => 0)))] := hD
  refine W.widen (k := 15) (n := 335) (by omega) (by omega) ?_
  refine va_putF (D := D) (ci := 7) (v := (.ref q132)) (C := RX7) (T := TX7) (N := 30) hx hb hts (inX7_init_X7) tyX7 tyX7_ok nmX7 hown hK hP hD hS 0 rfl rfl 27 (by decide) (flX7_init_52 hts) (fun _ h9 => h9) rfl hin rfl (tyX7_ok 27 (by decide)) rfl rfl (Nat.le_of_ble_eq_true rfl) dX7_init_134 (fun H locs hP hD hS => ?_)
  have hP : va_P D vwCl [(h0, .inr (7, [.int 0, .int 0, .ref q6, .ref q33, .ref q42, .int 0, .int 0, .int 0, .ref q50, .ref q57, .ref q64, .ref q71, .ref q78, .ref q85, .int 0, .int 0, .int 0, .int 0, .ref q93, .ref q101, .int 0, .int 0, .int 0, .ref q108, .ref q116, .ref q124, .int 0, .ref q132, .null, .null])), (q6, .inl (c6, 4, .inl (upd (upd (upd (upd (fun _ => 0) 0 (-9)) 1 (-9)) 2 (-9)) 3 (-9)))), (q33, .inl (c6, 4, .inl (fun _ => 0))), (q42, .inl (c6, 240, .inl (fun _ => 0))), (q50, .inl (c6, 6, .inl (fun _ => 0))), (q57, .inl (c6, 5, .inl (fun _ => 0))), (q64, .inl (c6, 5, .inl (fun _ => 0))), (q71, .inl (c6, 5, .inl (fun _ => 0))), (q78, .inl (c6, 5, .inl (fun _ => 0))), (q85, .inl (c6, 5, .inl (fun _ => 0))), (q93, .inl (c6, 6, .inl (fun _ => 0))), (q101, .inl (c6, 25, .inl (fun _ => 0))), (q108, .inl (c6, 5, .inl (fun _ => 0))), (q116, .inl (c6, 6, .inl (fun _ => 0))), (q124, .inl (c6, 6, .inl (fun _ => 0))), (q132, .inl (c6, 8, .inl (fun _ => 0)))] H := hP
  have hD : va_D A [(h0, .inr (7, [.int 0, .int 0, .ref q6, .ref q33, .ref q42, .int 0, .int 0, .int 0, .ref q50, .ref q57, .ref q64, .ref q71, .ref q78, .ref q85, .int 0, .int 0, .int 0, .int 0, .ref q93, .ref q101, .int 0, .int 0, .int 0, .ref q108, .ref q116, .ref q124, .int 0, .ref q132, .null, .null])), (q6, .inl (c6, 4, .inl (upd (upd (upd (upd (fun _ => 0) 0 (-9)) 1 (-9)) 2 (-9)) 3 (-9)))), (q33, .inl (c6, 4, .inl (fun _ => 0))), (q42, .inl (c6, 240, .inl (fun _ => 0))), (q50, .inl (c6, 6, .inl (fun _ => 0))), (q57, .inl (c6, 5, .inl (fun _ => 0))), (q64, .inl (c6, 5, .inl (fun _ => 0))), (q71, .inl (c6, 5, .inl (fun _ => 0))), (q78, .inl (c6, 5, .inl (fun _ => 0))), (q85, .inl (c6, 5, .inl (fun _ => 0))), (q93, .inl (c6, 6, .inl (fun _ => 0))), (q101, .inl (c6, 25, .inl (fun _ => 0))), (q108, .inl (c6, 5, .inl (fun _ => 0))), (q116, .inl (c6, 6, .inl (fun _ => 0))), (q124, .inl (c6, 6, .inl (fun _ => 0))), (q132, .inl (c6, 8, .inl (fun _ => 0)))] := hD
  refine lv_aload_n hx hb dX7_init_137 rfl (lv_at hl 0 rfl) ?_
  refine lv_bipush (v := nI 8) hx hb dX7_init_138 (by decide) ?_
  refine va_newa (atype := .int) (a0 := (8, .inl (fun _ => 0))) (ty := .int) hx hb (hts (.arrayClass .int) (by decide +kernel)) rfl hK hP hD hS hA (fun cA => rfl) (nI_pos (by omega)) (N' := 8) (nI_clamp (by omega)) (show 8 * 4 ≤ 536870912 by omega) (Nat.le_of_ble_eq_true rfl) (Nat.le_of_ble_eq_true rfl) dX7_init_140 (fun q140 c140 H hK hP hD hS => ?_)
  obtain rfl : c6 = c140 := va_1 hK 0 1 rfl rfl
  have hK : va_K D vwCl [(c6, .int)] s := hK.sub (tys' := [(c6, .int)]) [0] rfl
  have hP : va_P D vwCl [(h0, .inr (7, [.int 0, .int 0, .ref q6, .ref q33, .ref q42, .int 0, .int 0, .int 0, .ref q50, .ref q57, .ref q64, .ref q71, .ref q78, .ref q85, .int 0, .int 0, .int 0, .int 0, .ref q93, .ref q101, .int 0, .int 0, .int 0, .ref q108, .ref q116, .ref q124, .int 0, .ref q132, .null, .null])), (q6, .inl (c6, 4, .inl (upd (upd (upd (upd (fun _ => 0) 0 (-9)) 1 (-9)) 2 (-9)) 3 (-9)))), (q33, .inl (c6, 4, .inl (fun _ => 0))), (q42, .inl (c6, 240, .inl (fun _ => 0))), (q50, .inl (c6, 6, .inl (fun _ => 0))), (q57, .inl (c6, 5, .inl (fun _ => 0))), (q64, .inl (c6, 5, .inl (fun _ => 0))), (q71, .inl (c6, 5, .inl (fun _ => 0))), (q78, .inl (c6, 5, .inl (fun _ => 0))), (q85, .inl (c6, 5, .inl (fun _ => 0))), (q93, .inl (c6, 6, .inl (fun _ => 0))), (q101, .inl (c6, 25, .inl (fun _ => 0))), (q108, .inl (c6, 5, .inl (fun _ => 0))), (q116, .inl (c6, 6, .inl (fun _ => 0))), (q124, .inl (c6, 6, .inl (fun _ => 0))), (q132, .inl (c6, 8, .inl (fun _ => 0))), (q140, .inl (c6, 8, .inl (fun _ => 0)))] H := hP
  have hD : va_D A [(h0, .inr (7, [.int 0, .int 0, .ref q6, .ref q33, .ref q42, .int 0, .int 0, .int 0, .ref q50, .ref q57, .ref q64, .ref q71, .ref q78, .ref q85, .int 0, .int 0, .int 0, .int 0, .ref q93, .ref q101, .int 0, .int 0, .int 0, .ref q108, .ref q116, .ref q124, .int 0, .ref q132, .null, .null])), (q6, .inl (c6, 4, .inl (upd (upd (upd (upd (fun _ => 0) 0 (-9)) 1 (-9)) 2 (-9)) 3 (-9)))), (q33, .inl (c6, 4, .inl (fun _ => 0))), (q42, .inl (c6, 240, .inl (fun _ => 0))), (q50, .inl (c6, 6, .inl (fun _ => 0))), (q57, .inl (c6, 5, .inl (fun _ => 0))), (q64, .inl (c6, 5, .inl (fun _ => 0))), (q71, .inl (c6, 5, .inl (fun _ => 0))), (q78, .inl (c6, 5, .inl (fun _ => 0))), (q85, .inl (c6, 5, .inl (fun _ => 0))), (q93, .inl (c6, 6, .inl (fun _ => 0))), (q101, .inl (c6, 25, .inl (fun _ => 0))), (q108, .inl (c6, 5, .inl (fun _ => 0))), (q116, .inl (c6, 6, .inl (fun _ => 0))), (q124, .inl (c6, 6, .inl (fun _ => 0))), (q132, .inl (c6, 8, .inl (fun _ => 0))), (q140, .inl (c6, 8, .inl (fun _ => 0)))] := hD
  refine W.widen (k := 16) (n := 343) (by omega) (by omega) ?_
  refine va_putF (D := D) (ci := 7) (v := (.ref q140)) (C := RX7) (T := TX7) (N := 30) hx hb hts (inX7_init_X7) tyX7 tyX7_ok nmX7 hown hK hP hD hS 0 rfl rfl 28 (by decide) (flX7_init_55 hts) (fun _ h9 => h9) rfl hin rfl (tyX7_ok 28 (by decide)) rfl rfl (Nat.le_of_ble_eq_true rfl) dX7_init_142 (fun H locs hP hD hS => ?_)
  have hP : va_P D vwCl [(h0, .inr (7, [.int 0, .int 0, .ref q6, .ref q33, .ref q42, .int 0, .int 0, .int 0, .ref q50, .ref q57, .ref q64, .ref q71, .ref q78, .ref q85, .int 0, .int 0, .int 0, .int 0, .ref q93, .ref q101, .int 0, .int 0, .int 0, .ref q108, .ref q116, .ref q124, .int 0, .ref q132, .ref q140, .null])), (q6, .inl (c6, 4, .inl (upd (upd (upd (upd (fun _ => 0) 0 (-9)) 1 (-9)) 2 (-9)) 3 (-9)))), (q33, .inl (c6, 4, .inl (fun _ => 0))), (q42, .inl (c6, 240, .inl (fun _ => 0))), (q50, .inl (c6, 6, .inl (fun _ => 0))), (q57, .inl (c6, 5, .inl (fun _ => 0))), (q64, .inl (c6, 5, .inl (fun _ => 0))), (q71, .inl (c6, 5, .inl (fun _ => 0))), (q78, .inl (c6, 5, .inl (fun _ => 0))), (q85, .inl (c6, 5, .inl (fun _ => 0))), (q93, .inl (c6, 6, .inl (fun _ => 0))), (q101, .inl (c6, 25, .inl (fun _ => 0))), (q108, .inl (c6, 5, .inl (fun _ => 0))), (q116, .inl (c6, 6, .inl (fun _ => 0))), (q124, .inl (c6, 6, .inl (fun _ => 0))), (q132, .inl (c6, 8, .inl (fun _ => 0))), (q140, .inl (c6, 8, .inl (fun _ => 0)))] H := hP
  have hD : va_D A [(h0, .inr (7, [.int 0, .int 0, .ref q6, .ref q33, .ref q42, .int 0, .int 0, .int 0, .ref q50, .ref q57, .ref q64, .ref q71, .ref q78, .ref q85, .int 0, .int 0, .int 0, .int 0, .ref q93, .ref q101, .int 0, .int 0, .int 0, .ref q108, .ref q116, .ref q124, .int 0, .ref q132, .ref q140, .null])), (q6, .inl (c6, 4, .inl (upd (upd (upd (upd (fun _ => 0) 0 (-9)) 1 (-9)) 2 (-9)) 3 (-9)))), (q33, .inl (c6, 4, .inl (fun _ => 0))), (q42, .inl (c6, 240, .inl (fun _ => 0))), (q50, .inl (c6, 6, .inl (fun _ => 0))), (q57, .inl (c6, 5, .inl (fun _ => 0))), (q64, .inl (c6, 5, .inl (fun _ => 0))), (q71, .inl (c6, 5, .inl (fun _ => 0))), (q78, .inl (c6, 5, .inl (fun _ => 0))), (q85, .inl (c6, 5, .inl (fun _ => 0))), (q93, .inl (c6, 6, .inl (fun _ => 0))), (q101, .inl (c6, 25, .inl (fun _ => 0))), (q108, .inl (c6, 5, .inl (fun _ => 0))), (q116, .inl (c6, 6, .inl (fun _ => 0))), (q124, .inl (c6, 6, .inl (fun _ => 0))), (q132, .inl (c6, 8, .inl (fun _ => 0))), (q140, .inl (c6, 8, .inl (fun _ => 0)))] := hD
  refine lv_aload_n hx hb dX7_init_145 rfl (lv_at hl 0 rfl) ?_
  refine lv_bipush (v := nI 8) hx hb dX7_init_146 (by decide) ?_
  refine va_newa (atype := .int) (a0 := (8, .inl (fun _ => 0))) (ty := .int) hx hb (hts (.arrayClass .int) (by decide +kernel)) rfl hK hP hD hS hA (fun cA => rfl) (nI_pos (by omega)) (N' := 8) (nI_clamp (by omega)) (show 8 * 4 ≤ 536870912 by omega) (Nat.le_of_ble_eq_true rfl) (Nat.le_of_ble_eq_true rfl) dX7_init_148 (fun q148 c148 H hK hP hD hS => ?_)
  obtain rfl : c6 = c148 := va_1 hK 0 1 rfl rfl
  have hK : va_K D vwCl [(c6, .int)] s := hK.sub (tys' := [(c6, .int)]) [0] rfl
  have hP : va_P D vwCl [(h0, .inr (7, [.int 0, .int 0, .ref q6, .ref q33, .ref q42, .int 0, .int 0, .int 0, .ref q50, .ref q57, .ref q64, .ref q71, .ref q78, .ref q85, .int 0, .int 0, .int 0, .int 0, .ref q93, .ref q101, .int 0, .int 0, .int 0, .ref q108, .ref q116, .ref q124, .int 0, .ref q132, .ref q140, .null])), (q6, .inl (c6, 4, .inl (upd (upd (upd (upd (fun _ => 0) 0 (-9)) 1 (-9)) 2 (-9)) 3 (-9)))), (q33, .inl (c6, 4, .inl (fun _ => 0))), (q42, .inl (c6, 240, .inl (fun _ => 0))), (q50, .inl (c6, 6, .inl (fun _ => 0))), (q57, .inl (c6, 5, .inl (fun _ => 0))), (q64, .inl (c6, 5, .inl (fun _ => 0))), (q71, .inl (c6, 5, .inl (fun _ => 0))), (q78, .inl (c6, 5, .inl (fun _ => 0))), (q85, .inl (c6, 5, .inl (fun _ => 0))), (q93, .inl (c6, 6, .inl (fun _ => 0))), (q101, .inl (c6, 25, .inl (fun _ => 0))), (q108, .inl (c6, 5, .inl (fun _ => 0))), (q116, .inl (c6, 6, .inl (fun _ => 0))), (q124, .inl (c6, 6, .inl (fun _ => 0))), (q132, .inl (c6, 8, .inl (fun _ => 0))), (q140, .inl (c6, 8, .inl (fun _ => 0))), (q148, .inl (c6, 8, .inl (fun _ => 0)))] H := hP
  have hD : va_D A [(h0, .inr (7, [.int 0, .int 0, .ref q6, .ref q33, .ref q42, .int 0, .int 0, .int 0, .ref q50, .ref q57, .ref q64, .ref q71, .ref q78, .ref q85, .int 0, .int 0, .int 0, .int 0, .ref q93, .ref q101, .int 0, .int 0, .int 0, .ref q108, .ref q116, .ref q124, .int 0, .ref q132, .ref q140, .null])), (q6, .inl (c6, 4, .inl (upd (upd (upd (upd (fun _ => 0) 0 (-9)) 1 (-9)) 2 (-9)) 3 (-9)))), (q33, .inl (c6, 4, .inl (fun _ => 0))), (q42, .inl (c6, 240, .inl (fun _ => 0))), (q50, .inl (c6, 6, .inl (fun _ => 0))), (q57, .inl (c6, 5, .inl (fun _ => 0))), (q64, .inl (c6, 5, .inl (fun _ => 0))), (q71, .inl (c6, 5, .inl (fun _ => 0))), (q78, .inl (c6, 5, .inl (fun _ => 0))), (q85, .inl (c6, 5, .inl (fun _ => 0))), (q93, .inl (c6, 6, .inl (fun _ => 0))), (q101, .inl (c6, 25, .inl (fun _ => 0))), (q108, .inl (c6, 5, .inl (fun _ => 0))), (q116, .inl (c6, 6, .inl (fun _ => 0))), (q124, .inl (c6, 6, .inl (fun _ => 0))), (q132, .inl (c6, 8, .inl (fun _ => 0))), (q140, .inl (c6, 8, .inl (fun _ => 0))), (q148, .inl (c6, 8, .inl (fun _ => 0)))] := hD
  refine W.widen (k := 17) (n := 351) (by omega) (by omega) ?_
  refine va_putF (D := D) (ci := 7) (v := (.ref q148)) (C := RX7) (T := TX7) (N := 30) hx hb hts (inX7_init_X7) tyX7 tyX7_ok nmX7 hown hK hP hD hS 0 rfl rfl 29 (by decide) (flX7_init_58 hts) (fun _ h9 => h9) rfl hin rfl (tyX7_ok 29 (by decide)) rfl rfl (Nat.le_of_ble_eq_true rfl) dX7_init_150 (fun H locs hP hD hS => ?_)
  have hP : va_P D vwCl [(h0, .inr (7, [.int 0, .int 0, .ref q6, .ref q33, .ref q42, .int 0, .int 0, .int 0, .ref q50, .ref q57, .ref q64, .ref q71, .ref q78, .ref q85, .int 0, .int 0, .int 0, .int 0, .ref q93, .ref q101, .int 0, .int 0, .int 0, .ref q108, .ref q116, .ref q124, .int 0, .ref q132, .ref q140, .ref q148])), (q6, .inl (c6, 4, .inl (upd (upd (upd (upd (fun _ => 0) 0 (-9)) 1 (-9)) 2 (-9)) 3 (-9)))), (q33, .inl (c6, 4, .inl (fun _ => 0))), (q42, .inl (c6, 240, .inl (fun _ => 0))), (q50, .inl (c6, 6, .inl (fun _ => 0))), (q57, .inl (c6, 5, .inl (fun _ => 0))), (q64, .inl (c6, 5, .inl (fun _ => 0))), (q71, .inl (c6, 5, .inl (fun _ => 0))), (q78, .inl (c6, 5, .inl (fun _ => 0))), (q85, .inl (c6, 5, .inl (fun _ => 0))), (q93, .inl (c6, 6, .inl (fun _ => 0))), (q101, .inl (c6, 25, .inl (fun _ => 0))), (q108, .inl (c6, 5, .inl (fun _ => 0))), (q116, .inl (c6, 6, .inl (fun _ => 0))), (q124, .inl (c6, 6, .inl (fun _ => 0))), (q132, .inl (c6, 8, .inl (fun _ => 0))), (q140, .inl (c6, 8, .inl (fun _ => 0))), (q148, .inl (c6, 8, .inl (fun _ => 0)))] H := hP
  have hD : va_D A [(h0, .inr (7, [.int 0, .int 0, .ref q6, .ref q33, .ref q42, .int 0, .int 0, .int 0, .ref q50, .ref q57, .ref q64, .ref q71, .ref q78, .ref q85, .int 0, .int 0, .int 0, .int 0, .ref q93, .ref q101, .int 0, .int 0, .int 0, .ref q108, .ref q116, .ref q124, .int 0, .ref q132, .ref q140, .ref q148])), (q6, .inl (c6, 4, .inl (upd (upd (upd (upd (fun _ => 0) 0 (-9)) 1 (-9)) 2 (-9)) 3 (-9)))), (q33, .inl (c6, 4, .inl (fun _ => 0))), (q42, .inl (c6, 240, .inl (fun _ => 0))), (q50, .inl (c6, 6, .inl (fun _ => 0))), (q57, .inl (c6, 5, .inl (fun _ => 0))), (q64, .inl (c6, 5, .inl (fun _ => 0))), (q71, .inl (c6, 5, .inl (fun _ => 0))), (q78, .inl (c6, 5, .inl (fun _ => 0))), (q85, .inl (c6, 5, .inl (fun _ => 0))), (q93, .inl (c6, 6, .inl (fun _ => 0))), (q101, .inl (c6, 25, .inl (fun _ => 0))), (q108, .inl (c6, 5, .inl (fun _ => 0))), (q116, .inl (c6, 6, .inl (fun _ => 0))), (q124, .inl (c6, 6, .inl (fun _ => 0))), (q132, .inl (c6, 8, .inl (fun _ => 0))), (q140, .inl (c6, 8, .inl (fun _ => 0))), (q148, .inl (c6, 8, .inl (fun _ => 0)))] := hD
  have hP9 := hP.sub (ws' := (wl (fun k => ([h0, q6, q33, q42, q50, q57, q64, q71, q78, q85, q93, q101, q108, q116, q124, q132, q140, q148] : List Nat).getD k 0) 18 (en2 (fun k => ([h0, q6, q33, q42, q50, q57, q64, q71, q78, q85, q93, q101, q108, q116, q124, q132, q140, q148] : List Nat).getD k 0) (fun k => ([c6] : List ClassId).getD k c6) z2))) [0, 1, 2, 3, 4, 5, 6, 7, 8, 9, 10, 11, 12, 13, 14, 15, 16, 17] rfl
  have hD9 := hD.sub (ws' := (wl (fun k => ([h0, q6, q33, q42, q50, q57, q64, q71, q78, q85, q93, q101, q108, q116, q124, q132, q140, q148] : List Nat).getD k 0) 18 (en2 (fun k => ([h0, q6, q33, q42, q50, q57, q64, q71, q78, q85, q93, q101, q108, q116, q124, q132, q140, q148] : List Nat).getD k 0) (fun k => ([c6] : List ClassId).getD k c6) z2))) [0, 1, 2, 3, 4, 5, 6, 7, 8, 9, 10, 11, 12, 13, 14, 15, 16, 17] (by decide) rfl
  have hK9 := hK.sub (tys' := tys2 (fun k => ([c6] : List ClassId).getD k c6)) [0] rfl
  exact W.vret hx hb hr (fun t ht hW => ⟨⟨(), rfl, trivial, (fun k => ([h0, q6, q33, q42, q50, q57, q64, q71, q78, q85, q93, q101, q108, q116, q124, q132, q140, q148] : List Nat).getD k 0), (fun k => ([c6] : List ClassId).getD k c6), rfl, by rw [ht]; exact hP9, va_K.moved hW.alike hK9, hD9⟩, hS.F ht⟩) hS.2.2 dX7_init_153
