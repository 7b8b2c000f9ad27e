/-! A world of fixed places: place k lies at ad k and holds en k; what changes are whole numbers, (place, slot) to number. -/
abbrev Sg : Type := Nat → Nat → Int32
def up (σ : Sg) (a b : Nat) (v : Int32) : Sg := fun i j => if i = a ∧ j = b then v else σ i j
theorem up_s {σ : Sg} {a b : Nat} {v : Int32} : up σ a b v a b = v := by simp [up]
theorem up_n {σ : Sg} {a b i j : Nat} {v : Int32} (h : ¬ (i = a ∧ j = b)) : up σ a b v i j = σ i j := by simp [up, h]
theorem up_r {σ : Sg} {a b i : Nat} {v : Int32} (h : i ≠ a) : up σ a b v i = σ i := by
  funext j
  exact up_n (fun q => h q.1)
theorem up_a {σ : Sg} {a b : Nat} {v : Int32} : up σ a b v a = upd (σ a) b v := by
  funext j
  simp [up, upd]
def wl (ad : Nat → Nat) (N : Nat) (en : Nat → va_E) : va_W := (List.range N).map fun k => (ad k, en k)
theorem wl_get {ad : Nat → Nat} {N : Nat} {en : Nat → va_E} {k : Nat} (h : k < N) : (wl ad N en)[k]? = some (ad k, en k) := by simp [wl, h]
theorem wl_at {ad : Nat → Nat} {N : Nat} {en : Nat → va_E} {k : Nat} {e : va_E} (h : k < N) (he : en k = e) : (wl ad N en)[k]? = some (ad k, e) := by rw [wl_get h, he]
theorem wl_of {ad : Nat → Nat} {N : Nat} {en : Nat → va_E} {k : Nat} {q : Nat × va_E} (h : (wl ad N en)[k]? = some q) : k < N ∧ q = (ad k, en k) := by
  have hl := (List.getElem?_eq_some_iff.mp h).1
  have hk : k < N := by simpa [wl] using hl
  refine ⟨hk, ?_⟩
  rw [wl_get hk] at h
  exact (Option.some.inj h).symm
theorem wl_set {ad : Nat → Nat} {N : Nat} {en en' : Nat → va_E} {k : Nat} {e : va_E} (h1 : en' k = e) (h2 : ∀ j, j ≠ k → en' j = en j) : (wl ad N en).set k (ad k, e) = wl ad N en' := by
  apply List.ext_getElem?
  intro i
  by_cases hi : i < N
  · rw [wl_get hi, List.getElem?_set, wl_get hi]
    by_cases hk : k = i
    · subst hk
      simp [wl, hi, h1]
    · rw [if_neg hk, h2 i (fun q => hk q.symm)]
  · rw [List.getElem?_eq_none (by simp [wl]; omega), List.getElem?_eq_none (by simp [wl]; omega)]
def AA (ad : Nat → Nat) (N : Nat) : Nat → Prop := fun q => ∃ k, k < N ∧ q = ad k
def Ij (ad : Nat → Nat) (N : Nat) : Prop := ∀ i j, i < N → j < N → ad i = ad j → i = j
theorem wl_D {ad : Nat → Nat} {N : Nat} {en : Nat → va_E} (h : Ij ad N) : va_D (AA ad N) (wl ad N en) := by
  refine ⟨fun i j p q hi hj hpq => ?_, fun k q hk => ?_⟩
  · obtain ⟨h1, rfl⟩ := wl_of hi
    obtain ⟨h2, rfl⟩ := wl_of hj
    exact h i j h1 h2 hpq
  · obtain ⟨h1, rfl⟩ := wl_of hk
    exact ⟨k, h1, rfl⟩
/-- what holds of a state: the world and the tables; X: other words of the tables -/
def WB (D : va_G) (tys : List (ClassId × FieldType)) (ad : Nat → Nat) (N : Nat) (en : Sg → Nat → va_E) (X : State → Prop) (σ : Sg) (U : State) : Prop := va_P D vwCl (wl ad N (en σ)) U.heap ∧ va_K D vwCl tys U ∧ X U
def Xok (X : State → Prop) : Prop := (∀ s U : State, s.WarmedH U.vm → X s → X U) ∧ ∀ (U : State) (g : JFrame) (mk : MethodId) (a : Array Value), X U → X (U.calling g mk a)
theorem WB.blind {D : va_G} {tys : List (ClassId × FieldType)} {ad : Nat → Nat} {N : Nat} {en : Sg → Nat → va_E} {X : State → Prop} {σ : Sg} {av : List Value} (hXo : Xok X) : FrameBlind (va_Pc av (WB D tys ad N en X σ)) := by
  intro a U g mk h
  obtain ⟨h0, hP, hK, hX⟩ := h
  exact ⟨h0, hP, va_K.moved (u := U) (U := U.calling g mk a) (Vm.Alike.refl U.vm) hK, hXo.2 _ _ _ _ hX⟩
section KIT
variable {p : Program} {l : Launch} {e : Env} {R : Room} {s : State} {m : MethodId} {args : Array Value} {below : List Frame} {meth : Method} {c : Code} {H : Heap} {locs : List Loc} {cells slots : Nat} {Q : State → Prop}
variable {cc : ByteArray} {pc : Nat} {ls : Array Slot} {rest st0 : List Value} {D : va_G} {tys : List (ClassId × FieldType)} {ad : Nat → Nat} {N : Nat} {X : State → Prop} {en en' : Nat → va_E} {eg : Sg → Nat → va_E} {H0 : Heap} {σ σ' : Sg}
/-- a method's entry -/
theorem xk_entry {y : MethodName} {ws ws' : List Cond} {rm : Room} {Qc : Array Value → State → Outcome → State → Prop} {av : List Value} {free : Addr → Prop} (cc : ByteArray) (maxL : Nat) (ret : Option FieldType)
    (hy : plainName y.cls = true) (hw : ws = Cond.code y cc maxL ret :: ws') (hav : (lg_sl av).length ≤ maxL)
    (body : ∀ p e s m below meth c, p.tables.exec = Jvm.exec → c.code = cc → c.maxLocals = maxL → meth.sig.returnType = ret → (∀ w ∈ ws, w.before av.toArray s = true) → s.vm.findClass y.cls = some m.cls → meth.locks = false →
      va_P D vwCl (wl ad N (eg σ)) s.heap → va_K D vwCl tys s → X s → va_S (AA ad N) s.heap s.heap [] → ∀ ls, lv_has ls maxL (lv_args 0 av) →
      W p l e rm s m av.toArray below meth c s.heap [] 0 0 (MQ below Qc av.toArray s 0 0 free) (F0 m 0 ls [])) :
    Met l y ws rm (va_Pc av (WB D tys ad N eg X σ)) Qc 0 0 free := by
  refine Met.ofW (cc := cc) (maxL := maxL) (ret := ret) hy hw ?_
  intro p e s m args below meth c s₁ B hml hv
  obtain ⟨rfl, hP, hK, hX⟩ := hv
  have hts := atoms_spec (ws := ws) B.pre
  have hl := lv_entry av (n := maxL) hav
  rw [lg_entry_eq]
  exact body p e s m below meth c B.exec B.bytes hml B.returns hts (findClass_of_methodNamed B.named) B.notSynchronized hP hK hX va_S.rf _ hl
theorem xk_get (hexec : p.tables.exec = Jvm.exec) (hb : c.code = cc) {own ref C : String} {T : u_T} {M ci index : Nat} {Ts : List Cond} (hts : ∀ w ∈ Ts, w.before args s = true) (hin : ∀ w ∈ u_ws C T M, w ∈ Ts) (hown : s.vm.findClass own = some m.cls) (hK : va_K D vwCl tys s) (hP : va_P D vwCl (wl ad N en) H) (q0 : Nat) (hq : q0 < N) {fs : List Value} (he : en q0 = .inr (ci, fs)) (hc : vwCl[ci]? = some (C, T, M)) (k : Nat) (hk : k < M) (hlink : (Cond.fieldLink own index ref (T k).2.1 (T k).2.2.1).before args s = true) (hsame : (T k).1 = ref) (v : Value) (hv : fs[k]? = some v) (hdg : decode cc pc = .ok (.getfield index, 3))
    (kk : W p l e R s m args below meth c H locs cells slots Q (F0 m (pc + 3) ls (v :: rest))) : W p l e R s m args below meth c H locs cells slots Q (F0 m pc ls (.ref (ad q0) :: rest)) :=
  va_get hexec hb hts hin hown hK hP q0 (wl_at hq he) hc k hk hlink (fun x h => by rw [← hsame]; exact h) hv hdg kk
theorem xk_put (hexec : p.tables.exec = Jvm.exec) (hb : c.code = cc) {own ref C : String} {T : u_T} {M ci index : Nat} {Ts : List Cond} (hts : ∀ w ∈ Ts, w.before args s = true) (hin : ∀ w ∈ u_ws C T M, w ∈ Ts) (ty0 : Nat → FieldType) (hty : ∀ k, k < M → parseFieldDescriptor (T k).2.2.1 = some (ty0 k)) (hnm : ∀ a, a < M → ∀ b, b < M → a ≠ b → (T a).2.1 ≠ (T b).2.1) (hown : s.vm.findClass own = some m.cls) (hK : va_K D vwCl tys s) (hI : Ij ad N) (hP : va_P D vwCl (wl ad N (eg σ)) H) (hS : va_S (AA ad N) H0 H locs) (q0 : Nat) (hq : q0 < N) {fs : List Value} (he : eg σ q0 = .inr (ci, fs)) (hc : vwCl[ci]? = some (C, T, M)) (k : Nat) (hk : k < M) (hlink : (Cond.fieldLink own index ref (T k).2.1 (T k).2.2.1).before args s = true) (hsame : (T k).1 = ref) (hfin : (T k).2.2.2 = false) (hd : parseFieldDescriptor (T k).2.2.1 = some .int) (hl : k < fs.length) {v : Int32}
    (hloc : ∀ (τ τ' : Sg) (j : Nat), τ j = τ' j → eg τ j = eg τ' j) (he' : eg (up σ q0 k v) q0 = .inr (ci, fs.set k (.int v))) (hdg : decode cc pc = .ok (.putfield index, 3))
    (kk : ∀ (H1 : Heap) (locs1 : List Loc), va_P D vwCl (wl ad N (eg (up σ q0 k v))) H1 → va_S (AA ad N) H0 H1 locs1 → W p l e R s m args below meth c H1 locs1 cells slots Q (F0 m (pc + 3) ls rest)) : W p l e R s m args below meth c H locs cells slots Q (F0 m pc ls (.int v :: .ref (ad q0) :: rest)) := by
  refine va_put hexec hb hts hin ty0 hty hnm hown hK hP (wl_D hI) hS q0 (wl_at hq he) hc k hk hlink (fun x h => by rw [← hsame]; exact h) hfin hd (vp_nar_int v) (by rfl) hl hdg (fun H1 locs1 hP1 _ hS1 => ?_)
  rw [wl_set he' (fun j hj => hloc _ _ _ (up_r hj))] at hP1
  exact kk H1 locs1 hP1 hS1
theorem xk_iald (hexec : p.tables.exec = Jvm.exec) (hb : c.code = cc) (hK : va_K D vwCl tys s) (hP : va_P D vwCl (wl ad N en) H) (q0 : Nat) (hq : q0 < N) {cA : ClassId} {n : Nat} {f : Nat → Int32} (he : en q0 = .inl (cA, n, .inl f)) (ht : tys[0]? = some (cA, .int)) (j : Nat) (hj : j < n) (hn : n < 2 ^ 31) (hdg : decode cc pc = .ok (.iaload, 1))
    (kk : W p l e R s m args below meth c H locs cells slots Q (F0 m (pc + 1) ls (.int (f j) :: rest))) : W p l e R s m args below meth c H locs cells slots Q (F0 m pc ls (.int (nI j) :: .ref (ad q0) :: rest)) := by
  refine va_iald hexec hb hK hP q0 0 (wl_at hq he) ht (vp_in_nI hj hn) hdg ?_
  rw [nI_clamp (by omega)]
  exact kk
theorem xk_iast (hexec : p.tables.exec = Jvm.exec) (hb : c.code = cc) (hK : va_K D vwCl tys s) (hI : Ij ad N) (hP : va_P D vwCl (wl ad N (eg σ)) H) (hS : va_S (AA ad N) H0 H locs) (q0 : Nat) (hq : q0 < N) {cA : ClassId} {n : Nat} (he : ∀ τ : Sg, eg τ q0 = .inl (cA, n, .inl (τ q0))) (ht : tys[0]? = some (cA, .int)) (j : Nat) (hj : j < n) (hn : n < 2 ^ 31) {x : Int32}
    (hloc : ∀ (τ τ' : Sg) (j : Nat), τ j = τ' j → eg τ j = eg τ' j) (hdg : decode cc pc = .ok (.iastore, 1))
    (kk : ∀ (H1 : Heap) (locs1 : List Loc), va_P D vwCl (wl ad N (eg (up σ q0 j x))) H1 → va_S (AA ad N) H0 H1 locs1 → W p l e R s m args below meth c H1 locs1 cells slots Q (F0 m (pc + 1) ls rest)) : W p l e R s m args below meth c H locs cells slots Q (F0 m pc ls (.int x :: .int (nI j) :: .ref (ad q0) :: rest)) := by
  refine va_iast hexec hb hK hP (wl_D hI) hS q0 0 (wl_at hq (he σ)) ht (vp_in_nI hj hn) hdg (fun H1 locs1 hP1 _ hS1 => ?_)
  rw [nI_clamp (by omega), wl_set (en' := eg (up σ q0 j x)) (by rw [he, up_a]) (fun i hi => hloc _ _ _ (up_r hi))] at hP1
  exact kk H1 locs1 hP1 hS1
theorem xk_alen (hexec : p.tables.exec = Jvm.exec) (hb : c.code = cc) (hK : va_K D vwCl tys s) (hP : va_P D vwCl (wl ad N en) H) (q0 : Nat) (hq : q0 < N) {cA : ClassId} {x : vp_A} (he : en q0 = .inl (cA, x)) (t0 : Nat) {ty : FieldType} (ht : tys[t0]? = some (cA, ty)) (n : Nat) (hn : x.1 = n) (hdg : decode cc pc = .ok (.arraylength, 1))
    (kk : W p l e R s m args below meth c H locs cells slots Q (F0 m (pc + 1) ls (.int (nI n) :: rest))) : W p l e R s m args below meth c H locs cells slots Q (F0 m pc ls (.ref (ad q0) :: rest)) :=
  va_alen hexec hb hK hP q0 t0 (wl_at hq he) ht (by rw [hn]; rfl) hdg kk
theorem xk_aald (hexec : p.tables.exec = Jvm.exec) (hb : c.code = cc) (hK : va_K D vwCl tys s) (hP : va_P D vwCl (wl ad N en) H) (q0 : Nat) (hq : q0 < N) {cA : ClassId} {C : String} {n : Nat} {f : Nat → Option Nat} (he : en q0 = .inl (cA, n, .inr (.inr (.inr (.inr f))))) (t0 : Nat) (ht : tys[t0]? = some (cA, .object C)) (j : Nat) (hj : j < n) (hn : n < 2 ^ 31) (a : Nat) (hf : f j = some a) (hdg : decode cc pc = .ok (.aaload, 1))
    (kk : W p l e R s m args below meth c H locs cells slots Q (F0 m (pc + 1) ls (.ref a :: rest))) : W p l e R s m args below meth c H locs cells slots Q (F0 m pc ls (.int (nI j) :: .ref (ad q0) :: rest)) := by
  refine va_aldq hexec hb hK hP q0 t0 (wl_at hq he) ht (vp_in_nI hj hn) hdg ?_
  rw [nI_clamp (by omega), hf]
  exact kk
/-! the end -/
theorem xk_iret {post : Int32 → Sg → Prop} {rt : FieldType} {v : Int32} (hexec : p.tables.exec = Jvm.exec) (hb : c.code = cc) (hr : meth.sig.returnType = some rt) (hn : narrow rt (.int v) = .int v) (hXo : Xok X) (hK : va_K D vwCl tys s) (hX : X s) (hP : va_P D vwCl (wl ad N (eg σ')) H) (hS : va_S (AA ad N) s.heap H locs) (hlk : meth.locks = false) (hdg : decode cc pc = .ok (.ireturn, 1)) (hp : post v σ') :
    W p l e R s m args below meth c H locs cells slots (MQ below (va_Qi post (WB D tys ad N eg X) (AA ad N)) args s cells slots (AA ad N)) (F0 m pc ls [.int v]) :=
  W.zret hexec hb hr hn (fun t ht hW => ⟨⟨v, σ', rfl, hp, by rw [ht]; exact hP, va_K.moved hW.alike hK, hXo.1 _ _ hW hX⟩, hS.F ht⟩) hS.2.2 hdg hlk
theorem xk_vret {post : Sg → Prop} (hexec : p.tables.exec = Jvm.exec) (hb : c.code = cc) (hr : meth.sig.returnType = none) (hXo : Xok X) (hK : va_K D vwCl tys s) (hX : X s) (hP : va_P D vwCl (wl ad N (eg σ')) H) (hS : va_S (AA ad N) s.heap H locs) (hlk : meth.locks = false) (hdg : decode cc pc = .ok (.return_, 1)) (hp : post σ') :
    W p l e R s m args below meth c H locs cells slots (MQ below (va_Qv post (WB D tys ad N eg X) (AA ad N)) args s cells slots (AA ad N)) (F0 m pc ls []) :=
  W.vret hexec hb hr (fun t ht hW => ⟨⟨σ', rfl, hp, by rw [ht]; exact hP, va_K.moved hW.alike hK, hXo.1 _ _ hW hX⟩, hS.F ht⟩) hS.2.2 hdg hlk
theorem xk_lret {post : Int64 → Sg → Prop} {v : Int64} (hexec : p.tables.exec = Jvm.exec) (hb : c.code = cc) (hr : meth.sig.returnType = some .long) (hXo : Xok X) (hK : va_K D vwCl tys s) (hX : X s) (hP : va_P D vwCl (wl ad N (eg σ')) H) (hS : va_S (AA ad N) s.heap H locs) (hlk : meth.locks = false) (hdg : decode cc pc = .ok (.lreturn, 1)) (hp : post v σ') :
    W p l e R s m args below meth c H locs cells slots (MQ below (va_Ql post (WB D tys ad N eg X) (AA ad N)) args s cells slots (AA ad N)) (F0 m pc ls [.long v]) :=
  W.lret hexec hb hr (fun t ht hW => ⟨⟨v, σ', rfl, hp, by rw [ht]; exact hP, va_K.moved hW.alike hK, hXo.1 _ _ hW hX⟩, hS.F ht⟩) hS.2.2 hdg hlk
theorem xk_aret {post : Option Nat → Sg → Prop} {rt : FieldType} (r : Option Nat) (hexec : p.tables.exec = Jvm.exec) (hb : c.code = cc) (hr : meth.sig.returnType = some rt) (hrt : ∃ n, rt = .object n) (hXo : Xok X) (hK : va_K D vwCl tys s) (hX : X s) (hP : va_P D vwCl (wl ad N (eg σ')) H) (hS : va_S (AA ad N) s.heap H locs) (hlk : meth.locks = false) (hdg : decode cc pc = .ok (.areturn, 1)) (hp : post r σ') :
    W p l e R s m args below meth c H locs cells slots (MQ below (va_Qq post (WB D tys ad N eg X) (AA ad N)) args s cells slots (AA ad N)) (F0 m pc ls [va_rf r]) :=
  W.aret hexec hb hr (Or.inl hrt) (va_rf_or r) (fun t ht hW => ⟨⟨r, σ', rfl, hp, by rw [ht]; exact hP, va_K.moved hW.alike hK, hXo.1 _ _ hW hX⟩, hS.F ht⟩) hS.2.2 hdg hlk
/-! calls -/
theorem xk_recv {ci : Nat} {q : vw_C} {fs : List Value} (hK : va_K D vwCl tys s) (hP : va_P D vwCl (wl ad N en) H) (q0 : Nat) (hq : q0 < N) (he : en q0 = .inr (ci, fs)) (hc : vwCl[ci]? = some q) : ∃ cell : Cell, H[ad q0]? = some cell ∧ cell.vm.isStatics = false ∧ s.vm.findClass q.1 = some cell.cls :=
  va_recv hK hP hc (wl_at hq he)
theorem xk_preV {C : String} {b : Nat} {As : List Value} (hXo : Xok X) (hK : va_K D vwCl tys s) (hX : X s) (hP : va_P D vwCl (wl ad N (eg σ)) H) (hrv : ∃ cell : Cell, H[b]? = some cell ∧ cell.vm.isStatics = false ∧ s.vm.findClass C = some cell.cls) : PreV s H C b (va_Pc (.ref b :: As) (WB D tys ad N eg X σ)) As :=
  ⟨WB.blind hXo, hrv, fun U hU hW => ⟨rfl, by rw [hU]; exact hP, va_K.moved hW.alike hK, hXo.1 _ _ hW hX⟩⟩
theorem xk_preS {As : List Value} (hXo : Xok X) (hK : va_K D vwCl tys s) (hX : X s) (hP : va_P D vwCl (wl ad N (eg σ)) H) : PreS s H (va_Pc As (WB D tys ad N eg X σ)) As :=
  ⟨WB.blind hXo, fun U hU hW => ⟨rfl, by rw [hU]; exact hP, va_K.moved hW.alike hK, hXo.1 _ _ hW hX⟩⟩
theorem xk_ci {post : Int32 → Sg → Prop} {a : Array Value} (hr : va_Run p l e R s m args below meth c H locs cells slots 0 0 (F0 m pc ls st0) rest (va_Qi post (WB D tys ad N eg X) (AA ad N) a) (AA ad N)) (hS : va_S (AA ad N) H0 H locs)
    (kk : ∀ (r : Int32) (σ1 : Sg) (H1 : Heap) (locs1 : List Loc), post r σ1 → va_P D vwCl (wl ad N (eg σ1)) H1 → va_S (AA ad N) H0 H1 locs1 → W p l e R s m args below meth c H1 locs1 cells slots Q (F0 m (pc + 3) ls (.int r :: rest))) : W p l e R s m args below meth c H locs cells slots Q (F0 m pc ls st0) :=
  va_calli hr hS (fun _ _ h => h) (fun _ h => h) (fun r u t H1 locs1 ht _ hp hB _ _ hS1 => kk r u H1 locs1 hp (by rw [← ht]; exact hB.1) hS1)
theorem xk_cl {post : Int64 → Sg → Prop} {a : Array Value} (hr : va_Run p l e R s m args below meth c H locs cells slots 0 0 (F0 m pc ls st0) rest (va_Ql post (WB D tys ad N eg X) (AA ad N) a) (AA ad N)) (hS : va_S (AA ad N) H0 H locs)
    (kk : ∀ (r : Int64) (σ1 : Sg) (H1 : Heap) (locs1 : List Loc), post r σ1 → va_P D vwCl (wl ad N (eg σ1)) H1 → va_S (AA ad N) H0 H1 locs1 → W p l e R s m args below meth c H1 locs1 cells slots Q (F0 m (pc + 3) ls (.long r :: rest))) : W p l e R s m args below meth c H locs cells slots Q (F0 m pc ls st0) :=
  va_calll hr hS (fun _ _ h => h) (fun _ h => h) (fun r u t H1 locs1 ht _ hp hB _ _ hS1 => kk r u H1 locs1 hp (by rw [← ht]; exact hB.1) hS1)
theorem xk_cv {post : Sg → Prop} {a : Array Value} (hr : va_Run p l e R s m args below meth c H locs cells slots 0 0 (F0 m pc ls st0) rest (va_Qv post (WB D tys ad N eg X) (AA ad N) a) (AA ad N)) (hS : va_S (AA ad N) H0 H locs)
    (kk : ∀ (σ1 : Sg) (H1 : Heap) (locs1 : List Loc), post σ1 → va_P D vwCl (wl ad N (eg σ1)) H1 → va_S (AA ad N) H0 H1 locs1 → W p l e R s m args below meth c H1 locs1 cells slots Q (F0 m (pc + 3) ls rest)) : W p l e R s m args below meth c H locs cells slots Q (F0 m pc ls st0) :=
  va_callv hr hS (fun _ _ h => h) (fun _ h => h) (fun u t H1 locs1 ht _ hp hB _ _ hS1 => kk u H1 locs1 hp (by rw [← ht]; exact hB.1) hS1)
theorem xk_cq {post : Option Nat → Sg → Prop} {a : Array Value} (hr : va_Run p l e R s m args below meth c H locs cells slots 0 0 (F0 m pc ls st0) rest (va_Qq post (WB D tys ad N eg X) (AA ad N) a) (AA ad N)) (hS : va_S (AA ad N) H0 H locs)
    (kk : ∀ (r : Option Nat) (σ1 : Sg) (H1 : Heap) (locs1 : List Loc), post r σ1 → va_P D vwCl (wl ad N (eg σ1)) H1 → va_S (AA ad N) H0 H1 locs1 → W p l e R s m args below meth c H1 locs1 cells slots Q (F0 m (pc + 3) ls (va_rf r :: rest))) : W p l e R s m args below meth c H locs cells slots Q (F0 m pc ls st0) :=
  va_callq hr hS (fun _ _ h => h) (fun _ h => h) (fun r u t H1 locs1 ht _ hp hB _ _ hS1 => kk r u H1 locs1 hp (by rw [← ht]; exact hB.1) hS1)
end KIT
