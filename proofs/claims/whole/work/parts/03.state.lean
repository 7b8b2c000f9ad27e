/-! The class: WellBack 0; Sheets 1..4, their cells 5..8; Things 9..13; Readings 14..21; Rotas 22..24, their drawers 25..27; Text 28, codes 29; Walk 30; the rows of sheets, things, readings 31, 32, 33. -/
def en1 (ad : Nat → Nat) (ca : Nat → ClassId) (σ : Sg) (k : Nat) : va_E :=
  if k = 0 then .inr (6, [.ref (ad 31), .ref (ad 32), .ref (ad 33), .ref (ad 22), .ref (ad 23), .ref (ad 24), .ref (ad 28), .ref (ad 30), .int (σ k 8), .int (σ k 9), .int (σ k 10), .int (σ k 11), .int (σ k 12)])
  else if k < 5 then .inr (2, [.ref (ad (k + 4)), .int (σ k 1), .int (σ k 2)])
  else if k < 9 then .inl (ca 0, 60, .inl (σ k))
  else if k < 14 then .inr (4, [.int (σ k 0), .int (σ k 1), .int (σ k 2), .int (σ k 3), .int (σ k 4)])
  else if k < 22 then .inr (0, [.int (σ k 0), .int (σ k 1), .int (σ k 2)])
  else if k < 25 then .inr (1, [.ref (ad (k + 3)), .int (σ k 1)])
  else if k < 28 then .inl (ca 0, 6, .inl (σ k))
  else if k = 28 then .inr (3, [.ref (ad 29), .int (σ k 1)])
  else if k = 29 then .inl (ca 0, 60, .inl (σ k))
  else if k = 30 then .inr (5, [.int (σ k 0), .int (σ k 1)])
  else if k = 31 then .inl (ca 1, 4, .inr (.inr (.inr (.inr (fun j => some (ad (1 + j)))))))
  else if k = 32 then .inl (ca 2, 5, .inr (.inr (.inr (.inr (fun j => some (ad (9 + j)))))))
  else .inl (ca 3, 8, .inr (.inr (.inr (.inr (fun j => some (ad (14 + j)))))))
section EN1
variable {ad : Nat → Nat} {ca : Nat → ClassId} {σ : Sg} {k : Nat}
theorem e1_loc : ∀ (τ τ' : Sg) (j : Nat), τ j = τ' j → en1 ad ca τ j = en1 ad ca τ' j := by
  intro τ τ' j h
  simp only [en1, h]
theorem e1_well : en1 ad ca σ 0 = .inr (6, [.ref (ad 31), .ref (ad 32), .ref (ad 33), .ref (ad 22), .ref (ad 23), .ref (ad 24), .ref (ad 28), .ref (ad 30), .int (σ 0 8), .int (σ 0 9), .int (σ 0 10), .int (σ 0 11), .int (σ 0 12)]) := rfl
theorem e1_sheet (h1 : 1 ≤ k) (h2 : k < 5) : en1 ad ca σ k = .inr (2, [.ref (ad (k + 4)), .int (σ k 1), .int (σ k 2)]) := by
  unfold en1
  rw [if_neg (by omega), if_pos h2]
theorem e1_cells (h1 : 5 ≤ k) (h2 : k < 9) : en1 ad ca σ k = .inl (ca 0, 60, .inl (σ k)) := by
  unfold en1
  rw [if_neg (by omega), if_neg (by omega), if_pos h2]
theorem e1_thing (h1 : 9 ≤ k) (h2 : k < 14) : en1 ad ca σ k = .inr (4, [.int (σ k 0), .int (σ k 1), .int (σ k 2), .int (σ k 3), .int (σ k 4)]) := by
  unfold en1
  rw [if_neg (by omega), if_neg (by omega), if_neg (by omega), if_pos h2]
theorem e1_read (h1 : 14 ≤ k) (h2 : k < 22) : en1 ad ca σ k = .inr (0, [.int (σ k 0), .int (σ k 1), .int (σ k 2)]) := by
  unfold en1
  rw [if_neg (by omega), if_neg (by omega), if_neg (by omega), if_neg (by omega), if_pos h2]
theorem e1_rota (h1 : 22 ≤ k) (h2 : k < 25) : en1 ad ca σ k = .inr (1, [.ref (ad (k + 3)), .int (σ k 1)]) := by
  unfold en1
  rw [if_neg (by omega), if_neg (by omega), if_neg (by omega), if_neg (by omega), if_neg (by omega), if_pos h2]
theorem e1_dr (h1 : 25 ≤ k) (h2 : k < 28) : en1 ad ca σ k = .inl (ca 0, 6, .inl (σ k)) := by
  unfold en1
  rw [if_neg (by omega), if_neg (by omega), if_neg (by omega), if_neg (by omega), if_neg (by omega), if_neg (by omega), if_pos h2]
theorem e1_text : en1 ad ca σ 28 = .inr (3, [.ref (ad 29), .int (σ 28 1)]) := rfl
theorem e1_codes : en1 ad ca σ 29 = .inl (ca 0, 60, .inl (σ 29)) := rfl
theorem e1_walk : en1 ad ca σ 30 = .inr (5, [.int (σ 30 0), .int (σ 30 1)]) := rfl
theorem e1_sheets : en1 ad ca σ 31 = .inl (ca 1, 4, .inr (.inr (.inr (.inr (fun j => some (ad (1 + j))))))) := rfl
theorem e1_things : en1 ad ca σ 32 = .inl (ca 2, 5, .inr (.inr (.inr (.inr (fun j => some (ad (9 + j))))))) := rfl
theorem e1_reads : en1 ad ca σ 33 = .inl (ca 3, 8, .inr (.inr (.inr (.inr (fun j => some (ad (14 + j))))))) := rfl
end EN1
abbrev tys1 (ca : Nat → ClassId) : List (ClassId × FieldType) := [(ca 0, .int), (ca 1, .object "WellBack$Sheet"), (ca 2, .object "WellBack$Thing"), (ca 3, .object "WellBack$Reading")]
def X1 (U : State) : Prop := va_Nw (.methodLinkNest RX2 44 yX6_within "WellBack") U ∧ va_Nw (.methodLinkNest RX3 28 yX6_within "WellBack") U
theorem X1_ok : Xok X1 := ⟨fun _ _ hW h => ⟨va_Nw.warmM hW h.1, va_Nw.warmM hW h.2⟩, fun U g mk a h => ⟨va_Nw.same (u := U) (U := U.calling g mk a) rfl rfl h.1, va_Nw.same (u := U) (U := U.calling g mk a) rfl rfl h.2⟩⟩
abbrev B1 (D : va_G) (ca : Nat → ClassId) (ad : Nat → Nat) : Sg → State → Prop := WB D (tys1 ca) ad 34 (en1 ad ca) X1
abbrev C1i (l : Launch) (D : va_G) (ca : Nat → ClassId) (ad : Nat → Nat) (y : MethodName) (ws : List Cond) (rm : Room) (av : List Value) (σ : Sg) (post : Int32 → Sg → Prop) : Prop := Met l y ws rm (va_Pc av (B1 D ca ad σ)) (va_Qi post (B1 D ca ad) (AA ad 34)) 0 0 (AA ad 34)
abbrev C1l (l : Launch) (D : va_G) (ca : Nat → ClassId) (ad : Nat → Nat) (y : MethodName) (ws : List Cond) (rm : Room) (av : List Value) (σ : Sg) (post : Int64 → Sg → Prop) : Prop := Met l y ws rm (va_Pc av (B1 D ca ad σ)) (va_Ql post (B1 D ca ad) (AA ad 34)) 0 0 (AA ad 34)
abbrev C1v (l : Launch) (D : va_G) (ca : Nat → ClassId) (ad : Nat → Nat) (y : MethodName) (ws : List Cond) (rm : Room) (av : List Value) (σ : Sg) (post : Sg → Prop) : Prop := Met l y ws rm (va_Pc av (B1 D ca ad σ)) (va_Qv post (B1 D ca ad) (AA ad 34)) 0 0 (AA ad 34)
abbrev C1q (l : Launch) (D : va_G) (ca : Nat → ClassId) (ad : Nat → Nat) (y : MethodName) (ws : List Cond) (rm : Room) (av : List Value) (σ : Sg) (post : Option Nat → Sg → Prop) : Prop := Met l y ws rm (va_Pc av (B1 D ca ad σ)) (va_Qq post (B1 D ca ad) (AA ad 34)) 0 0 (AA ad 34)
/-! The reference: WellBackModel 0; its rows 1 .. 17: sorts, sheetLong, cells, rota, kind, weight, owner, goal, hourOf, readRota, read, count, kept, found, readThing, readHour, readDrawer. -/
def ln2 (k : Nat) : Nat := if k < 3 then 4 else if k = 3 then 240 else if k = 4 then 6 else if k < 10 then 5 else if k = 10 then 6 else if k = 11 then 25 else if k = 12 then 5 else if k < 15 then 6 else 8
def en2 (ad : Nat → Nat) (ca : Nat → ClassId) (σ : Sg) (k : Nat) : va_E :=
  if k = 0 then .inr (7, [.int (σ k 0), .int (σ k 1), .ref (ad 1), .ref (ad 2), .ref (ad 3), .int (σ k 5), .int (σ k 6), .int (σ k 7), .ref (ad 4), .ref (ad 5), .ref (ad 6), .ref (ad 7), .ref (ad 8), .ref (ad 9), .int (σ k 14), .int (σ k 15), .int (σ k 16), .int (σ k 17), .ref (ad 10), .ref (ad 11), .int (σ k 20), .int (σ k 21), .int (σ k 22), .ref (ad 12), .ref (ad 13), .ref (ad 14), .int (σ k 26), .ref (ad 15), .ref (ad 16), .ref (ad 17)])
  else .inl (ca 0, ln2 k, .inl (σ k))
section EN2
variable {ad : Nat → Nat} {ca : Nat → ClassId} {σ : Sg} {k : Nat}
theorem e2_loc : ∀ (τ τ' : Sg) (j : Nat), τ j = τ' j → en2 ad ca τ j = en2 ad ca τ' j := by
  intro τ τ' j h
  simp only [en2, h]
theorem e2_obj : en2 ad ca σ 0 = .inr (7, [.int (σ 0 0), .int (σ 0 1), .ref (ad 1), .ref (ad 2), .ref (ad 3), .int (σ 0 5), .int (σ 0 6), .int (σ 0 7), .ref (ad 4), .ref (ad 5), .ref (ad 6), .ref (ad 7), .ref (ad 8), .ref (ad 9), .int (σ 0 14), .int (σ 0 15), .int (σ 0 16), .int (σ 0 17), .ref (ad 10), .ref (ad 11), .int (σ 0 20), .int (σ 0 21), .int (σ 0 22), .ref (ad 12), .ref (ad 13), .ref (ad 14), .int (σ 0 26), .ref (ad 15), .ref (ad 16), .ref (ad 17)]) := rfl
theorem e2_row (n : Nat) (h : k ≠ 0) (hn : ln2 k = n) : en2 ad ca σ k = .inl (ca 0, n, .inl (σ k)) := by
  unfold en2
  rw [if_neg h, hn]
end EN2
abbrev tys2 (ca : Nat → ClassId) : List (ClassId × FieldType) := [(ca 0, .int)]
def X2 (_ : State) : Prop := True
theorem X2_ok : Xok X2 := ⟨fun _ _ _ _ => trivial, fun _ _ _ _ _ => trivial⟩
abbrev B2 (D : va_G) (ca : Nat → ClassId) (ad : Nat → Nat) : Sg → State → Prop := WB D (tys2 ca) ad 18 (en2 ad ca) X2
abbrev C2i (l : Launch) (D : va_G) (ca : Nat → ClassId) (ad : Nat → Nat) (y : MethodName) (ws : List Cond) (rm : Room) (av : List Value) (σ : Sg) (post : Int32 → Sg → Prop) : Prop := Met l y ws rm (va_Pc av (B2 D ca ad σ)) (va_Qi post (B2 D ca ad) (AA ad 18)) 0 0 (AA ad 18)
abbrev C2l (l : Launch) (D : va_G) (ca : Nat → ClassId) (ad : Nat → Nat) (y : MethodName) (ws : List Cond) (rm : Room) (av : List Value) (σ : Sg) (post : Int64 → Sg → Prop) : Prop := Met l y ws rm (va_Pc av (B2 D ca ad σ)) (va_Ql post (B2 D ca ad) (AA ad 18)) 0 0 (AA ad 18)
abbrev C2v (l : Launch) (D : va_G) (ca : Nat → ClassId) (ad : Nat → Nat) (y : MethodName) (ws : List Cond) (rm : Room) (av : List Value) (σ : Sg) (post : Sg → Prop) : Prop := Met l y ws rm (va_Pc av (B2 D ca ad σ)) (va_Qv post (B2 D ca ad) (AA ad 18)) 0 0 (AA ad 18)
/-! a walk's goal, cut short -/
abbrev Wwi1 (p : Program) (l : Launch) (e : Env) (rm : Room) (s : State) (m : MethodId) (av : List Value) (below : List Frame) (meth : Method) (c : Code) (D : va_G) (ca : Nat → ClassId) (ad : Nat → Nat) (post : Int32 → Sg → Prop) (H : Heap) (locs : List Loc) (g : JFrame) : Prop := W p l e rm s m av.toArray below meth c H locs 0 0 (MQ below (va_Qi post (B1 D ca ad) (AA ad 34)) av.toArray s 0 0 (AA ad 34)) g
abbrev Wwl1 (p : Program) (l : Launch) (e : Env) (rm : Room) (s : State) (m : MethodId) (av : List Value) (below : List Frame) (meth : Method) (c : Code) (D : va_G) (ca : Nat → ClassId) (ad : Nat → Nat) (post : Int64 → Sg → Prop) (H : Heap) (locs : List Loc) (g : JFrame) : Prop := W p l e rm s m av.toArray below meth c H locs 0 0 (MQ below (va_Ql post (B1 D ca ad) (AA ad 34)) av.toArray s 0 0 (AA ad 34)) g
abbrev Wwv1 (p : Program) (l : Launch) (e : Env) (rm : Room) (s : State) (m : MethodId) (av : List Value) (below : List Frame) (meth : Method) (c : Code) (D : va_G) (ca : Nat → ClassId) (ad : Nat → Nat) (post : Sg → Prop) (H : Heap) (locs : List Loc) (g : JFrame) : Prop := W p l e rm s m av.toArray below meth c H locs 0 0 (MQ below (va_Qv post (B1 D ca ad) (AA ad 34)) av.toArray s 0 0 (AA ad 34)) g
abbrev Wwi2 (p : Program) (l : Launch) (e : Env) (rm : Room) (s : State) (m : MethodId) (av : List Value) (below : List Frame) (meth : Method) (c : Code) (D : va_G) (ca : Nat → ClassId) (ad : Nat → Nat) (post : Int32 → Sg → Prop) (H : Heap) (locs : List Loc) (g : JFrame) : Prop := W p l e rm s m av.toArray below meth c H locs 0 0 (MQ below (va_Qi post (B2 D ca ad) (AA ad 18)) av.toArray s 0 0 (AA ad 18)) g
abbrev Wwl2 (p : Program) (l : Launch) (e : Env) (rm : Room) (s : State) (m : MethodId) (av : List Value) (below : List Frame) (meth : Method) (c : Code) (D : va_G) (ca : Nat → ClassId) (ad : Nat → Nat) (post : Int64 → Sg → Prop) (H : Heap) (locs : List Loc) (g : JFrame) : Prop := W p l e rm s m av.toArray below meth c H locs 0 0 (MQ below (va_Ql post (B2 D ca ad) (AA ad 18)) av.toArray s 0 0 (AA ad 18)) g
abbrev Wwv2 (p : Program) (l : Launch) (e : Env) (rm : Room) (s : State) (m : MethodId) (av : List Value) (below : List Frame) (meth : Method) (c : Code) (D : va_G) (ca : Nat → ClassId) (ad : Nat → Nat) (post : Sg → Prop) (H : Heap) (locs : List Loc) (g : JFrame) : Prop := W p l e rm s m av.toArray below meth c H locs 0 0 (MQ below (va_Qv post (B2 D ca ad) (AA ad 18)) av.toArray s 0 0 (AA ad 18)) g
