/-! readings, measures, telling, a new well -/
theorem up_up {σ : Sg} {a b : Nat} {v w : Int32} : up (up σ a b v) a b w = up σ a b w := by
  funext i j
  simp only [up]
  split <;> rfl
def sth (th : Nat → Nat → Nat) (xa : Int32) (kk ww : Nat) : Nat → Nat → Nat := fun y f => if xa = nI y then (if f = 0 then kk else if f = 1 then ww else th y f) else th y f
abbrev so1 (p : Nat) (d : Nat → Nat) (u : Nat) (th rd : Nat → Nat → Nat) (k : Nat) : Prop := oth p d (th (rd k 0) 2) (rd k 1) (dl u th (rd k 0)) = dz (rd k 2)
abbrev areSo (p : Nat) (d : Nat → Nat) (u : Nat) (th : Nat → Nat → Nat) (rn : Nat) (rd : Nat → Nat → Nat) : Prop := ∀ k, k < rn → so1 p d u th rd k
theorem sth_2 {th : Nat → Nat → Nat} {xa : Int32} {kk ww y : Nat} : sth th xa kk ww y 2 = th y 2 := by
  simp only [sth]
  split <;> rfl
theorem sth_t {th : Nat → Nat → Nat} {xa : Int32} {kk ww y u : Nat} (h : nI y = xa) : dly kk u ww = dl u (sth th xa kk ww) y := by
  simp only [dl, sth, if_pos h.symm]
  rfl
theorem sth_f {th : Nat → Nat → Nat} {xa : Int32} {kk ww y u : Nat} (h : ¬ nI y = xa) : dly (th y 0) u (th y 1) = dl u (sth th xa kk ww) y := by
  simp only [dl, sth, if_neg (fun q => h (Eq.symm q))]
theorem ThingsAt_0 {σ : Sg} {n g j : Nat} {th : Nat → Nat → Nat} {v : Int32} (h : ThingsAt σ n g th) (hj : 10 ≤ j) : ThingsAt (up σ 0 j v) n g th := by
  obtain ⟨h1, h2, h3, h4, h5⟩ := h
  refine ⟨(up_n (by omega)).trans h1, (up_n (by omega)).trans h2, h3, h4, fun x hx => ⟨fun f hf => (up_n (by omega)).trans ((h5 x hx).1 f hf), (h5 x hx).2⟩⟩

set_option maxRecDepth 20000 in
theorem flX6_readingsAreSo_32 {s : State} {av : Array Value} (hts : ∀ w ∈ wsX6_readingsAreSo, w.before av s = true) : (Cond.fieldLink RX6 32 "WellBack" "rota" "LWellBack$Rota;").before av s = true := hts _ (by decide +kernel)
set_option maxRecDepth 20000 in
theorem flX6_readingsAreSo_97 {s : State} {av : Array Value} (hts : ∀ w ∈ wsX6_readingsAreSo, w.before av s = true) : (Cond.fieldLink RX6 97 "WellBack$Thing" "kind" "I").before av s = true := hts _ (by decide +kernel)
set_option maxRecDepth 20000 in
theorem flX6_readingsAreSo_100 {s : State} {av : Array Value} (hts : ∀ w ∈ wsX6_readingsAreSo, w.before av s = true) : (Cond.fieldLink RX6 100 "WellBack$Thing" "weight" "I").before av s = true := hts _ (by decide +kernel)
set_option maxRecDepth 20000 in
theorem flX6_readingsAreSo_103 {s : State} {av : Array Value} (hts : ∀ w ∈ wsX6_readingsAreSo, w.before av s = true) : (Cond.fieldLink RX6 103 "WellBack$Thing" "owner" "I").before av s = true := hts _ (by decide +kernel)
set_option maxRecDepth 20000 in
theorem flX6_readingsAreSo_181 {s : State} {av : Array Value} (hts : ∀ w ∈ wsX6_readingsAreSo, w.before av s = true) : (Cond.fieldLink RX6 181 "WellBack" "readingCount" "I").before av s = true := hts _ (by decide +kernel)
set_option maxRecDepth 20000 in
theorem flX6_readingsAreSo_188 {s : State} {av : Array Value} (hts : ∀ w ∈ wsX6_readingsAreSo, w.before av s = true) : (Cond.fieldLink RX6 188 "WellBack$Reading" "x" "I").before av s = true := hts _ (by decide +kernel)
set_option maxRecDepth 20000 in
theorem flX6_readingsAreSo_191 {s : State} {av : Array Value} (hts : ∀ w ∈ wsX6_readingsAreSo, w.before av s = true) : (Cond.fieldLink RX6 191 "WellBack$Reading" "hour" "I").before av s = true := hts _ (by decide +kernel)
set_option maxRecDepth 20000 in
theorem flX6_readingsAreSo_192 {s : State} {av : Array Value} (hts : ∀ w ∈ wsX6_readingsAreSo, w.before av s = true) : (Cond.fieldLink RX6 192 "WellBack$Reading" "drawer" "I").before av s = true := hts _ (by decide +kernel)
set_option maxRecDepth 20000 in
theorem inX6_readingsAreSo_X0 : ∀ w ∈ u_ws RX0 TX0 3, w ∈ wsX6_readingsAreSo := by decide +kernel
set_option maxRecDepth 20000 in
theorem inX6_readingsAreSo_X4 : ∀ w ∈ u_ws RX4 TX4 5, w ∈ wsX6_readingsAreSo := by decide +kernel
set_option maxRecDepth 20000 in
theorem inX6_readingsAreSo_X6 : ∀ w ∈ u_ws RX6 TX6 13, w ∈ wsX6_readingsAreSo := by decide +kernel
set_option maxHeartbeats 4000000 in
set_option maxRecDepth 100000 in
theorem k1_areSo (l : Launch) {D : va_G} {ca : Nat → ClassId} {ad : Nat → Nat} (hI : Ij ad 34) {σ : Sg} {n g : Nat} {th : Nat → Nat → Nat} {rn : Nat} {rd : Nat → Nat → Nat} {u kk ww : Nat} {xa : Int32} {p : Nat} {d : Nat → Nat} (hT : ThingsAt σ n g th) (hRd : ReadsAt σ rn n rd) (hu : u ≤ 9) (hkk : kk < 3) (hww : ww ≤ 9) (hR : RotaAt σ 22 p d) (hp0 : 0 < p) : C1i l D ca ad yX6_readingsAreSo wsX6_readingsAreSo { frames := 3, cells := 0, slots := 0, locals := 69 } [.ref (ad 0), .int (nI u), .int xa, .int (nI kk), .int (nI ww)] σ (xFn (bz (areSo p d u (sth th xa kk ww) rn rd)) σ) := by
  refine xk_entry cX6_readingsAreSo 9 (some .boolean) (by decide) rfl (Nat.le_of_ble_eq_true rfl) ?_
  intro pP eE sS mM below meth cC hx hb hml hr hts hown hlk hP hK hX hS ls hl
  have hl : lv_has ls 9 [(0, .ref (ad 0)), (1, .int (nI u)), (2, .int xa), (3, .int (nI kk)), (4, .int (nI ww))] := hl
  have hn5 := hT.2.2.1
  have hg9 := hT.2.2.2.1
  have hrn8 := hRd.2.1
  have hp6 := hR.2.1
  refine lv_iconst (v := nI 0) hx hb dX6_readingsAreSo_0 (by decide) ?_
  refine lv_istore (lv' := [(5, .int (nI 0)), (0, .ref (ad 0)), (1, .int (nI u)), (2, .int xa), (3, .int (nI kk)), (4, .int (nI ww))]) hx hb dX6_readingsAreSo_1 hl (by decide) rfl (fun ls hl => ?_)
  have LP_3 : ∀ (n_3 : Nat) (k : Nat), (k ≤ rn) → (∀ j, j < k → so1 p d u (sth th xa kk ww) rd j) → (rn - k) < n_3 → ∀ (H : Heap) (locs : List Loc) (ls : Array Slot), va_P D vwCl (wl ad 34 (en1 ad ca σ)) H → va_S (AA ad 34) sS.heap H locs → lv_has ls 9 [(0, .ref (ad 0)), (1, .int (nI u)), (2, .int xa), (3, .int (nI kk)), (4, .int (nI ww)), (5, .int (nI k))] → Wwi1 pP l eE { frames := 3, cells := 0, slots := 0, locals := 69 } sS mM [.ref (ad 0), .int (nI u), .int xa, .int (nI kk), .int (nI ww)] below meth cC D ca ad (xFn (bz (areSo p d u (sth th xa kk ww) rn rd)) σ) H locs (F0 mM 3 ls []) := by
    intro n_3
    induction n_3 with
    | zero =>
      intro k hk0 hso hn_3
      exact absurd hn_3 (Nat.not_lt_zero _)
    | succ n_3 ih_3 =>
      intro k hk0 hso hn_3 H locs ls hP hS hl
      refine lv_iload hx hb dX6_readingsAreSo_3 (lv_at hl 5 rfl) ?_
      refine lv_aload_n hx hb dX6_readingsAreSo_5 rfl (lv_at hl 0 rfl) ?_
      refine xk_get hx hb hts (inX6_readingsAreSo_X6) hown hK hP 0 (by omega) (ci := 6) e1_well rfl 10 (by decide) (flX6_readingsAreSo_181 hts) rfl (.int (σ 0 10)) rfl dX6_readingsAreSo_6 ?_
      refine xn_eqi (y := nI rn) hRd.1 ?_
      refine xn_ige (tgt := 115) hx hb dX6_readingsAreSo_9 (by decide) (by omega) (by omega) (fun c_9 => ?_) (fun c_9 => ?_)
      · refine lv_iconst (v := nI 1) hx hb dX6_readingsAreSo_115 (by decide) ?_
        exact xk_iret hx hb hr rfl X1_ok hK hX hP hS hlk dX6_readingsAreSo_116 (⟨(bz_t (fun j hj => hso j (by omega))).symm, rfl⟩)
      · obtain ⟨hr0, hr1, hr2, hr3, hr4, hr5⟩ := hRd.2.2 k c_9
        have hX0 := hT.2.2.2.2 (rd k 0) hr3
        obtain ⟨ho0, ho1, ho2, ho3, ho4⟩ := hX0.2
        have hs2 : sth th xa kk ww (rd k 0) 2 = th (rd k 0) 2 := sth_2
        refine lv_aload_n hx hb dX6_readingsAreSo_12 rfl (lv_at hl 0 rfl) ?_
        refine lv_iload hx hb dX6_readingsAreSo_13 (lv_at hl 5 rfl) ?_
        refine xk_fa (va_runV (As := [.int (nI k)]) (rest := []) ⟨hx, hb, hml, hown, hts⟩ (k1_readingAt_in l hI (x := k) (by omega)) (cwV 1 hts gX6_readingsAreSo_X6_readingAt rfl rfl rfl (by decide +kernel) ⟨Nat.le_of_ble_eq_true rfl, Nat.le_of_ble_eq_true rfl⟩) (xk_preV X1_ok hK hX hP (xk_recv hK hP 0 (by omega) (ci := 6) e1_well rfl)) rfl rfl hl.1 rfl (lv_room (Nat.le_of_ble_eq_true rfl)) dX6_readingsAreSo_15 ⟨Nat.le_of_ble_eq_true rfl, Nat.le_of_ble_eq_true rfl⟩) hS (fun H locs hP hS => ?_)
        refine lv_astore (lv' := [(6, .ref (ad (14 + k))), (0, .ref (ad 0)), (1, .int (nI u)), (2, .int xa), (3, .int (nI kk)), (4, .int (nI ww)), (5, .int (nI k))]) hx hb dX6_readingsAreSo_18 hl (by decide) rfl (fun ls hl => ?_)
        refine lv_aload hx hb dX6_readingsAreSo_20 (lv_at hl 0 rfl) ?_
        refine lv_ifnonnull (tgt := 29) hx hb dX6_readingsAreSo_22 (by decide) ?_
        refine lv_aload_n hx hb dX6_readingsAreSo_29 rfl (lv_at hl 1 rfl) ?_
        refine lv_aload hx hb dX6_readingsAreSo_30 (lv_at hl 0 rfl) ?_
        refine xk_get hx hb hts (inX6_readingsAreSo_X0) hown hK hP (14 + k) (by omega) (ci := 0) (e1_read (by omega) (by omega)) rfl 0 (by decide) (flX6_readingsAreSo_188 hts) rfl (.int (σ (14 + k) 0)) rfl dX6_readingsAreSo_32 ?_
        refine xn_eqi (y := nI (rd k 0)) hr0 ?_
        refine xk_fa (va_runV (As := [.int (nI (rd k 0))]) (rest := []) ⟨hx, hb, hml, hown, hts⟩ (k1_thingAt_in l hI (x := rd k 0) hT.2.1 hn5 (by omega)) (cwV 1 hts gX6_readingsAreSo_X6_thingAt rfl rfl rfl (by decide +kernel) ⟨Nat.le_of_ble_eq_true rfl, Nat.le_of_ble_eq_true rfl⟩) (xk_preV X1_ok hK hX hP (xk_recv hK hP 0 (by omega) (ci := 6) e1_well rfl)) rfl rfl hl.1 rfl (lv_room (Nat.le_of_ble_eq_true rfl)) dX6_readingsAreSo_35 ⟨Nat.le_of_ble_eq_true rfl, Nat.le_of_ble_eq_true rfl⟩) hS (fun H locs hP hS => ?_)
        refine lv_astore (lv' := [(7, .ref (ad (9 + (rd k 0)))), (6, .ref (ad (14 + k))), (0, .ref (ad 0)), (1, .int (nI u)), (2, .int xa), (3, .int (nI kk)), (4, .int (nI ww)), (5, .int (nI k))]) hx hb dX6_readingsAreSo_38 hl (by decide) rfl (fun ls hl => ?_)
        refine lv_aload hx hb dX6_readingsAreSo_40 (lv_at hl 0 rfl) ?_
        refine lv_ifnull hx hb dX6_readingsAreSo_42 ?_
        refine lv_aload hx hb dX6_readingsAreSo_45 (lv_at hl 1 rfl) ?_
        refine xk_get hx hb hts (inX6_readingsAreSo_X0) hown hK hP (14 + k) (by omega) (ci := 0) (e1_read (by omega) (by omega)) rfl 0 (by decide) (flX6_readingsAreSo_188 hts) rfl (.int (σ (14 + k) 0)) rfl dX6_readingsAreSo_47 ?_
        refine xn_eqi (y := nI (rd k 0)) hr0 ?_
        refine lv_iload_n hx hb dX6_readingsAreSo_50 rfl (lv_at hl 4 rfl) ?_
        refine lv_icmp_ne (tgt := 64) hx hb dX6_readingsAreSo_51 (by decide) (fun c_51 => ?_) (fun c_51 => ?_)
        · refine lv_aload hx hb dX6_readingsAreSo_64 (lv_at hl 0 rfl) ?_
          refine xk_get hx hb hts (inX6_readingsAreSo_X4) hown hK hP (9 + (rd k 0)) (by omega) (ci := 4) (e1_thing (by omega) (by omega)) rfl 0 (by decide) (flX6_readingsAreSo_97 hts) rfl (.int (σ (9 + (rd k 0)) 0)) rfl dX6_readingsAreSo_66 ?_
          refine xn_eqi (y := nI (th (rd k 0) 0)) (hX0.1 0 (by omega)) ?_
          refine lv_iload_n hx hb dX6_readingsAreSo_69 rfl (lv_at hl 3 rfl) ?_
          refine lv_aload hx hb dX6_readingsAreSo_70 (lv_at hl 0 rfl) ?_
          refine xk_get hx hb hts (inX6_readingsAreSo_X4) hown hK hP (9 + (rd k 0)) (by omega) (ci := 4) (e1_thing (by omega) (by omega)) rfl 1 (by decide) (flX6_readingsAreSo_100 hts) rfl (.int (σ (9 + (rd k 0)) 1)) rfl dX6_readingsAreSo_72 ?_
          refine xn_eqi (y := nI (th (rd k 0) 1)) (hX0.1 1 (by omega)) ?_
          refine xk_fi (va_runS (As := [.int (nI (th (rd k 0) 0)), .int (nI u), .int (nI (th (rd k 0) 1))]) (rest := []) ⟨hx, hb, hml, hown, hts⟩ (k1_delayBy l hI (k := th (rd k 0) 0) (g := u) (w := th (rd k 0) 1) (by omega) (by omega) (by omega)) (va_cwS 3 hts gX6_readingsAreSo_X6_delayBy rfl rfl rfl (by decide +kernel) ⟨Nat.le_of_ble_eq_true rfl, Nat.le_of_ble_eq_true rfl⟩) (xk_preS X1_ok hK hX hP) rfl rfl hl.1 rfl (lv_room (Nat.le_of_ble_eq_true rfl)) dX6_readingsAreSo_75 ⟨Nat.le_of_ble_eq_true rfl, Nat.le_of_ble_eq_true rfl⟩) hS (fun H locs hP hS => ?_)
          refine lv_istore (lv' := [(8, .int (nI (dly (th (rd k 0) 0) u (th (rd k 0) 1)))), (7, .ref (ad (9 + (rd k 0)))), (6, .ref (ad (14 + k))), (0, .ref (ad 0)), (1, .int (nI u)), (2, .int xa), (3, .int (nI kk)), (4, .int (nI ww)), (5, .int (nI k))]) hx hb dX6_readingsAreSo_78 hl (by decide) rfl (fun ls hl => ?_)
          rw [sth_f (kk := kk) (ww := ww) (u := u) c_51] at hl
          have hd8 : dl u (sth th xa kk ww) (rd k 0) ≤ 36 := by rw [← sth_f c_51]; exact dly_le (by omega) (by omega)
          refine lv_aload_n hx hb dX6_readingsAreSo_80 rfl (lv_at hl 3 rfl) ?_
          refine xk_get hx hb hts (inX6_readingsAreSo_X6) hown hK hP 0 (by omega) (ci := 6) e1_well rfl 3 (by decide) (flX6_readingsAreSo_32 hts) rfl (.ref (ad 22)) rfl dX6_readingsAreSo_81 ?_
          refine lv_aload hx hb dX6_readingsAreSo_84 (lv_at hl 1 rfl) ?_
          refine xk_get hx hb hts (inX6_readingsAreSo_X4) hown hK hP (9 + (rd k 0)) (by omega) (ci := 4) (e1_thing (by omega) (by omega)) rfl 2 (by decide) (flX6_readingsAreSo_103 hts) rfl (.int (σ (9 + (rd k 0)) 2)) rfl dX6_readingsAreSo_86 ?_
          refine xn_eqi (y := nI (sth th xa kk ww (rd k 0) 2)) ((hX0.1 2 (by omega)).trans (by rw [sth_2])) ?_
          refine lv_aload hx hb dX6_readingsAreSo_89 (lv_at hl 2 rfl) ?_
          refine xk_get hx hb hts (inX6_readingsAreSo_X0) hown hK hP (14 + k) (by omega) (ci := 0) (e1_read (by omega) (by omega)) rfl 1 (by decide) (flX6_readingsAreSo_191 hts) rfl (.int (σ (14 + k) 1)) rfl dX6_readingsAreSo_91 ?_
          refine xn_eqi (y := nI (rd k 1)) hr1 ?_
          refine lv_iload hx hb dX6_readingsAreSo_94 (lv_at hl 0 rfl) ?_
          refine xk_fi (va_runV (As := [.int (nI (sth th xa kk ww (rd k 0) 2)), .int (nI (rd k 1)), .int (nI (dl u (sth th xa kk ww) (rd k 0)))]) (rest := []) ⟨hx, hb, hml, hown, hts⟩ (k1_other l hI (q := 22) (d := d) (e := sth th xa kk ww (rd k 0) 2) (h := rd k 1) (y := dl u (sth th xa kk ww) (rd k 0)) (by omega) (by omega) hR (by omega) (by omega) (by omega)) (cwV 3 hts gX6_readingsAreSo_X1_otherDrawer rfl rfl rfl (by decide +kernel) ⟨Nat.le_of_ble_eq_true rfl, Nat.le_of_ble_eq_true rfl⟩) (xk_preV X1_ok hK hX hP (xk_recv hK hP 22 (by omega) (ci := 1) (e1_rota (by omega) (by omega)) rfl)) rfl rfl hl.1 rfl (lv_room (Nat.le_of_ble_eq_true rfl)) dX6_readingsAreSo_96 ⟨Nat.le_of_ble_eq_true rfl, Nat.le_of_ble_eq_true rfl⟩) hS (fun H locs hP hS => ?_)
          refine lv_aload hx hb dX6_readingsAreSo_99 (lv_at hl 2 rfl) ?_
          refine xk_get hx hb hts (inX6_readingsAreSo_X0) hown hK hP (14 + k) (by omega) (ci := 0) (e1_read (by omega) (by omega)) rfl 2 (by decide) (flX6_readingsAreSo_192 hts) rfl (.int (σ (14 + k) 2)) rfl dX6_readingsAreSo_101 ?_
          refine xn_eqi (y := dz (rd k 2)) hr2 ?_
          refine lv_icmp_eq (tgt := 109) hx hb dX6_readingsAreSo_104 (by decide) (fun c_104 => ?_) (fun c_104 => ?_)
          · refine lv_iinc (v := nI (k + 1)) (lv' := [(5, .int (nI (k + 1))), (8, .int (nI (dl u (sth th xa kk ww) (rd k 0)))), (7, .ref (ad (9 + (rd k 0)))), (6, .ref (ad (14 + k))), (0, .ref (ad 0)), (1, .int (nI u)), (2, .int xa), (3, .int (nI kk)), (4, .int (nI ww))]) hx hb dX6_readingsAreSo_109 hl (k := 8) rfl (xn_inc _ 1) (by decide) rfl (fun ls hl => ?_)
            refine lv_goto (tgt := 3) hx hb dX6_readingsAreSo_112 (by decide) ?_
            exact ih_3 (k + 1) (by omega) (fun j hj => by
            by_cases hjk : j = k
            · rw [hjk]; exact c_104
            · exact hso j (by omega)) (by omega) _ _ _ hP hS (lv_sub hl [4, 5, 6, 7, 8, 0] rfl)
          · refine lv_iconst (v := nI 0) hx hb dX6_readingsAreSo_107 (by decide) ?_
            exact xk_iret hx hb hr rfl X1_ok hK hX hP hS hlk dX6_readingsAreSo_108 (⟨(bz_f (fun z => c_104 (z k c_9))).symm, rfl⟩)
        · refine lv_iload_n hx hb dX6_readingsAreSo_54 rfl (lv_at hl 5 rfl) ?_
          refine lv_iload_n hx hb dX6_readingsAreSo_55 rfl (lv_at hl 3 rfl) ?_
          refine lv_iload hx hb dX6_readingsAreSo_56 (lv_at hl 6 rfl) ?_
          refine xk_fi (va_runS (As := [.int (nI kk), .int (nI u), .int (nI ww)]) (rest := []) ⟨hx, hb, hml, hown, hts⟩ (k1_delayBy l hI (k := kk) (g := u) (w := ww) (by omega) (by omega) (by omega)) (va_cwS 3 hts gX6_readingsAreSo_X6_delayBy rfl rfl rfl (by decide +kernel) ⟨Nat.le_of_ble_eq_true rfl, Nat.le_of_ble_eq_true rfl⟩) (xk_preS X1_ok hK hX hP) rfl rfl hl.1 rfl (lv_room (Nat.le_of_ble_eq_true rfl)) dX6_readingsAreSo_58 ⟨Nat.le_of_ble_eq_true rfl, Nat.le_of_ble_eq_true rfl⟩) hS (fun H locs hP hS => ?_)
          refine lv_goto (tgt := 78) hx hb dX6_readingsAreSo_61 (by decide) ?_
          refine lv_istore (lv' := [(8, .int (nI (dly kk u ww))), (7, .ref (ad (9 + (rd k 0)))), (6, .ref (ad (14 + k))), (0, .ref (ad 0)), (1, .int (nI u)), (2, .int xa), (3, .int (nI kk)), (4, .int (nI ww)), (5, .int (nI k))]) hx hb dX6_readingsAreSo_78 hl (by decide) rfl (fun ls hl => ?_)
          rw [sth_t (th := th) (kk := kk) (ww := ww) (u := u) c_51] at hl
          have hd8 : dl u (sth th xa kk ww) (rd k 0) ≤ 36 := by rw [← sth_t c_51]; exact dly_le (by omega) (by omega)
          refine lv_aload_n hx hb dX6_readingsAreSo_80 rfl (lv_at hl 3 rfl) ?_
          refine xk_get hx hb hts (inX6_readingsAreSo_X6) hown hK hP 0 (by omega) (ci := 6) e1_well rfl 3 (by decide) (flX6_readingsAreSo_32 hts) rfl (.ref (ad 22)) rfl dX6_readingsAreSo_81 ?_
          refine lv_aload hx hb dX6_readingsAreSo_84 (lv_at hl 1 rfl) ?_
          refine xk_get hx hb hts (inX6_readingsAreSo_X4) hown hK hP (9 + (rd k 0)) (by omega) (ci := 4) (e1_thing (by omega) (by omega)) rfl 2 (by decide) (flX6_readingsAreSo_103 hts) rfl (.int (σ (9 + (rd k 0)) 2)) rfl dX6_readingsAreSo_86 ?_
          refine xn_eqi (y := nI (sth th xa kk ww (rd k 0) 2)) ((hX0.1 2 (by omega)).trans (by rw [sth_2])) ?_
          refine lv_aload hx hb dX6_readingsAreSo_89 (lv_at hl 2 rfl) ?_
          refine xk_get hx hb hts (inX6_readingsAreSo_X0) hown hK hP (14 + k) (by omega) (ci := 0) (e1_read (by omega) (by omega)) rfl 1 (by decide) (flX6_readingsAreSo_191 hts) rfl (.int (σ (14 + k) 1)) rfl dX6_readingsAreSo_91 ?_
          refine xn_eqi (y := nI (rd k 1)) hr1 ?_
          refine lv_iload hx hb dX6_readingsAreSo_94 (lv_at hl 0 rfl) ?_
          refine xk_fi (va_runV (As := [.int (nI (sth th xa kk ww (rd k 0) 2)), .int (nI (rd k 1)), .int (nI (dl u (sth th xa kk ww) (rd k 0)))]) (rest := []) ⟨hx, hb, hml, hown, hts⟩ (k1_other l hI (q := 22) (d := d) (e := sth th xa kk ww (rd k 0) 2) (h := rd k 1) (y := dl u (sth th xa kk ww) (rd k 0)) (by omega) (by omega) hR (by omega) (by omega) (by omega)) (cwV 3 hts gX6_readingsAreSo_X1_otherDrawer rfl rfl rfl (by decide +kernel) ⟨Nat.le_of_ble_eq_true rfl, Nat.le_of_ble_eq_true rfl⟩) (xk_preV X1_ok hK hX hP (xk_recv hK hP 22 (by omega) (ci := 1) (e1_rota (by omega) (by omega)) rfl)) rfl rfl hl.1 rfl (lv_room (Nat.le_of_ble_eq_true rfl)) dX6_readingsAreSo_96 ⟨Nat.le_of_ble_eq_true rfl, Nat.le_of_ble_eq_true rfl⟩) hS (fun H locs hP hS => ?_)
          refine lv_aload hx hb dX6_readingsAreSo_99 (lv_at hl 2 rfl) ?_
          refine xk_get hx hb hts (inX6_readingsAreSo_X0) hown hK hP (14 + k) (by omega) (ci := 0) (e1_read (by omega) (by omega)) rfl 2 (by decide) (flX6_readingsAreSo_192 hts) rfl (.int (σ (14 + k) 2)) rfl dX6_readingsAreSo_101 ?_
          refine xn_eqi (y := dz (rd k 2)) hr2 ?_
          refine lv_icmp_eq (tgt := 109) hx hb dX6_readingsAreSo_104 (by decide) (fun c_104 => ?_) (fun c_104 => ?_)
          · refine lv_iinc (v := nI (k + 1)) (lv' := [(5, .int (nI (k + 1))), (8, .int (nI (dl u (sth th xa kk ww) (rd k 0)))), (7, .ref (ad (9 + (rd k 0)))), (6, .ref (ad (14 + k))), (0, .ref (ad 0)), (1, .int (nI u)), (2, .int xa), (3, .int (nI kk)), (4, .int (nI ww))]) hx hb dX6_readingsAreSo_109 hl (k := 8) rfl (xn_inc _ 1) (by decide) rfl (fun ls hl => ?_)
            refine lv_goto (tgt := 3) hx hb dX6_readingsAreSo_112 (by decide) ?_
            exact ih_3 (k + 1) (by omega) (fun j hj => by
            by_cases hjk : j = k
            · rw [hjk]; exact c_104
            · exact hso j (by omega)) (by omega) _ _ _ hP hS (lv_sub hl [4, 5, 6, 7, 8, 0] rfl)
          · refine lv_iconst (v := nI 0) hx hb dX6_readingsAreSo_107 (by decide) ?_
            exact xk_iret hx hb hr rfl X1_ok hK hX hP hS hlk dX6_readingsAreSo_108 (⟨(bz_f (fun z => c_104 (z k c_9))).symm, rfl⟩)
  exact LP_3 _ 0 (by omega) (fun j hj => absurd hj (Nat.not_lt_zero _)) (Nat.lt_succ_self _) _ _ _ hP hS (lv_sub hl [1, 2, 3, 4, 5, 0] rfl)

def cmF (a : Nat) : Nat → Nat
  | 0 => 1
  | m + 1 => if m + 1 ≤ 1 then 1 else if a % (m + 1) = 0 ∧ 12 % (m + 1) = 0 then m + 1 else cmF a m
theorem cmF_gcd : ∀ a, a ≤ 12 → cmF a 12 = Nat.gcd a 12 := by decide +kernel
theorem cmF_dvd : ∀ a, a ≤ 12 → 0 < cmF a 12 ∧ cmF a 12 ≤ 12 := by decide +kernel

set_option maxHeartbeats 4000000 in
set_option maxRecDepth 100000 in
theorem k1_cm (l : Launch) {D : va_G} {ca : Nat → ClassId} {ad : Nat → Nat} (hI : Ij ad 34) {σ : Sg} {a : Nat} (ha : a ≤ 12) : C1i l D ca ad yX6_commonMeasure wsX6_commonMeasure { frames := 0, cells := 0, slots := 0, locals := 0 } [.int (nI a), .int (nI 12)] σ (xFn (nI (cmF a 12)) σ) := by
  refine xk_entry cX6_commonMeasure 3 (some .int) (by decide) rfl (Nat.le_of_ble_eq_true rfl) ?_
  intro pP eE sS mM below meth cC hx hb hml hr hts hown hlk hP hK hX hS ls hl
  have hl : lv_has ls 3 [(0, .int (nI a)), (1, .int (nI 12))] := hl
  refine lv_iload_n hx hb dX6_commonMeasure_0 rfl (lv_at hl 1 rfl) ?_
  refine lv_istore_n (lv' := [(2, .int (nI 12)), (0, .int (nI a)), (1, .int (nI 12))]) hx hb dX6_commonMeasure_1 rfl hl (by decide) rfl (fun ls hl => ?_)
  have LP_2 : ∀ (n_2 : Nat) (m : Nat), (m ≤ 12) → (cmF a m = cmF a 12) → m < n_2 → ∀ (H : Heap) (locs : List Loc) (ls : Array Slot), va_P D vwCl (wl ad 34 (en1 ad ca σ)) H → va_S (AA ad 34) sS.heap H locs → lv_has ls 3 [(0, .int (nI a)), (1, .int (nI 12)), (2, .int (nI m))] → Wwi1 pP l eE { frames := 0, cells := 0, slots := 0, locals := 0 } sS mM [.int (nI a), .int (nI 12)] below meth cC D ca ad (xFn (nI (cmF a 12)) σ) H locs (F0 mM 2 ls []) := by
    intro n_2
    induction n_2 with
    | zero =>
      intro m hm hv hn_2
      exact absurd hn_2 (Nat.not_lt_zero _)
    | succ n_2 ih_2 =>
      intro m hm hv hn_2 H locs ls hP hS hl
      refine lv_iload_n hx hb dX6_commonMeasure_2 rfl (lv_at hl 2 rfl) ?_
      refine lv_iconst (v := nI 1) hx hb dX6_commonMeasure_3 (by decide) ?_
      refine xn_ile (tgt := 27) hx hb dX6_commonMeasure_4 (by decide) (by omega) (by omega) (fun c_4 => ?_) (fun c_4 => ?_)
      · refine lv_iconst (v := nI 1) hx hb dX6_commonMeasure_27 (by decide) ?_
        exact xk_iret hx hb hr (vp_nar_int _) X1_ok hK hX hP hS hlk dX6_commonMeasure_28 (⟨by rw [← hv]; rcases (show m = 0 ∨ m = 1 by omega) with h | h <;> subst h <;> rfl, rfl⟩)
      · have hma := Nat.mod_lt a (show 0 < m by omega)
        have hmb := Nat.mod_lt 12 (show 0 < m by omega)
        refine lv_iload_n hx hb dX6_commonMeasure_7 rfl (lv_at hl 0 rfl) ?_
        refine lv_iload_n hx hb dX6_commonMeasure_8 rfl (lv_at hl 2 rfl) ?_
        refine xn_irem hx hb (by omega) (by omega) (by omega) dX6_commonMeasure_9 ?_
        refine xn_zne (tgt := 21) hx hb dX6_commonMeasure_10 (by decide) (by omega) (fun c_10 => ?_) (fun c_10 => ?_)
        · refine lv_iinc (v := nI (m - 1)) (lv' := [(2, .int (nI (m - 1))), (0, .int (nI a)), (1, .int (nI 12))]) hx hb dX6_commonMeasure_21 hl (k := 2) rfl (xn_dec (by omega)) (by decide) rfl (fun ls hl => ?_)
          refine lv_goto (tgt := 2) hx hb dX6_commonMeasure_24 (by decide) ?_
          exact ih_2 (m - 1) (by omega) (by rw [← hv]; obtain ⟨b, rfl⟩ : ∃ b, m = b + 1 := ⟨m - 1, by omega⟩; simp only [cmF, Nat.add_sub_cancel]; rw [if_neg (by omega), if_neg (by omega)]) (by omega) _ _ _ hP hS (lv_sub hl [1, 2, 0] rfl)
        · refine lv_iload_n hx hb dX6_commonMeasure_13 rfl (lv_at hl 1 rfl) ?_
          refine lv_iload_n hx hb dX6_commonMeasure_14 rfl (lv_at hl 2 rfl) ?_
          refine xn_irem hx hb (by omega) (by omega) (by omega) dX6_commonMeasure_15 ?_
          refine xn_zne (tgt := 21) hx hb dX6_commonMeasure_16 (by decide) (by omega) (fun c_16 => ?_) (fun c_16 => ?_)
          · refine lv_iinc (v := nI (m - 1)) (lv' := [(2, .int (nI (m - 1))), (0, .int (nI a)), (1, .int (nI 12))]) hx hb dX6_commonMeasure_21 hl (k := 2) rfl (xn_dec (by omega)) (by decide) rfl (fun ls hl => ?_)
            refine lv_goto (tgt := 2) hx hb dX6_commonMeasure_24 (by decide) ?_
            exact ih_2 (m - 1) (by omega) (by rw [← hv]; obtain ⟨b, rfl⟩ : ∃ b, m = b + 1 := ⟨m - 1, by omega⟩; simp only [cmF, Nat.add_sub_cancel]; rw [if_neg (by omega), if_neg (by omega)]) (by omega) _ _ _ hP hS (lv_sub hl [1, 2, 0] rfl)
          · refine lv_iload_n hx hb dX6_commonMeasure_19 rfl (lv_at hl 2 rfl) ?_
            exact xk_iret hx hb hr (vp_nar_int _) X1_ok hK hX hP hS hlk dX6_commonMeasure_20 (⟨by rw [← hv]; obtain ⟨b, rfl⟩ : ∃ b, m = b + 1 := ⟨m - 1, by omega⟩; simp only [cmF]; rw [if_neg (by omega), if_pos (by omega)], rfl⟩)
  exact LP_2 _ 12 (by omega) rfl (Nat.lt_succ_self _) _ _ _ hP hS (lv_sub hl [1, 2, 0] rfl)

/-- the trace behind a body's number -/
def tc (t : Int32) (v : Nat) : Int32 := nI 31 * t + nI v

set_option maxRecDepth 20000 in
theorem flX6_leaveTrace_258 {s : State} {av : Array Value} (hts : ∀ w ∈ wsX6_leaveTrace, w.before av s = true) : (Cond.fieldLink RX6 258 "WellBack" "traceNumber" "I").before av s = true := hts _ (by decide +kernel)
set_option maxRecDepth 20000 in
theorem inX6_leaveTrace_X6 : ∀ w ∈ u_ws RX6 TX6 13, w ∈ wsX6_leaveTrace := by decide +kernel
set_option maxHeartbeats 4000000 in
set_option maxRecDepth 100000 in
theorem k1_leave (l : Launch) {D : va_G} {ca : Nat → ClassId} {ad : Nat → Nat} (hI : Ij ad 34) {σ : Sg} {t : Int32} {v : Nat} (ht : σ 0 12 = t) : C1v l D ca ad yX6_leaveTrace wsX6_leaveTrace { frames := 0, cells := 0, slots := 0, locals := 0 } [.ref (ad 0), .int (nI v)] σ (xFv (up σ 0 12 (tc t v))) := by
  refine xk_entry cX6_leaveTrace 2 none (by decide) rfl (Nat.le_of_ble_eq_true rfl) ?_
  intro pP eE sS mM below meth cC hx hb hml hr hts hown hlk hP hK hX hS ls hl
  have hl : lv_has ls 2 [(0, .ref (ad 0)), (1, .int (nI v))] := hl
  refine lv_aload_n hx hb dX6_leaveTrace_0 rfl (lv_at hl 0 rfl) ?_
  refine lv_bipush (v := nI 31) hx hb dX6_leaveTrace_1 (by decide) ?_
  refine lv_aload_n hx hb dX6_leaveTrace_3 rfl (lv_at hl 0 rfl) ?_
  refine xk_get hx hb hts (inX6_leaveTrace_X6) hown hK hP 0 (by omega) (ci := 6) e1_well rfl 12 (by decide) (flX6_leaveTrace_258 hts) rfl (.int (σ 0 12)) rfl dX6_leaveTrace_4 ?_
  refine xn_eqi (y := t) ht ?_
  refine lv_imul hx hb dX6_leaveTrace_7 ?_
  refine lv_iload_n hx hb dX6_leaveTrace_8 rfl (lv_at hl 1 rfl) ?_
  refine lv_iadd hx hb dX6_leaveTrace_9 ?_
  refine xk_put hx hb hts (inX6_leaveTrace_X6) tyX6 tyX6_ok nmX6 hown hK hI hP hS 0 (by omega) (ci := 6) e1_well rfl 12 (by decide) (flX6_leaveTrace_258 hts) rfl rfl (by decide +kernel) (Nat.le_of_ble_eq_true rfl) e1_loc (by rw [e1_well]; simp [up]) dX6_leaveTrace_10 (fun H locs hP hS => ?_)
  exact xk_vret hx hb hr X1_ok hK hX hP hS hlk dX6_leaveTrace_13 rfl

set_option maxRecDepth 20000 in
theorem flX6_tellThing_100 {s : State} {av : Array Value} (hts : ∀ w ∈ wsX6_tellThing, w.before av s = true) : (Cond.fieldLink RX6 100 "WellBack$Thing" "weight" "I").before av s = true := hts _ (by decide +kernel)
set_option maxRecDepth 20000 in
theorem inX6_tellThing_X4 : ∀ w ∈ u_ws RX4 TX4 5, w ∈ wsX6_tellThing := by decide +kernel
set_option maxHeartbeats 4000000 in
set_option maxRecDepth 100000 in
theorem k1_tellThing1 (l : Launch) {D : va_G} {ca : Nat → ClassId} {ad : Nat → Nat} (hI : Ij ad 34) {σ : Sg} {n g : Nat} {th : Nat → Nat → Nat} {t : Int32} {x : Nat} (hT : ThingsAt σ n g th) (hxn : x < n) (ht : σ 0 12 = t) : C1i l D ca ad yX6_tellThing wsX6_tellThing { frames := 1, cells := 0, slots := 0, locals := 21 } [.ref (ad 0), .ref (ad (9 + x))] σ (xFn (nI (th x 1)) (up σ 0 12 (tc t 1))) := by
  refine xk_entry cX6_tellThing 2 (some .int) (by decide) rfl (Nat.le_of_ble_eq_true rfl) ?_
  intro pP eE sS mM below meth cC hx hb hml hr hts hown hlk hP hK hX hS ls hl
  have hl : lv_has ls 2 [(0, .ref (ad 0)), (1, .ref (ad (9 + x)))] := hl
  have hn5 := hT.2.2.1
  have hg9 := hT.2.2.2.1
  have hXx := hT.2.2.2.2 x hxn
  obtain ⟨ho0, ho1, ho2, ho3, ho4⟩ := hXx.2
  refine lv_aload_n hx hb dX6_tellThing_0 rfl (lv_at hl 0 rfl) ?_
  refine lv_iconst (v := nI 1) hx hb dX6_tellThing_1 (by decide) ?_
  refine xk_fv (va_runV (As := [.int (nI 1)]) (rest := []) ⟨hx, hb, hml, hown, hts⟩ (k1_leave l hI (t := t) (v := 1) ht) (cwV 1 hts gX6_tellThing_X6_leaveTrace rfl rfl rfl (by decide +kernel) ⟨Nat.le_of_ble_eq_true rfl, Nat.le_of_ble_eq_true rfl⟩) (xk_preV X1_ok hK hX hP (xk_recv hK hP 0 (by omega) (ci := 6) e1_well rfl)) rfl rfl hl.1 rfl (lv_room (Nat.le_of_ble_eq_true rfl)) dX6_tellThing_2 ⟨Nat.le_of_ble_eq_true rfl, Nat.le_of_ble_eq_true rfl⟩) hS (fun H locs hP hS => ?_)
  refine lv_aload_n hx hb dX6_tellThing_5 rfl (lv_at hl 1 rfl) ?_
  refine xk_get hx hb hts (inX6_tellThing_X4) hown hK hP (9 + x) (by omega) (ci := 4) (e1_thing (by omega) (by omega)) rfl 1 (by decide) (flX6_tellThing_100 hts) rfl (.int ((up σ 0 12 (tc t 1)) (9 + x) 1)) rfl dX6_tellThing_6 ?_
  refine xn_eqi (y := nI (th x 1)) ((up_n (by omega)).trans (hXx.1 1 (by omega))) ?_
  exact xk_iret hx hb hr (vp_nar_int _) X1_ok hK hX hP hS hlk dX6_tellThing_9 (⟨rfl, rfl⟩)

set_option maxHeartbeats 4000000 in
set_option maxRecDepth 100000 in
theorem k1_tellLetter (l : Launch) {D : va_G} {ca : Nat → ClassId} {ad : Nat → Nat} (hI : Ij ad 34) {σ : Sg} {n g : Nat} {th : Nat → Nat → Nat} {t : Int32} {x : Nat} (hT : ThingsAt σ n g th) (hxn : x < n) (ht : σ 0 12 = t) : C1i l D ca ad yX6_tellLetter wsX6_tellLetter { frames := 2, cells := 0, slots := 0, locals := 42 } [.ref (ad 0), .ref (ad (9 + x))] σ (xFn (nI (th x 1 + 100)) (up σ 0 12 (tc (tc t 2) 1))) := by
  refine xk_entry cX6_tellLetter 2 (some .int) (by decide) rfl (Nat.le_of_ble_eq_true rfl) ?_
  intro pP eE sS mM below meth cC hx hb hml hr hts hown hlk hP hK hX hS ls hl
  have hl : lv_has ls 2 [(0, .ref (ad 0)), (1, .ref (ad (9 + x)))] := hl
  have hn5 := hT.2.2.1
  have hg9 := hT.2.2.2.1
  have hXx := hT.2.2.2.2 x hxn
  obtain ⟨ho0, ho1, ho2, ho3, ho4⟩ := hXx.2
  refine lv_aload_n hx hb dX6_tellLetter_0 rfl (lv_at hl 0 rfl) ?_
  refine lv_iconst (v := nI 2) hx hb dX6_tellLetter_1 (by decide) ?_
  refine xk_fv (va_runV (As := [.int (nI 2)]) (rest := []) ⟨hx, hb, hml, hown, hts⟩ (k1_leave l hI (t := t) (v := 2) ht) (cwV 1 hts gX6_tellLetter_X6_leaveTrace rfl rfl rfl (by decide +kernel) ⟨Nat.le_of_ble_eq_true rfl, Nat.le_of_ble_eq_true rfl⟩) (xk_preV X1_ok hK hX hP (xk_recv hK hP 0 (by omega) (ci := 6) e1_well rfl)) rfl rfl hl.1 rfl (lv_room (Nat.le_of_ble_eq_true rfl)) dX6_tellLetter_2 ⟨Nat.le_of_ble_eq_true rfl, Nat.le_of_ble_eq_true rfl⟩) hS (fun H locs hP hS => ?_)
  refine lv_aload_n hx hb dX6_tellLetter_5 rfl (lv_at hl 0 rfl) ?_
  refine lv_aload_n hx hb dX6_tellLetter_6 rfl (lv_at hl 1 rfl) ?_
  refine xk_fi (va_runV (As := [.ref (ad (9 + x))]) (rest := []) ⟨hx, hb, hml, hown, hts⟩ (k1_tellThing1 l hI (t := tc t 2) (x := x) (ThingsAt_0 hT (by omega)) (by omega) up_s) (cwV 1 hts gX6_tellLetter_X6_tellThing rfl rfl rfl (by decide +kernel) ⟨Nat.le_of_ble_eq_true rfl, Nat.le_of_ble_eq_true rfl⟩) (xk_preV X1_ok hK hX hP (xk_recv hK hP 0 (by omega) (ci := 6) e1_well rfl)) rfl rfl hl.1 rfl (lv_room (Nat.le_of_ble_eq_true rfl)) dX6_tellLetter_7 ⟨Nat.le_of_ble_eq_true rfl, Nat.le_of_ble_eq_true rfl⟩) hS (fun H locs hP hS => ?_)
  refine lv_bipush (v := nI 100) hx hb dX6_tellLetter_10 (by decide) ?_
  refine xn_iadd hx hb dX6_tellLetter_12 ?_
  exact xk_iret hx hb hr (vp_nar_int _) X1_ok hK hX hP hS hlk dX6_tellLetter_13 (⟨rfl, up_up⟩)

set_option maxHeartbeats 4000000 in
set_option maxRecDepth 100000 in
theorem k1_tellRing (l : Launch) {D : va_G} {ca : Nat → ClassId} {ad : Nat → Nat} (hI : Ij ad 34) {σ : Sg} {n g : Nat} {th : Nat → Nat → Nat} {t : Int32} {x : Nat} (hT : ThingsAt σ n g th) (hxn : x < n) (ht : σ 0 12 = t) : C1i l D ca ad yX6_tellRing wsX6_tellRing { frames := 3, cells := 0, slots := 0, locals := 63 } [.ref (ad 0), .ref (ad (9 + x))] σ (xFn (nI (th x 1 + 100 + th x 1)) (up σ 0 12 (tc (tc (tc (tc t 3) 2) 1) 1))) := by
  refine xk_entry cX6_tellRing 3 (some .int) (by decide) rfl (Nat.le_of_ble_eq_true rfl) ?_
  intro pP eE sS mM below meth cC hx hb hml hr hts hown hlk hP hK hX hS ls hl
  have hl : lv_has ls 3 [(0, .ref (ad 0)), (1, .ref (ad (9 + x)))] := hl
  have hn5 := hT.2.2.1
  have hg9 := hT.2.2.2.1
  have hXx := hT.2.2.2.2 x hxn
  obtain ⟨ho0, ho1, ho2, ho3, ho4⟩ := hXx.2
  refine lv_aload_n hx hb dX6_tellRing_0 rfl (lv_at hl 0 rfl) ?_
  refine lv_iconst (v := nI 3) hx hb dX6_tellRing_1 (by decide) ?_
  refine xk_fv (va_runV (As := [.int (nI 3)]) (rest := []) ⟨hx, hb, hml, hown, hts⟩ (k1_leave l hI (t := t) (v := 3) ht) (cwV 1 hts gX6_tellRing_X6_leaveTrace rfl rfl rfl (by decide +kernel) ⟨Nat.le_of_ble_eq_true rfl, Nat.le_of_ble_eq_true rfl⟩) (xk_preV X1_ok hK hX hP (xk_recv hK hP 0 (by omega) (ci := 6) e1_well rfl)) rfl rfl hl.1 rfl (lv_room (Nat.le_of_ble_eq_true rfl)) dX6_tellRing_2 ⟨Nat.le_of_ble_eq_true rfl, Nat.le_of_ble_eq_true rfl⟩) hS (fun H locs hP hS => ?_)
  refine lv_aload_n hx hb dX6_tellRing_5 rfl (lv_at hl 0 rfl) ?_
  refine lv_aload_n hx hb dX6_tellRing_6 rfl (lv_at hl 1 rfl) ?_
  refine xk_fi (va_runV (As := [.ref (ad (9 + x))]) (rest := []) ⟨hx, hb, hml, hown, hts⟩ (k1_tellLetter l hI (t := tc t 3) (x := x) (ThingsAt_0 hT (by omega)) (by omega) up_s) (cwV 1 hts gX6_tellRing_X6_tellLetter rfl rfl rfl (by decide +kernel) ⟨Nat.le_of_ble_eq_true rfl, Nat.le_of_ble_eq_true rfl⟩) (xk_preV X1_ok hK hX hP (xk_recv hK hP 0 (by omega) (ci := 6) e1_well rfl)) rfl rfl hl.1 rfl (lv_room (Nat.le_of_ble_eq_true rfl)) dX6_tellRing_7 ⟨Nat.le_of_ble_eq_true rfl, Nat.le_of_ble_eq_true rfl⟩) hS (fun H locs hP hS => ?_)
  refine lv_istore_n (lv' := [(2, .int (nI (th x 1 + 100))), (0, .ref (ad 0)), (1, .ref (ad (9 + x)))]) hx hb dX6_tellRing_10 rfl hl (by decide) rfl (fun ls hl => ?_)
  refine lv_iload_n hx hb dX6_tellRing_11 rfl (lv_at hl 0 rfl) ?_
  refine lv_aload_n hx hb dX6_tellRing_12 rfl (lv_at hl 1 rfl) ?_
  refine lv_aload_n hx hb dX6_tellRing_13 rfl (lv_at hl 2 rfl) ?_
  rw [up_up] at hP
  refine xk_fi (va_runV (As := [.ref (ad (9 + x))]) (rest := [.int (nI (th x 1 + 100))]) ⟨hx, hb, hml, hown, hts⟩ (k1_tellThing1 l hI (t := tc (tc (tc t 3) 2) 1) (x := x) (ThingsAt_0 hT (by omega)) (by omega) up_s) (cwV 1 hts gX6_tellRing_X6_tellThing rfl rfl rfl (by decide +kernel) ⟨Nat.le_of_ble_eq_true rfl, Nat.le_of_ble_eq_true rfl⟩) (xk_preV X1_ok hK hX hP (xk_recv hK hP 0 (by omega) (ci := 6) e1_well rfl)) rfl rfl hl.1 rfl (lv_room (Nat.le_of_ble_eq_true rfl)) dX6_tellRing_14 ⟨Nat.le_of_ble_eq_true rfl, Nat.le_of_ble_eq_true rfl⟩) hS (fun H locs hP hS => ?_)
  refine xn_iadd hx hb dX6_tellRing_17 ?_
  exact xk_iret hx hb hr (vp_nar_int _) X1_ok hK hX hP hS hlk dX6_tellRing_18 (⟨rfl, up_up⟩)

def pth (c : Nat → Int32) (r : Nat) : Nat → Nat → Nat := fun x f => if f = 0 then kd (c (2 + r + 6 * x + 1)) else dv (c (2 + r + 6 * x + 1 + f))
theorem parse_ok {c : Nat → Int32} {m nn : Nat} (h : parse c m = .inr nn) : dg (c 1) 9 ∧ 0 < pls c 6 0 ∧ pls c 6 0 ≤ 6 ∧ 0 < nn ∧ nn ≤ 5 ∧ m = 2 + pls c 6 0 + 6 * nn ∧ (∀ j, j < pls c 6 0 → dg (c (2 + j)) 4) ∧ ∀ x, x < nn → ∀ k, k < 6 → gq (c (2 + pls c 6 0 + 6 * x + k)) k := by
  unfold parse at h
  by_cases h1 : c 0 = nI 103
  · rw [if_pos h1] at h
    by_cases h2 : dg (c 1) 9
    · rw [if_pos h2] at h
      by_cases h3 : pls c 6 0 = 0
      · rw [if_pos h3] at h
        cases h
      · rw [if_neg h3] at h
        obtain ⟨a1, a2, a3, a4, a5⟩ := tf_ok c m 5 0 _ nn h
        have hp := pls_le c 6 0
        refine ⟨h2, by omega, by omega, a5 rfl (by omega), by omega, by omega, fun j hj => hp.2.2 j (by omega) hj, fun x hx k hk => ?_⟩
        have hf := a4 x (by omega) hx
        have hg := f6_all c (2 + pls c 6 0 + 6 * (x - 0)) 6 0
        rw [hf] at hg
        exact hg.2.2 k (by omega) hk
    · rw [if_neg h2] at h
      cases h
  · rw [if_neg h1] at h
    cases h
theorem pth_ok {c : Nat → Int32} {r x : Nat} (h : ∀ k, k < 6 → gq (c (2 + r + 6 * x + k)) k) : ThOk (pth c r) x := by
  have g1 : ¬ kd (c (2 + r + 6 * x + 1)) = 3 := h 1 (by omega)
  have g2 : dg (c (2 + r + 6 * x + 2)) 9 := h 2 (by omega)
  have g3 : dg (c (2 + r + 6 * x + 3)) 4 := h 3 (by omega)
  have g4 : dg (c (2 + r + 6 * x + 4)) 4 := h 4 (by omega)
  have g5 : dg (c (2 + r + 6 * x + 5)) 9 := h 5 (by omega)
  have k1 := kd_le (c (2 + r + 6 * x + 1))
  have e2 := (dg_dv g2).2
  have e3 := (dg_dv g3).2
  have e4 := (dg_dv g4).2
  have e5 := (dg_dv g5).2
  refine ⟨?_, ?_, ?_, ?_, ?_⟩
  · show kd (c (2 + r + 6 * x + 1)) < 3
    omega
  · show dv (c (2 + r + 6 * x + 2)) ≤ 9
    omega
  · show dv (c (2 + r + 6 * x + 3)) < 5
    omega
  · show dv (c (2 + r + 6 * x + 4)) < 5
    omega
  · show dv (c (2 + r + 6 * x + 5)) ≤ 9
    omega

theorem mk_th {c : Nat → Int32} {r x : Nat} {ρ : Sg} (h : ∀ y, y < x → ∀ f, f < 5 → ρ (9 + y) f = nI (pth c r y f)) : ∀ y, y < x + 1 → ∀ f, f < 5 → (up (up (up (up (up ρ (9 + x) 0 (nI (kd (c (2 + r + 6 * x + 1))))) (9 + x) 1 (nI (dv (c (2 + r + 6 * x + 2))))) (9 + x) 2 (nI (dv (c (2 + r + 6 * x + 3))))) (9 + x) 3 (nI (dv (c (2 + r + 6 * x + 4))))) (9 + x) 4 (nI (dv (c (2 + r + 6 * x + 5))))) (9 + y) f = nI (pth c r y f) := by
  intro y hy f hf
  by_cases hyx : y = x
  · subst hyx
    rcases (show f = 0 ∨ f = 1 ∨ f = 2 ∨ f = 3 ∨ f = 4 by omega) with h | h | h | h | h <;> subst h <;> simp [up, pth, Nat.add_assoc]
  · simp only [up_r (by omega : 9 + y ≠ 9 + x)]
    exact h y (by omega) f hf

set_option maxRecDepth 20000 in
theorem flX6_makeAnew_32 {s : State} {av : Array Value} (hts : ∀ w ∈ wsX6_makeAnew, w.before av s = true) : (Cond.fieldLink RX6 32 "WellBack" "rota" "LWellBack$Rota;").before av s = true := hts _ (by decide +kernel)
set_option maxRecDepth 20000 in
theorem flX6_makeAnew_45 {s : State} {av : Array Value} (hts : ∀ w ∈ wsX6_makeAnew, w.before av s = true) : (Cond.fieldLink RX6 45 "WellBack" "text" "LWellBack$Text;").before av s = true := hts _ (by decide +kernel)
set_option maxRecDepth 20000 in
theorem flX6_makeAnew_90 {s : State} {av : Array Value} (hts : ∀ w ∈ wsX6_makeAnew, w.before av s = true) : (Cond.fieldLink RX6 90 "WellBack" "thingCount" "I").before av s = true := hts _ (by decide +kernel)
set_option maxRecDepth 20000 in
theorem flX6_makeAnew_123 {s : State} {av : Array Value} (hts : ∀ w ∈ wsX6_makeAnew, w.before av s = true) : (Cond.fieldLink RX6 123 "WellBack" "depth" "I").before av s = true := hts _ (by decide +kernel)
set_option maxRecDepth 20000 in
theorem flX6_makeAnew_175 {s : State} {av : Array Value} (hts : ∀ w ∈ wsX6_makeAnew, w.before av s = true) : (Cond.fieldLink RX6 175 "WellBack$Rota" "places" "I").before av s = true := hts _ (by decide +kernel)
set_option maxRecDepth 20000 in
theorem flX6_makeAnew_181 {s : State} {av : Array Value} (hts : ∀ w ∈ wsX6_makeAnew, w.before av s = true) : (Cond.fieldLink RX6 181 "WellBack" "readingCount" "I").before av s = true := hts _ (by decide +kernel)
set_option maxRecDepth 20000 in
theorem inX6_makeAnew_X1 : ∀ w ∈ u_ws RX1 TX1 2, w ∈ wsX6_makeAnew := by decide +kernel
set_option maxRecDepth 20000 in
theorem inX6_makeAnew_X6 : ∀ w ∈ u_ws RX6 TX6 13, w ∈ wsX6_makeAnew := by decide +kernel
set_option maxHeartbeats 4000000 in
set_option maxRecDepth 100000 in
theorem k1_makeAnew (l : Launch) {D : va_G} {ca : Nat → ClassId} {ad : Nat → Nat} (hI : Ij ad 34) {σ : Sg} {t : Nat → Int32} {n nn : Nat} (hT0 : TextAt σ t n) (hpa : parse (cd t n) n = .inr nn) : C1v l D ca ad yX6_makeAnew wsX6_makeAnew { frames := 4, cells := 0, slots := 0, locals := 89 } [.ref (ad 0)] σ (fun σ' => (∀ i, i ≠ 0 → i ≠ 22 → i ≠ 25 → (i < 9 ∨ 14 ≤ i) → σ' i = σ i) ∧ ThingsAt σ' nn (dv (cd t n 1)) (pth (cd t n) (pls (cd t n) 6 0)) ∧ RotaAt σ' 22 (pls (cd t n) 6 0) (fun k => dv (cd t n (2 + k))) ∧ σ' 0 10 = nI 0 ∧ σ' 0 11 = σ 0 11 ∧ σ' 0 12 = σ 0 12) := by
  refine xk_entry cX6_makeAnew 3 none (by decide) rfl (Nat.le_of_ble_eq_true rfl) ?_
  intro pP eE sS mM below meth cC hx hb hml hr hts hown hlk hP hK hX hS ls hl
  have hl : lv_has ls 3 [(0, .ref (ad 0))] := hl
  obtain ⟨hd1, hr0, hr6, hnn0, hnn5, hnm, hrd, hg⟩ := parse_ok hpa
  have hn60 := hT0.2.1
  refine lv_aload_n hx hb dX6_makeAnew_0 rfl (lv_at hl 0 rfl) ?_
  refine lv_aload_n hx hb dX6_makeAnew_1 rfl (lv_at hl 0 rfl) ?_
  refine xk_get hx hb hts (inX6_makeAnew_X6) hown hK hP 0 (by omega) (ci := 6) e1_well rfl 6 (by decide) (flX6_makeAnew_45 hts) rfl (.ref (ad 28)) rfl dX6_makeAnew_2 ?_
  refine lv_iconst (v := nI 1) hx hb dX6_makeAnew_5 (by decide) ?_
  have hT := TextAt_fr (τ := σ) hT0 rfl rfl
  refine xk_fi (va_runV (As := [.int (nI 1)]) (rest := [.ref (ad 0)]) ⟨hx, hb, hml, hown, hts⟩ (k1_digitAt l hI (j := 1) hT (by omega) (by omega) hd1) (cwV 1 hts gX6_makeAnew_X3_digitAt rfl rfl rfl (by decide +kernel) ⟨Nat.le_of_ble_eq_true rfl, Nat.le_of_ble_eq_true rfl⟩) (xk_preV X1_ok hK hX hP (xk_recv hK hP 28 (by omega) (ci := 3) e1_text rfl)) rfl rfl hl.1 rfl (lv_room (Nat.le_of_ble_eq_true rfl)) dX6_makeAnew_6 ⟨Nat.le_of_ble_eq_true rfl, Nat.le_of_ble_eq_true rfl⟩) hS (fun H locs hP hS => ?_)
  refine xk_put hx hb hts (inX6_makeAnew_X6) tyX6 tyX6_ok nmX6 hown hK hI hP hS 0 (by omega) (ci := 6) e1_well rfl 8 (by decide) (flX6_makeAnew_123 hts) rfl rfl (by decide +kernel) (Nat.le_of_ble_eq_true rfl) e1_loc (by rw [e1_well]; simp [up]) dX6_makeAnew_9 (fun H locs hP hS => ?_)
  refine lv_aload_n hx hb dX6_makeAnew_12 rfl (lv_at hl 0 rfl) ?_
  refine xk_get hx hb hts (inX6_makeAnew_X6) hown hK hP 0 (by omega) (ci := 6) e1_well rfl 3 (by decide) (flX6_makeAnew_32 hts) rfl (.ref (ad 22)) rfl dX6_makeAnew_13 ?_
  refine lv_aload_n hx hb dX6_makeAnew_16 rfl (lv_at hl 0 rfl) ?_
  refine xk_get hx hb hts (inX6_makeAnew_X6) hown hK hP 0 (by omega) (ci := 6) e1_well rfl 6 (by decide) (flX6_makeAnew_45 hts) rfl (.ref (ad 28)) rfl dX6_makeAnew_17 ?_
  have hT := TextAt_fr (τ := (up σ 0 8 (nI (dv (cd t n 1))))) hT0 (up_r (by omega)) (up_r (by omega))
  refine xk_fi (va_runV (As := []) (rest := [.ref (ad 22)]) ⟨hx, hb, hml, hown, hts⟩ (k1_places l hI hT) (cwV 0 hts gX6_makeAnew_X3_places rfl rfl rfl (by decide +kernel) ⟨Nat.le_of_ble_eq_true rfl, Nat.le_of_ble_eq_true rfl⟩) (xk_preV X1_ok hK hX hP (xk_recv hK hP 28 (by omega) (ci := 3) e1_text rfl)) rfl rfl hl.1 rfl (lv_room (Nat.le_of_ble_eq_true rfl)) dX6_makeAnew_20 ⟨Nat.le_of_ble_eq_true rfl, Nat.le_of_ble_eq_true rfl⟩) hS (fun H locs hP hS => ?_)
  refine xk_put hx hb hts (inX6_makeAnew_X1) tyX1 tyX1_ok nmX1 hown hK hI hP hS 22 (by omega) (ci := 1) (e1_rota (by omega) (by omega)) rfl 1 (by decide) (flX6_makeAnew_175 hts) rfl rfl (by decide +kernel) (Nat.le_of_ble_eq_true rfl) e1_loc (by rw [e1_rota (by omega) (by omega)]; simp [up]) dX6_makeAnew_23 (fun H locs hP hS => ?_)
  refine lv_iconst (v := nI 0) hx hb dX6_makeAnew_26 (by decide) ?_
  refine lv_istore_n (lv' := [(1, .int (nI 0)), (0, .ref (ad 0))]) hx hb dX6_makeAnew_27 rfl hl (by decide) rfl (fun ls hl => ?_)
  have LP_28 : ∀ (n_28 : Nat) (k : Nat) (τ : Sg), (k ≤ pls (cd t n) 6 0) → (∀ i, i ≠ 0 → i ≠ 22 → i ≠ 25 → τ i = σ i) → (τ 0 = upd (σ 0) 8 (nI (dv (cd t n 1)))) → (τ 22 1 = nI (pls (cd t n) 6 0)) → (∀ j, j < k → τ 25 j = nI (dv (cd t n (2 + j)))) → (pls (cd t n) 6 0 - k) < n_28 → ∀ (H : Heap) (locs : List Loc) (ls : Array Slot), va_P D vwCl (wl ad 34 (en1 ad ca τ)) H → va_S (AA ad 34) sS.heap H locs → lv_has ls 3 [(0, .ref (ad 0)), (1, .int (nI k))] → Wwv1 pP l eE { frames := 4, cells := 0, slots := 0, locals := 89 } sS mM [.ref (ad 0)] below meth cC D ca ad (fun σ' => (∀ i, i ≠ 0 → i ≠ 22 → i ≠ 25 → (i < 9 ∨ 14 ≤ i) → σ' i = σ i) ∧ ThingsAt σ' nn (dv (cd t n 1)) (pth (cd t n) (pls (cd t n) 6 0)) ∧ RotaAt σ' 22 (pls (cd t n) 6 0) (fun k => dv (cd t n (2 + k))) ∧ σ' 0 10 = nI 0 ∧ σ' 0 11 = σ 0 11 ∧ σ' 0 12 = σ 0 12) H locs (F0 mM 28 ls []) := by
    intro n_28
    induction n_28 with
    | zero =>
      intro k τ hk hfr h0 h1 h2 hn_28
      exact absurd hn_28 (Nat.not_lt_zero _)
    | succ n_28 ih_28 =>
      intro k τ hk hfr h0 h1 h2 hn_28 H locs ls hP hS hl
      refine lv_iload_n hx hb dX6_makeAnew_28 rfl (lv_at hl 1 rfl) ?_
      refine lv_aload_n hx hb dX6_makeAnew_29 rfl (lv_at hl 0 rfl) ?_
      refine xk_get hx hb hts (inX6_makeAnew_X6) hown hK hP 0 (by omega) (ci := 6) e1_well rfl 3 (by decide) (flX6_makeAnew_32 hts) rfl (.ref (ad 22)) rfl dX6_makeAnew_30 ?_
      refine xk_get hx hb hts (inX6_makeAnew_X1) hown hK hP 22 (by omega) (ci := 1) (e1_rota (by omega) (by omega)) rfl 1 (by decide) (flX6_makeAnew_175 hts) rfl (.int (τ 22 1)) rfl dX6_makeAnew_33 ?_
      refine xn_eqi (y := nI (pls (cd t n) 6 0)) h1 ?_
      refine xn_ige (tgt := 63) hx hb dX6_makeAnew_36 (by decide) (by omega) (by omega) (fun c_36 => ?_) (fun c_36 => ?_)
      · refine lv_aload_n hx hb dX6_makeAnew_63 rfl (lv_at hl 0 rfl) ?_
        refine lv_aload_n hx hb dX6_makeAnew_64 rfl (lv_at hl 0 rfl) ?_
        refine xk_get hx hb hts (inX6_makeAnew_X6) hown hK hP 0 (by omega) (ci := 6) e1_well rfl 6 (by decide) (flX6_makeAnew_45 hts) rfl (.ref (ad 28)) rfl dX6_makeAnew_65 ?_
        have hT := TextAt_fr (τ := τ) hT0 (hfr _ (by omega) (by omega) (by omega)) (hfr _ (by omega) (by omega) (by omega))
        refine xk_fi (va_runV (As := []) (rest := [.ref (ad 0)]) ⟨hx, hb, hml, hown, hts⟩ (k1_thingsTold l hI hT (by omega)) (cwV 0 hts gX6_makeAnew_X3_thingsTold rfl rfl rfl (by decide +kernel) ⟨Nat.le_of_ble_eq_true rfl, Nat.le_of_ble_eq_true rfl⟩) (xk_preV X1_ok hK hX hP (xk_recv hK hP 28 (by omega) (ci := 3) e1_text rfl)) rfl rfl hl.1 rfl (lv_room (Nat.le_of_ble_eq_true rfl)) dX6_makeAnew_68 ⟨Nat.le_of_ble_eq_true rfl, Nat.le_of_ble_eq_true rfl⟩) hS (fun H locs hP hS => ?_)
        refine xn_eqi (y := nI nn) (by congr 1; omega) ?_
        refine xk_put hx hb hts (inX6_makeAnew_X6) tyX6 tyX6_ok nmX6 hown hK hI hP hS 0 (by omega) (ci := 6) e1_well rfl 9 (by decide) (flX6_makeAnew_90 hts) rfl rfl (by decide +kernel) (Nat.le_of_ble_eq_true rfl) e1_loc (by rw [e1_well]; simp [up]) dX6_makeAnew_71 (fun H locs hP hS => ?_)
        refine lv_iconst (v := nI 0) hx hb dX6_makeAnew_74 (by decide) ?_
        refine lv_istore_n (lv' := [(1, .int (nI 0)), (0, .ref (ad 0))]) hx hb dX6_makeAnew_75 rfl hl (by decide) rfl (fun ls hl => ?_)
        have hfr1 : ∀ i, i ≠ 0 → i ≠ 22 → i ≠ 25 → (up τ 0 9 (nI nn)) i = σ i := fun i a b g => by rw [up_r a]; exact hfr i a b g
        have LP_76 : ∀ (n_76 : Nat) (x : Nat) (ρ : Sg), (x ≤ nn) → (∀ i, i ≠ 0 → i ≠ 22 → i ≠ 25 → (i < 9 ∨ 14 ≤ i) → ρ i = σ i) → (ρ 0 = upd (upd (σ 0) 8 (nI (dv (cd t n 1)))) 9 (nI nn)) → (ρ 22 1 = nI (pls (cd t n) 6 0)) → (∀ j, j < pls (cd t n) 6 0 → ρ 25 j = nI (dv (cd t n (2 + j)))) → (∀ y, y < x → ∀ f, f < 5 → ρ (9 + y) f = nI (pth (cd t n) (pls (cd t n) 6 0) y f)) → (nn - x) < n_76 → ∀ (H : Heap) (locs : List Loc) (ls : Array Slot), va_P D vwCl (wl ad 34 (en1 ad ca ρ)) H → va_S (AA ad 34) sS.heap H locs → lv_has ls 3 [(0, .ref (ad 0)), (1, .int (nI x))] → Wwv1 pP l eE { frames := 4, cells := 0, slots := 0, locals := 89 } sS mM [.ref (ad 0)] below meth cC D ca ad (fun σ' => (∀ i, i ≠ 0 → i ≠ 22 → i ≠ 25 → (i < 9 ∨ 14 ≤ i) → σ' i = σ i) ∧ ThingsAt σ' nn (dv (cd t n 1)) (pth (cd t n) (pls (cd t n) 6 0)) ∧ RotaAt σ' 22 (pls (cd t n) 6 0) (fun k => dv (cd t n (2 + k))) ∧ σ' 0 10 = nI 0 ∧ σ' 0 11 = σ 0 11 ∧ σ' 0 12 = σ 0 12) H locs (F0 mM 76 ls []) := by
          intro n_76
          induction n_76 with
          | zero =>
            intro x ρ hx5 hfr2 h02 h12 h22 h32 hn_76
            exact absurd hn_76 (Nat.not_lt_zero _)
          | succ n_76 ih_76 =>
            intro x ρ hx5 hfr2 h02 h12 h22 h32 hn_76 H locs ls hP hS hl
            refine lv_iload_n hx hb dX6_makeAnew_76 rfl (lv_at hl 1 rfl) ?_
            refine lv_aload_n hx hb dX6_makeAnew_77 rfl (lv_at hl 0 rfl) ?_
            refine xk_get hx hb hts (inX6_makeAnew_X6) hown hK hP 0 (by omega) (ci := 6) e1_well rfl 9 (by decide) (flX6_makeAnew_90 hts) rfl (.int (ρ 0 9)) rfl dX6_makeAnew_78 ?_
            refine xn_eqi (y := nI nn) (by rw [h02]; simp [upd]) ?_
            refine xn_ige (tgt := 109) hx hb dX6_makeAnew_81 (by decide) (by omega) (by omega) (fun c_81 => ?_) (fun c_81 => ?_)
            · refine lv_aload_n hx hb dX6_makeAnew_109 rfl (lv_at hl 0 rfl) ?_
              refine lv_iconst (v := nI 0) hx hb dX6_makeAnew_110 (by decide) ?_
              refine xk_put hx hb hts (inX6_makeAnew_X6) tyX6 tyX6_ok nmX6 hown hK hI hP hS 0 (by omega) (ci := 6) e1_well rfl 10 (by decide) (flX6_makeAnew_181 hts) rfl rfl (by decide +kernel) (Nat.le_of_ble_eq_true rfl) e1_loc (by rw [e1_well]; simp [up]) dX6_makeAnew_111 (fun H locs hP hS => ?_)
              exact xk_vret hx hb hr X1_ok hK hX hP hS hlk dX6_makeAnew_114 (⟨fun i a b g e => by rw [up_r a]; exact hfr2 i a b g e, ⟨by rw [up_n (by omega), h02]; simp [upd], by rw [up_n (by omega), h02]; simp [upd], hnn5, (dg_dv hd1).2, fun y hy => ⟨fun f hf => (up_n (by omega)).trans (h32 y (by omega) f hf), pth_ok (hg y hy)⟩⟩, ⟨by rw [up_r (by omega)]; exact h12, hr6, fun k hk => ⟨by rw [up_r (by omega)]; exact h22 k hk, by have := (dg_dv (hrd k hk)).2; show dv (cd t n (2 + k)) < 5; omega⟩⟩, up_s, by rw [up_n (by omega), h02]; simp [upd], by rw [up_n (by omega), h02]; simp [upd]⟩)
            · refine lv_aload_n hx hb dX6_makeAnew_84 rfl (lv_at hl 0 rfl) ?_
              refine lv_iload_n hx hb dX6_makeAnew_85 rfl (lv_at hl 1 rfl) ?_
              refine xk_fa (va_runV (As := [.int (nI x)]) (rest := []) ⟨hx, hb, hml, hown, hts⟩ (k1_thingAt_in l hI (x := x) (by rw [h02]; simp [upd]) (by omega : nn ≤ 5) (by omega)) (cwV 1 hts gX6_makeAnew_X6_thingAt rfl rfl rfl (by decide +kernel) ⟨Nat.le_of_ble_eq_true rfl, Nat.le_of_ble_eq_true rfl⟩) (xk_preV X1_ok hK hX hP (xk_recv hK hP 0 (by omega) (ci := 6) e1_well rfl)) rfl rfl hl.1 rfl (lv_room (Nat.le_of_ble_eq_true rfl)) dX6_makeAnew_86 ⟨Nat.le_of_ble_eq_true rfl, Nat.le_of_ble_eq_true rfl⟩) hS (fun H locs hP hS => ?_)
              refine lv_astore_n (lv' := [(2, .ref (ad (9 + x))), (0, .ref (ad 0)), (1, .int (nI x))]) hx hb dX6_makeAnew_89 rfl hl (by decide) rfl (fun ls hl => ?_)
              refine lv_aload_n hx hb dX6_makeAnew_90 rfl (lv_at hl 0 rfl) ?_
              refine lv_ifnull hx hb dX6_makeAnew_91 ?_
              refine lv_aload_n hx hb dX6_makeAnew_94 rfl (lv_at hl 1 rfl) ?_
              refine xk_get hx hb hts (inX6_makeAnew_X6) hown hK hP 0 (by omega) (ci := 6) e1_well rfl 6 (by decide) (flX6_makeAnew_45 hts) rfl (.ref (ad 28)) rfl dX6_makeAnew_95 ?_
              refine lv_aload_n hx hb dX6_makeAnew_98 rfl (lv_at hl 0 rfl) ?_
              refine lv_iload_n hx hb dX6_makeAnew_99 rfl (lv_at hl 2 rfl) ?_
              have hT := TextAt_fr (τ := ρ) hT0 (hfr2 _ (by omega) (by omega) (by omega) (by omega)) (hfr2 _ (by omega) (by omega) (by omega) (by omega))
              refine xk_fv (va_runV (As := [.ref (ad (9 + x)), .int (nI x)]) (rest := []) ⟨hx, hb, hml, hown, hts⟩ (k1_tellThing l hI (w := 9 + x) (x := x) hT (by omega) (by omega) (by omega) (hg x c_81)) (cwV 2 hts gX6_makeAnew_X3_tellThingTo rfl rfl rfl (by decide +kernel) ⟨Nat.le_of_ble_eq_true rfl, Nat.le_of_ble_eq_true rfl⟩) (xk_preV X1_ok hK hX hP (xk_recv hK hP 28 (by omega) (ci := 3) e1_text rfl)) rfl rfl hl.1 rfl (lv_room (Nat.le_of_ble_eq_true rfl)) dX6_makeAnew_100 ⟨Nat.le_of_ble_eq_true rfl, Nat.le_of_ble_eq_true rfl⟩) hS (fun H locs hP hS => ?_)
              refine lv_iinc (v := nI (x + 1)) (lv' := [(1, .int (nI (x + 1))), (2, .ref (ad (9 + x))), (0, .ref (ad 0))]) hx hb dX6_makeAnew_103 hl (k := 2) rfl (xn_inc _ 1) (by decide) rfl (fun ls hl => ?_)
              refine lv_goto (tgt := 76) hx hb dX6_makeAnew_106 (by decide) ?_
              exact ih_76 (x + 1) (up (up (up (up (up ρ (9 + x) 0 (nI (kd (cd t n (2 + pls (cd t n) 6 0 + 6 * x + 1))))) (9 + x) 1 (nI (dv (cd t n (2 + pls (cd t n) 6 0 + 6 * x + 2))))) (9 + x) 2 (nI (dv (cd t n (2 + pls (cd t n) 6 0 + 6 * x + 3))))) (9 + x) 3 (nI (dv (cd t n (2 + pls (cd t n) 6 0 + 6 * x + 4))))) (9 + x) 4 (nI (dv (cd t n (2 + pls (cd t n) 6 0 + 6 * x + 5))))) (by omega) (fun i a b g e => by simp only [up_r (by omega : i ≠ 9 + x)]; exact hfr2 i a b g e) (by simp only [up_r (by omega : 0 ≠ 9 + x)]; exact h02) (by simp only [up_r (by omega : 22 ≠ 9 + x)]; exact h12) (by simp only [up_r (by omega : 25 ≠ 9 + x)]; exact h22) (mk_th h32) (by omega) _ _ _ hP hS (lv_sub hl [2, 0] rfl)
        exact LP_76 _ 0 (up τ 0 9 (nI nn)) (by omega) (fun i a b g _ => hfr1 i a b g) (by rw [up_a, h0]) (by rw [up_r (by omega)]; exact h1) (fun j hj => by rw [up_r (by omega)]; exact h2 j (by omega)) (fun y hy => absurd hy (Nat.not_lt_zero _)) (Nat.lt_succ_self _) _ _ _ hP hS (lv_sub hl [1, 0] rfl)
      · refine lv_aload_n hx hb dX6_makeAnew_39 rfl (lv_at hl 0 rfl) ?_
        refine xk_get hx hb hts (inX6_makeAnew_X6) hown hK hP 0 (by omega) (ci := 6) e1_well rfl 3 (by decide) (flX6_makeAnew_32 hts) rfl (.ref (ad 22)) rfl dX6_makeAnew_40 ?_
        refine lv_iload_n hx hb dX6_makeAnew_43 rfl (lv_at hl 1 rfl) ?_
        refine lv_aload_n hx hb dX6_makeAnew_44 rfl (lv_at hl 0 rfl) ?_
        refine xk_get hx hb hts (inX6_makeAnew_X6) hown hK hP 0 (by omega) (ci := 6) e1_well rfl 6 (by decide) (flX6_makeAnew_45 hts) rfl (.ref (ad 28)) rfl dX6_makeAnew_45 ?_
        refine lv_iconst (v := nI 2) hx hb dX6_makeAnew_48 (by decide) ?_
        refine lv_iload_n hx hb dX6_makeAnew_49 rfl (lv_at hl 1 rfl) ?_
        refine xn_iadd hx hb dX6_makeAnew_50 ?_
        have hT := TextAt_fr (τ := τ) hT0 (hfr _ (by omega) (by omega) (by omega)) (hfr _ (by omega) (by omega) (by omega))
        refine xk_fi (va_runV (As := [.int (nI (2 + k))]) (rest := [.int (nI k), .ref (ad 22)]) ⟨hx, hb, hml, hown, hts⟩ (k1_digitAt l hI (j := 2 + k) hT (by omega) (by omega) (hrd k c_36)) (cwV 1 hts gX6_makeAnew_X3_digitAt rfl rfl rfl (by decide +kernel) ⟨Nat.le_of_ble_eq_true rfl, Nat.le_of_ble_eq_true rfl⟩) (xk_preV X1_ok hK hX hP (xk_recv hK hP 28 (by omega) (ci := 3) e1_text rfl)) rfl rfl hl.1 rfl (lv_room (Nat.le_of_ble_eq_true rfl)) dX6_makeAnew_51 ⟨Nat.le_of_ble_eq_true rfl, Nat.le_of_ble_eq_true rfl⟩) hS (fun H locs hP hS => ?_)
        refine xk_fv (va_runV (As := [.int (nI k), .int (nI (dv (cd t n (2 + k))))]) (rest := []) ⟨hx, hb, hml, hown, hts⟩ (k1_setPlace l hI (q := 22) (k := k) (w := dv (cd t n (2 + k))) (by omega) (by omega) h1 (by omega) (by omega)) (cwV 2 hts gX6_makeAnew_X1_setPlace rfl rfl rfl (by decide +kernel) ⟨Nat.le_of_ble_eq_true rfl, Nat.le_of_ble_eq_true rfl⟩) (xk_preV X1_ok hK hX hP (xk_recv hK hP 22 (by omega) (ci := 1) (e1_rota (by omega) (by omega)) rfl)) rfl rfl hl.1 rfl (lv_room (Nat.le_of_ble_eq_true rfl)) dX6_makeAnew_54 ⟨Nat.le_of_ble_eq_true rfl, Nat.le_of_ble_eq_true rfl⟩) hS (fun H locs hP hS => ?_)
        refine lv_iinc (v := nI (k + 1)) (lv' := [(1, .int (nI (k + 1))), (0, .ref (ad 0))]) hx hb dX6_makeAnew_57 hl (k := 1) rfl (xn_inc _ 1) (by decide) rfl (fun ls hl => ?_)
        refine lv_goto (tgt := 28) hx hb dX6_makeAnew_60 (by decide) ?_
        exact ih_28 (k + 1) (up τ (22 + 3) k (nI (dv (cd t n (2 + k))))) (by omega) (fun i a b g => by rw [up_r g]; exact hfr i a b g) (by rw [up_r (by omega)]; exact h0) (by rw [up_r (by omega)]; exact h1) (fun j hj => by
          by_cases hjk : j = k
          · rw [hjk]; exact up_s
          · exact (up_n (by omega)).trans (h2 j (by omega))) (by omega) _ _ _ hP hS (lv_sub hl [1, 0] rfl)
  exact LP_28 _ 0 (up (up σ 0 8 (nI (dv (cd t n 1)))) 22 1 (nI (pls (cd t n) 6 0))) (by omega) (fun i a b _ => by rw [up_r b, up_r a]) (by rw [up_r (by omega), up_a]) up_s (fun j hj => absurd hj (Nat.not_lt_zero _)) (Nat.lt_succ_self _) _ _ _ hP hS (lv_sub hl [1, 0] rfl)
