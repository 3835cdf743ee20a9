def pm_bg (a b : Int32) : Bool := decide (1 ≤ a.toInt ∧ a.toInt ≤ 200 ∧ 1 ≤ b.toInt ∧ b.toInt ≤ 30)
theorem pm_bg_t {a b : Int32} (h1 : ¬ a < nI 1) (h2 : ¬ nI 200 < a) (h3 : ¬ b < nI 1) (h4 : b ≤ nI 30) : pm_bg a b = true := by
  have h1 : ¬ a.toInt < (nI 1).toInt := fun q => h1 (Int32.lt_iff_toInt_lt.mpr q)
  have h2 : ¬ (nI 200).toInt < a.toInt := fun q => h2 (Int32.lt_iff_toInt_lt.mpr q)
  have h3 : ¬ b.toInt < (nI 1).toInt := fun q => h3 (Int32.lt_iff_toInt_lt.mpr q)
  have h4 : b.toInt ≤ (nI 30).toInt := Int32.le_iff_toInt_le.mp h4
  rw [nI_toInt (by decide)] at h1 h2 h3 h4
  simp [pm_bg]; omega
theorem pm_bg_of {a b : Int32} (h : pm_bg a b = true) : ∃ i j : Nat, a = nI i ∧ b = nI j ∧ 1 ≤ i ∧ i ≤ 200 ∧ 1 ≤ j ∧ j ≤ 30 := by
  simp [pm_bg] at h
  obtain ⟨i, h1, rfl⟩ := vp_in_of (x := a) (n := 201) (vp_in_iff.mpr (by omega)) (by decide)
  obtain ⟨j, h2, rfl⟩ := vp_in_of (x := b) (n := 31) (vp_in_iff.mpr (by omega)) (by decide)
  rw [nI_toInt (by omega), nI_toInt (by omega)] at h
  exact ⟨i, j, rfl, rfl, by omega, by omega, by omega, by omega⟩
def pm_jn (n : Nat) (J : Nat → Nat → Bool) (a b : Int32) : Bool := pm_pt n a && pm_pt n b && !decide (a = b) && !J a.toNatClampNeg b.toNatClampNeg
def pm_co (n : Nat) (a c : Int32) : Bool := pm_pt n a && decide (0 ≤ c.toInt ∧ c.toInt ≤ 1000000)
theorem pm_co_t {n : Nat} {a c : Int32} (h : pm_pt n a = true) (h1 : ¬ c < 0) (h2 : c ≤ 1000000) : pm_co n a c = true := by
  have h1 : ¬ c.toInt < (0 : Int32).toInt := fun q => h1 (Int32.lt_iff_toInt_lt.mpr q)
  have h2 : c.toInt ≤ (1000000 : Int32).toInt := Int32.le_iff_toInt_le.mp h2
  rw [show (0 : Int32).toInt = 0 from by decide +kernel] at h1
  rw [show (1000000 : Int32).toInt = 1000000 from by decide +kernel] at h2
  simp [pm_co, h]; omega
theorem pm_co_of {n : Nat} {a c : Int32} (hn : n < 2 ^ 31) (h : pm_co n a c = true) : ∃ i j : Nat, a = nI i ∧ c = nI j ∧ i < n ∧ j ≤ 1000000 := by
  simp [pm_co] at h
  obtain ⟨i, h1, rfl⟩ := pm_pt_of hn h.1
  obtain ⟨j, h2, rfl⟩ := vp_in_of (x := c) (n := 1000001) (vp_in_iff.mpr (by omega)) (by decide)
  exact ⟨i, j, rfl, rfl, h1, by omega⟩
theorem w0_same {cI cJ cZ : ClassId} {ad : Nat → Nat} {pt co gv pt' co' gv' : Int32} {E E' : Nat → Int64} {G C Wi O IO NI CF G' C' Wi' O' IO' NI' CF' : Nat → Int32} : (w0 cI cJ cZ ad pt co gv E G C Wi O IO NI CF).map (·.1) = (w0 cI cJ cZ ad pt' co' gv' E' G' C' Wi' O' IO' NI' CF').map (·.1) := rfl
theorem w1_same {cI cZ : ClassId} {bd : Nat → Nat} {n k gv n' k' gv' : Int32} {PA C Wi CO RW IN PA' C' Wi' CO' RW' IN' : Nat → Int32} : (w1 cI cZ bd n k gv PA C Wi CO RW IN).map (·.1) = (w1 cI cZ bd n' k' gv' PA' C' Wi' CO' RW' IN').map (·.1) := rfl
theorem pm_1m : nI 1000000 = 1000000 := rfl
set_option maxHeartbeats 4000000 in
set_option maxRecDepth 100000 in
theorem tX0_startGraph {l : Launch} {D : va_G} {cI cJ cZ : ClassId} {ad : Nat → Nat} {pt co gv : Int32} {E : Nat → Int64} {G C Wi O IO NI CF : Nat → Int32} (x y : Int32) : WrV l yX0_startGraph wsX0_startGraph (rmd 1) D (tyq cI cJ cZ) [.ref (ad 0), .int x, .int y] (w0 cI cJ cZ ad pt co gv E G C Wi O IO NI CF) (S := Unit) (fun _ => True) (fun _ => w0 cI cJ cZ ad x y (px_b false) (fun _ => 0) (fun _ => nI 0) (fun _ => nI 0) (fun _ => -1) O IO NI CF) := by
  refine px_met (cc := cX0_startGraph) (maxL := 3) (ret := none) (lv := [(0, .ref (ad 0)), (1, .int x), (2, .int y)]) (by decide +kernel) rfl (Nat.le_of_ble_eq_true rfl) rfl ?_
  intro p e s m below meth c ls S hr hlk hnm hv hl
  obtain ⟨hx, hb, hml, hown, hts⟩ := id S
  obtain ⟨hP, hK, hD⟩ := hv
  have hin : ∀ w ∈ wsX00, w ∈ wsX0_startGraph := fun w h => List.mem_cons_of_mem _ (List.mem_append_right _ h)
  have f66 := hts (.fieldLink RX0 66 "PointColours" "points" "I") (by decide +kernel)
  have f70 := hts (.fieldLink RX0 70 "PointColours" "colours" "I") (by decide +kernel)
  have f51 := hts (.fieldLink RX0 51 "PointColours" "given" "Z") (by decide +kernel)
  have f9 := hts (.fieldLink RX0 9 "PointColours" "edges" "[J") (by decide +kernel)
  have f13 := hts (.fieldLink RX0 13 "PointColours" "degrees" "[I") (by decide +kernel)
  have f17 := hts (.fieldLink RX0 17 "PointColours" "costs" "[I") (by decide +kernel)
  have f20 := hts (.fieldLink RX0 20 "PointColours" "wishes" "[I") (by decide +kernel)
  have hS : va_S (px_B (w0 cI cJ cZ ad pt co gv E G C Wi O IO NI CF)) s.heap s.heap [] := va_S.rf
  generalize hA : px_B (w0 cI cJ cZ ad pt co gv E G C Wi O IO NI CF) = A at hD hS ⊢
  refine lv_aload_n hx hb dX0_startGraph_0 rfl (lv_at hl 0 rfl) ?_
  refine lv_iload_n hx hb dX0_startGraph_1 rfl (lv_at hl 1 rfl) ?_
  refine px_put (ty := .int) (ws' := w0 cI cJ cZ ad x co gv E G C Wi O IO NI CF) hx hb hts hin tyX0 tyX0_ok nmX0 hown hK hP hD hS 0 rfl rfl 0 (by decide) f66 (fun _ h9 => h9) rfl (by decide +kernel) rfl rfl (Nat.le_of_ble_eq_true rfl) rfl dX0_startGraph_2 (fun H locs hP hD hS => ?_)
  refine lv_aload_n hx hb dX0_startGraph_5 rfl (lv_at hl 0 rfl) ?_
  refine lv_iload_n hx hb dX0_startGraph_6 rfl (lv_at hl 2 rfl) ?_
  refine px_put (ty := .int) (ws' := w0 cI cJ cZ ad x y gv E G C Wi O IO NI CF) hx hb hts hin tyX0 tyX0_ok nmX0 hown hK hP hD hS 0 rfl rfl 1 (by decide) f70 (fun _ h9 => h9) rfl (by decide +kernel) rfl rfl (Nat.le_of_ble_eq_true rfl) rfl dX0_startGraph_7 (fun H locs hP hD hS => ?_)
  refine lv_aload_n hx hb dX0_startGraph_10 rfl (lv_at hl 0 rfl) ?_
  refine lv_iconst (v := px_b false) hx hb dX0_startGraph_11 (by decide +kernel) ?_
  refine px_put (ty := .boolean) (ws' := w0 cI cJ cZ ad x y (px_b false) E G C Wi O IO NI CF) hx hb hts hin tyX0 tyX0_ok nmX0 hown hK hP hD hS 0 rfl rfl 2 (by decide) f51 (fun _ h9 => h9) rfl (by decide +kernel) (px_b_nar _) (px_b_fit _) (Nat.le_of_ble_eq_true rfl) rfl dX0_startGraph_12 (fun H locs hP hD hS => ?_)
  refine lv_aload_n hx hb dX0_startGraph_15 rfl (lv_at hl 0 rfl) ?_
  refine va_get (D := D) (ci := 0) (v := .ref (ad 1)) (C := RX0) (T := TX0) (N := 11) hx hb hts hin hown hK hP 0 rfl rfl 3 (by decide) f9 (fun _ h9 => h9) rfl dX0_startGraph_16 ?_
  refine lv_lconst (v := 0) hx hb dX0_startGraph_19 (by decide +kernel) ?_
  refine px_ws (ws' := w0 cI cJ cZ ad x y (px_b false) (fun _ => 0) G C Wi O IO NI CF) (rest := []) S hP hK hD hS 1 rfl (tJ7_fillL (by decide)) (va_cwS 2 hts gX0_startGraph_J7_fill_d0a16 rfl rfl rfl (by decide +kernel) ⟨by decide, by decide⟩) rfl hl.1 rfl (Nat.le_of_ble_eq_true rfl) dX0_startGraph_20 ⟨Nat.zero_le _, Nat.zero_le _⟩ rfl (fun H locs hP hD hS => ?_)
  refine lv_aload_n hx hb dX0_startGraph_23 rfl (lv_at hl 0 rfl) ?_
  refine va_get (D := D) (ci := 0) (v := .ref (ad 2)) (C := RX0) (T := TX0) (N := 11) hx hb hts hin hown hK hP 0 rfl rfl 4 (by decide) f13 (fun _ h9 => h9) rfl dX0_startGraph_24 ?_
  refine lv_iconst (v := nI 0) hx hb dX0_startGraph_27 (by decide +kernel) ?_
  refine px_ws (ws' := w0 cI cJ cZ ad x y (px_b false) (fun _ => 0) (fun _ => nI 0) C Wi O IO NI CF) (rest := []) S hP hK hD hS 2 rfl (tJ7_fillI (by decide)) (va_cwS 2 hts gX0_startGraph_J7_fill_53178 rfl rfl rfl (by decide +kernel) ⟨by decide, by decide⟩) rfl hl.1 rfl (Nat.le_of_ble_eq_true rfl) dX0_startGraph_28 ⟨Nat.zero_le _, Nat.zero_le _⟩ rfl (fun H locs hP hD hS => ?_)
  refine lv_aload_n hx hb dX0_startGraph_31 rfl (lv_at hl 0 rfl) ?_
  refine va_get (D := D) (ci := 0) (v := .ref (ad 3)) (C := RX0) (T := TX0) (N := 11) hx hb hts hin hown hK hP 0 rfl rfl 5 (by decide) f17 (fun _ h9 => h9) rfl dX0_startGraph_32 ?_
  refine lv_iconst (v := nI 0) hx hb dX0_startGraph_35 (by decide +kernel) ?_
  refine px_ws (ws' := w0 cI cJ cZ ad x y (px_b false) (fun _ => 0) (fun _ => nI 0) (fun _ => nI 0) Wi O IO NI CF) (rest := []) S hP hK hD hS 3 rfl (tJ7_fillI (by decide)) (va_cwS 2 hts gX0_startGraph_J7_fill_53178 rfl rfl rfl (by decide +kernel) ⟨by decide, by decide⟩) rfl hl.1 rfl (Nat.le_of_ble_eq_true rfl) dX0_startGraph_36 ⟨Nat.zero_le _, Nat.zero_le _⟩ rfl (fun H locs hP hD hS => ?_)
  refine lv_aload_n hx hb dX0_startGraph_39 rfl (lv_at hl 0 rfl) ?_
  refine va_get (D := D) (ci := 0) (v := .ref (ad 4)) (C := RX0) (T := TX0) (N := 11) hx hb hts hin hown hK hP 0 rfl rfl 6 (by decide) f20 (fun _ h9 => h9) rfl dX0_startGraph_40 ?_
  refine lv_iconst (v := -1) hx hb dX0_startGraph_43 (by decide +kernel) ?_
  refine px_ws (ws' := w0 cI cJ cZ ad x y (px_b false) (fun _ => 0) (fun _ => nI 0) (fun _ => nI 0) (fun _ => -1) O IO NI CF) (rest := []) S hP hK hD hS 4 rfl (tJ7_fillI (by decide)) (va_cwS 2 hts gX0_startGraph_J7_fill_53178 rfl rfl rfl (by decide +kernel) ⟨by decide, by decide⟩) rfl hl.1 rfl (Nat.le_of_ble_eq_true rfl) dX0_startGraph_44 ⟨Nat.zero_le _, Nat.zero_le _⟩ rfl (fun H locs hP hD hS => ?_)
  exact px_ev (wf := fun _ : Unit => w0 cI cJ cZ ad x y (px_b false) (fun _ => 0) (fun _ => nI 0) (fun _ => nI 0) (fun _ => -1) O IO NI CF) hx hb hr hlk hS () trivial hP dX0_startGraph_47
set_option maxHeartbeats 4000000 in
set_option maxRecDepth 100000 in
theorem tX0_begin_no {l : Launch} {D : va_G} {cI cJ cZ : ClassId} {ad : Nat → Nat} {pt co gv : Int32} {E : Nat → Int64} {G C Wi O IO NI CF : Nat → Int32} {x y : Int32} (hno : pm_bg x y = false) : RdI l yX0_begin wsX0_begin (rmd 2) D (tyq cI cJ cZ) [.ref (ad 0), .int x, .int y] (w0 cI cJ cZ ad pt co gv E G C Wi O IO NI CF) (px_b false) := by
  refine px_met (cc := cX0_begin) (maxL := 3) (ret := (some .boolean)) (lv := [(0, .ref (ad 0)), (1, .int x), (2, .int y)]) (by decide +kernel) rfl (Nat.le_of_ble_eq_true rfl) rfl ?_
  intro p e s m below meth c ls S hr hlk hnm hv hl
  obtain ⟨hx, hb, hml, hown, hts⟩ := id S
  obtain ⟨hP, hK⟩ := hv
  refine lv_iload_n hx hb dX0_begin_0 rfl (lv_at hl 1 rfl) ?_
  refine lv_iconst (v := nI 1) hx hb dX0_begin_1 (by decide +kernel) ?_
  refine lv_icmp_lt (tgt := 23) hx hb dX0_begin_2 (by decide) (fun h2 => ?_) (fun h2 => ?_)
  · refine lv_iconst (v := px_b false) hx hb dX0_begin_23 (by decide +kernel) ?_
    exact px_rz hx hb hr hlk rfl dX0_begin_24
  · refine lv_iload_n hx hb dX0_begin_5 rfl (lv_at hl 1 rfl) ?_
    refine lv_sipush (v := nI 200) hx hb dX0_begin_6 (by decide +kernel) ?_
    refine lv_icmp_gt (tgt := 23) hx hb dX0_begin_9 (by decide) (fun h9 => ?_) (fun h9 => ?_)
    · refine lv_iconst (v := px_b false) hx hb dX0_begin_23 (by decide +kernel) ?_
      exact px_rz hx hb hr hlk rfl dX0_begin_24
    · refine lv_iload_n hx hb dX0_begin_12 rfl (lv_at hl 2 rfl) ?_
      refine lv_iconst (v := nI 1) hx hb dX0_begin_13 (by decide +kernel) ?_
      refine lv_icmp_lt (tgt := 23) hx hb dX0_begin_14 (by decide) (fun h14 => ?_) (fun h14 => ?_)
      · refine lv_iconst (v := px_b false) hx hb dX0_begin_23 (by decide +kernel) ?_
        exact px_rz hx hb hr hlk rfl dX0_begin_24
      · refine lv_iload_n hx hb dX0_begin_17 rfl (lv_at hl 2 rfl) ?_
        refine lv_bipush (v := nI 30) hx hb dX0_begin_18 (by decide +kernel) ?_
        refine lv_icmp_le (tgt := 25) hx hb dX0_begin_20 (by decide) (fun h20 => ?_) (fun h20 => ?_)
        · rw [pm_bg_t h2 h9 h14 h20] at hno
          cases hno
        · refine lv_iconst (v := px_b false) hx hb dX0_begin_23 (by decide +kernel) ?_
          exact px_rz hx hb hr hlk rfl dX0_begin_24
set_option maxHeartbeats 4000000 in
set_option maxRecDepth 100000 in
theorem tX0_begin_ok {l : Launch} {D : va_G} {cI cJ cZ : ClassId} {ad : Nat → Nat} {pt co gv : Int32} {E : Nat → Int64} {G C Wi O IO NI CF : Nat → Int32} {i j : Nat} (g1 : 1 ≤ i) (g2 : i ≤ 200) (g3 : 1 ≤ j) (g4 : j ≤ 30) : WrI l yX0_begin wsX0_begin (rmd 2) D (tyq cI cJ cZ) [.ref (ad 0), .int (nI i), .int (nI j)] (w0 cI cJ cZ ad pt co gv E G C Wi O IO NI CF) (S := Unit) (fun r _ => r = px_b true) (fun _ => w0 cI cJ cZ ad (nI i) (nI j) (px_b false) (fun _ => 0) (fun _ => nI 0) (fun _ => nI 0) (fun _ => -1) O IO NI CF) := by
  refine px_met (cc := cX0_begin) (maxL := 3) (ret := (some .boolean)) (lv := [(0, .ref (ad 0)), (1, .int (nI i)), (2, .int (nI j))]) (by decide +kernel) rfl (Nat.le_of_ble_eq_true rfl) rfl ?_
  intro p e s m below meth c ls S hr hlk hnm hv hl
  obtain ⟨hx, hb, hml, hown, hts⟩ := id S
  obtain ⟨hP, hK, hD⟩ := hv
  have hS : va_S (px_B (w0 cI cJ cZ ad pt co gv E G C Wi O IO NI CF)) s.heap s.heap [] := va_S.rf
  generalize hA : px_B (w0 cI cJ cZ ad pt co gv E G C Wi O IO NI CF) = A at hD hS ⊢
  refine lv_iload_n hx hb dX0_begin_0 rfl (lv_at hl 1 rfl) ?_
  refine lv_iconst (v := nI 1) hx hb dX0_begin_1 (by decide +kernel) ?_
  refine px_lt (tgt := 23) hx hb dX0_begin_2 (by decide) (by omega) (by omega) (fun h2 => ?_) (fun h2 => ?_)
  · exact absurd h2 (by omega)
  refine lv_iload_n hx hb dX0_begin_5 rfl (lv_at hl 1 rfl) ?_
  refine lv_sipush (v := nI 200) hx hb dX0_begin_6 (by decide +kernel) ?_
  refine px_gt (tgt := 23) hx hb dX0_begin_9 (by decide) (by omega) (by omega) (fun h9 => ?_) (fun h9 => ?_)
  · exact absurd h9 (by omega)
  refine lv_iload_n hx hb dX0_begin_12 rfl (lv_at hl 2 rfl) ?_
  refine lv_iconst (v := nI 1) hx hb dX0_begin_13 (by decide +kernel) ?_
  refine px_lt (tgt := 23) hx hb dX0_begin_14 (by decide) (by omega) (by omega) (fun h14 => ?_) (fun h14 => ?_)
  · exact absurd h14 (by omega)
  refine lv_iload_n hx hb dX0_begin_17 rfl (lv_at hl 2 rfl) ?_
  refine lv_bipush (v := nI 30) hx hb dX0_begin_18 (by decide +kernel) ?_
  refine px_le (tgt := 25) hx hb dX0_begin_20 (by decide) (by omega) (by omega) (fun h20 => ?_) (fun h20 => ?_)
  rotate_left
  · exact absurd h20 (by omega)
  refine lv_aload_n hx hb dX0_begin_25 rfl (lv_at hl 0 rfl) ?_
  refine lv_iload_n hx hb dX0_begin_26 rfl (lv_at hl 1 rfl) ?_
  refine lv_iload_n hx hb dX0_begin_27 rfl (lv_at hl 2 rfl) ?_
  refine px_wv (ci := 0) (q := (RX0, TX0, 11)) (rest := []) S hP hK hD hS (tX0_startGraph (nI i) (nI j)) (fun _ => w0_same) (cwV 2 hts gX0_begin_X0_startGraph rfl rfl rfl (by decide +kernel) ⟨by decide, by decide⟩) rfl rfl rfl hl.1 rfl (Nat.le_of_ble_eq_true rfl) dX0_begin_28 ⟨Nat.zero_le _, Nat.zero_le _⟩ (fun _ H locs _ hP hD hS _ => ?_)
  have hP : va_P D vwCl (w0 cI cJ cZ ad (nI i) (nI j) (px_b false) (fun _ => 0) (fun _ => nI 0) (fun _ => nI 0) (fun _ => -1) O IO NI CF) H := hP
  have hD : va_D A (w0 cI cJ cZ ad (nI i) (nI j) (px_b false) (fun _ => 0) (fun _ => nI 0) (fun _ => nI 0) (fun _ => -1) O IO NI CF) := hD
  refine lv_iconst (v := px_b true) hx hb dX0_begin_31 (by decide +kernel) ?_
  exact px_ez (post := fun r (_ : Unit) => r = px_b true) (wf := fun _ : Unit => w0 cI cJ cZ ad (nI i) (nI j) (px_b false) (fun _ => 0) (fun _ => nI 0) (fun _ => nI 0) (fun _ => -1) O IO NI CF) hx hb hr hlk hS () rfl hP dX0_begin_32
set_option maxHeartbeats 4000000 in
set_option maxRecDepth 100000 in
theorem tX0_addNeighbour {l : Launch} {D : va_G} {cI cJ cZ : ClassId} {ad : Nat → Nat} {pt co gv : Int32} {E : Nat → Int64} {G C Wi O IO NI CF : Nat → Int32} (a b : Nat) (h1 : a < 200) (h2 : b < 200) : WrV l yX0_addNeighbour wsX0_addNeighbour (rmd 1) D (tyq cI cJ cZ) [.ref (ad 0), .int (nI a), .int (nI b)] (w0 cI cJ cZ ad pt co gv E G C Wi O IO NI CF) (S := Unit) (fun _ => True) (fun _ => w0 cI cJ cZ ad pt co gv (vp_updL E (a * 4 + b / 64) (E (a * 4 + b / 64) ||| pm_bit b)) (upd G a (G a + nI 1)) C Wi O IO NI CF) := by
  refine px_met (cc := cX0_addNeighbour) (maxL := 3) (ret := none) (lv := [(0, .ref (ad 0)), (1, .int (nI a)), (2, .int (nI b))]) (by decide +kernel) rfl (Nat.le_of_ble_eq_true rfl) rfl ?_
  intro p e s m below meth c ls S hr hlk hnm hv hl
  obtain ⟨hx, hb, hml, hown, hts⟩ := id S
  obtain ⟨hP, hK, hD⟩ := hv
  have hin : ∀ w ∈ wsX00, w ∈ wsX0_addNeighbour := fun w h => List.mem_cons_of_mem _ (List.mem_append_right _ h)
  have f9 := hts (.fieldLink RX0 9 "PointColours" "edges" "[J") (by decide +kernel)
  have f13 := hts (.fieldLink RX0 13 "PointColours" "degrees" "[I") (by decide +kernel)
  have hS : va_S (px_B (w0 cI cJ cZ ad pt co gv E G C Wi O IO NI CF)) s.heap s.heap [] := va_S.rf
  generalize hA : px_B (w0 cI cJ cZ ad pt co gv E G C Wi O IO NI CF) = A at hD hS ⊢
  refine lv_aload_n hx hb dX0_addNeighbour_0 rfl (lv_at hl 0 rfl) ?_
  refine va_get (D := D) (ci := 0) (v := .ref (ad 1)) (C := RX0) (T := TX0) (N := 11) hx hb hts hin hown hK hP 0 rfl rfl 3 (by decide) f9 (fun _ h9 => h9) rfl dX0_addNeighbour_1 ?_
  refine lv_iload_n hx hb dX0_addNeighbour_4 rfl (lv_at hl 1 rfl) ?_
  refine lv_iload_n hx hb dX0_addNeighbour_5 rfl (lv_at hl 2 rfl) ?_
  refine px_pu (v := nI (a * 4 + b / 64)) (rest := [.ref (ad 1)]) S (tX0_wordOf a b (by omega)) (va_cwS 2 hts gX0_addNeighbour_X0_wordOf rfl rfl rfl (by decide +kernel) ⟨by decide, by decide⟩) rfl hl.1 rfl (Nat.le_of_ble_eq_true rfl) dX0_addNeighbour_6 ⟨Nat.zero_le _, Nat.zero_le _⟩ ?_
  refine lv_dup2_11 hx hb dX0_addNeighbour_9 rfl rfl ?_
  refine px_lald (n := 800) (i := (a * 4 + b / 64)) hx hb hK hP 1 1 rfl rfl (by omega) (by decide) dX0_addNeighbour_10 ?_
  refine lv_iload_n hx hb dX0_addNeighbour_11 rfl (lv_at hl 2 rfl) ?_
  refine px_pl (v := pm_bit b) (rest := [.long (E (a * 4 + b / 64)), .int (nI (a * 4 + b / 64)), .ref (ad 1)]) S (tX0_bitOf b (by omega)) (va_cwS 1 hts gX0_addNeighbour_X0_bitOf rfl rfl rfl (by decide +kernel) ⟨by decide, by decide⟩) rfl hl.1 rfl (Nat.le_of_ble_eq_true rfl) dX0_addNeighbour_12 ⟨Nat.zero_le _, Nat.zero_le _⟩ ?_
  refine lv_lor hx hb dX0_addNeighbour_15 ?_
  refine px_last (n := 800) (i := (a * 4 + b / 64)) (ws' := w0 cI cJ cZ ad pt co gv (vp_updL E (a * 4 + b / 64) ((E (a * 4 + b / 64)) ||| (pm_bit b))) G C Wi O IO NI CF) hx hb hK hP hD hS 1 1 rfl rfl (by omega) (by decide) rfl dX0_addNeighbour_16 (fun H locs hP hD hS => ?_)
  refine lv_aload_n hx hb dX0_addNeighbour_17 rfl (lv_at hl 0 rfl) ?_
  refine va_get (D := D) (ci := 0) (v := .ref (ad 2)) (C := RX0) (T := TX0) (N := 11) hx hb hts hin hown hK hP 0 rfl rfl 4 (by decide) f13 (fun _ h9 => h9) rfl dX0_addNeighbour_18 ?_
  refine lv_iload_n hx hb dX0_addNeighbour_21 rfl (lv_at hl 1 rfl) ?_
  refine lv_dup2_11 hx hb dX0_addNeighbour_22 rfl rfl ?_
  refine px_iald (n := 200) (i := a) hx hb hK hP 2 0 rfl rfl (by omega) (by decide) dX0_addNeighbour_23 ?_
  refine lv_iconst (v := nI 1) hx hb dX0_addNeighbour_24 (by decide +kernel) ?_
  refine lv_iadd hx hb dX0_addNeighbour_25 ?_
  refine px_iast (n := 200) (i := a) (ws' := w0 cI cJ cZ ad pt co gv (vp_updL E (a * 4 + b / 64) ((E (a * 4 + b / 64)) ||| (pm_bit b))) (upd G a ((G a) + (nI 1))) C Wi O IO NI CF) hx hb hK hP hD hS 2 0 rfl rfl (by omega) (by decide) rfl dX0_addNeighbour_26 (fun H locs hP hD hS => ?_)
  exact px_ev (wf := fun _ : Unit => w0 cI cJ cZ ad pt co gv (vp_updL E (a * 4 + b / 64) (E (a * 4 + b / 64) ||| pm_bit b)) (upd G a (G a + nI 1)) C Wi O IO NI CF) hx hb hr hlk hS () trivial hP dX0_addNeighbour_27
set_option maxHeartbeats 4000000 in
set_option maxRecDepth 100000 in
theorem tX0_join_ok {l : Launch} {D : va_G} {cI cJ cZ : ClassId} {ad : Nat → Nat} {n k : Nat} {gv : Int32} {E : Nat → Int64} {G C Wi O IO NI CF : Nat → Int32} (J : Nat → Nat → Bool) (hJ : ∀ a b, a < 200 → b < 200 → pm_ed E a b = J a b) (hn : n ≤ 200) (a b : Nat) (ha : a < n) (hb2 : b < n) (hab : a ≠ b) (hnJ : J a b = false) : WrI l yX0_join wsX0_join (rmd 2) D (tyq cI cJ cZ) [.ref (ad 0), .int (nI a), .int (nI b)] (w0 cI cJ cZ ad (nI n) (nI k) gv E G C Wi O IO NI CF) (S := Unit) (fun r _ => r = px_b true) (fun _ => w0 cI cJ cZ ad (nI n) (nI k) (px_b false) (vp_updL (vp_updL E (a * 4 + b / 64) (E (a * 4 + b / 64) ||| pm_bit b)) (b * 4 + a / 64) ((vp_updL E (a * 4 + b / 64) (E (a * 4 + b / 64) ||| pm_bit b)) (b * 4 + a / 64) ||| pm_bit a)) (upd (upd G a (G a + nI 1)) b ((upd G a (G a + nI 1)) b + nI 1)) C Wi O IO NI CF) := by
  refine px_met (cc := cX0_join) (maxL := 3) (ret := (some .boolean)) (lv := [(0, .ref (ad 0)), (1, .int (nI a)), (2, .int (nI b))]) (by decide +kernel) rfl (Nat.le_of_ble_eq_true rfl) rfl ?_
  intro p e s m below meth c ls S hr hlk hnm hv hl
  obtain ⟨hx, hb, hml, hown, hts⟩ := id S
  obtain ⟨hP, hK, hD⟩ := hv
  have hin : ∀ w ∈ wsX00, w ∈ wsX0_join := fun w h => List.mem_cons_of_mem _ (List.mem_append_right _ h)
  have f51 := hts (.fieldLink RX0 51 "PointColours" "given" "Z") (by decide +kernel)
  have hS : va_S (px_B (w0 cI cJ cZ ad (nI n) (nI k) gv E G C Wi O IO NI CF)) s.heap s.heap [] := va_S.rf
  generalize hA : px_B (w0 cI cJ cZ ad (nI n) (nI k) gv E G C Wi O IO NI CF) = A at hD hS ⊢
  refine lv_aload_n hx hb dX0_join_0 rfl (lv_at hl 0 rfl) ?_
  refine lv_iload_n hx hb dX0_join_1 rfl (lv_at hl 1 rfl) ?_
  refine px_rd (ci := 0) (q := (RX0, TX0, 11)) (v := px_b (pm_pt n (nI a))) (rest := []) S hP hK (tX0_isPoint (by omega) (nI a)) (cwV 1 hts gX0_join_X0_isPoint rfl rfl rfl (by decide +kernel) ⟨by decide, by decide⟩) rfl rfl rfl hl.1 rfl (Nat.le_of_ble_eq_true rfl) dX0_join_2 ⟨Nat.zero_le _, Nat.zero_le _⟩ ?_
  refine px_eqb (tgt := 30) hx hb dX0_join_5 (by decide) (fun h5 => ?_) (fun h5 => ?_)
  · exact absurd h5 (by rw [pm_pt_nI (by omega)]; simp; omega)
  refine lv_aload_n hx hb dX0_join_8 rfl (lv_at hl 0 rfl) ?_
  refine lv_iload_n hx hb dX0_join_9 rfl (lv_at hl 2 rfl) ?_
  refine px_rd (ci := 0) (q := (RX0, TX0, 11)) (v := px_b (pm_pt n (nI b))) (rest := []) S hP hK (tX0_isPoint (by omega) (nI b)) (cwV 1 hts gX0_join_X0_isPoint rfl rfl rfl (by decide +kernel) ⟨by decide, by decide⟩) rfl rfl rfl hl.1 rfl (Nat.le_of_ble_eq_true rfl) dX0_join_10 ⟨Nat.zero_le _, Nat.zero_le _⟩ ?_
  refine px_eqb (tgt := 30) hx hb dX0_join_13 (by decide) (fun h13 => ?_) (fun h13 => ?_)
  · exact absurd h13 (by rw [pm_pt_nI (by omega)]; simp; omega)
  refine lv_iload_n hx hb dX0_join_16 rfl (lv_at hl 1 rfl) ?_
  refine lv_iload_n hx hb dX0_join_17 rfl (lv_at hl 2 rfl) ?_
  refine px_eq (tgt := 30) hx hb dX0_join_18 (by decide) (by omega) (by omega) (fun h18 => ?_) (fun h18 => ?_)
  · exact absurd h18 hab
  refine lv_aload_n hx hb dX0_join_21 rfl (lv_at hl 0 rfl) ?_
  refine lv_iload_n hx hb dX0_join_22 rfl (lv_at hl 1 rfl) ?_
  refine lv_iload_n hx hb dX0_join_23 rfl (lv_at hl 2 rfl) ?_
  refine px_rd (ci := 0) (q := (RX0, TX0, 11)) (v := px_b (J a b)) (rest := []) S hP hK (tX0_hasEdge J hJ a b (by omega) (by omega)) (cwV 2 hts gX0_join_X0_hasEdge rfl rfl rfl (by decide +kernel) ⟨by decide, by decide⟩) rfl rfl rfl hl.1 rfl (Nat.le_of_ble_eq_true rfl) dX0_join_24 ⟨Nat.zero_le _, Nat.zero_le _⟩ ?_
  refine px_eqb (tgt := 32) hx hb dX0_join_27 (by decide) (fun h27 => ?_) (fun h27 => ?_)
  rotate_left
  · exact absurd h27 (by rw [hnJ]; decide)
  refine lv_aload_n hx hb dX0_join_32 rfl (lv_at hl 0 rfl) ?_
  refine lv_iload_n hx hb dX0_join_33 rfl (lv_at hl 1 rfl) ?_
  refine lv_iload_n hx hb dX0_join_34 rfl (lv_at hl 2 rfl) ?_
  refine px_wv (ci := 0) (q := (RX0, TX0, 11)) (rest := []) S hP hK hD hS (tX0_addNeighbour a b (by omega) (by omega)) (fun _ => w0_same) (cwV 2 hts gX0_join_X0_addNeighbour rfl rfl rfl (by decide +kernel) ⟨by decide, by decide⟩) rfl rfl rfl hl.1 rfl (Nat.le_of_ble_eq_true rfl) dX0_join_35 ⟨Nat.zero_le _, Nat.zero_le _⟩ (fun _ H locs _ hP hD hS _ => ?_)
  have hP : va_P D vwCl (w0 cI cJ cZ ad (nI n) (nI k) gv (vp_updL E (a * 4 + b / 64) (E (a * 4 + b / 64) ||| pm_bit b)) (upd G a (G a + nI 1)) C Wi O IO NI CF) H := hP
  have hD : va_D A (w0 cI cJ cZ ad (nI n) (nI k) gv (vp_updL E (a * 4 + b / 64) (E (a * 4 + b / 64) ||| pm_bit b)) (upd G a (G a + nI 1)) C Wi O IO NI CF) := hD
  refine lv_aload_n hx hb dX0_join_38 rfl (lv_at hl 0 rfl) ?_
  refine lv_iload_n hx hb dX0_join_39 rfl (lv_at hl 2 rfl) ?_
  refine lv_iload_n hx hb dX0_join_40 rfl (lv_at hl 1 rfl) ?_
  refine px_wv (ci := 0) (q := (RX0, TX0, 11)) (rest := []) S hP hK hD hS (tX0_addNeighbour b a (by omega) (by omega)) (fun _ => w0_same) (cwV 2 hts gX0_join_X0_addNeighbour rfl rfl rfl (by decide +kernel) ⟨by decide, by decide⟩) rfl rfl rfl hl.1 rfl (Nat.le_of_ble_eq_true rfl) dX0_join_41 ⟨Nat.zero_le _, Nat.zero_le _⟩ (fun _ H locs _ hP hD hS _ => ?_)
  have hP : va_P D vwCl (w0 cI cJ cZ ad (nI n) (nI k) gv (vp_updL (vp_updL E (a * 4 + b / 64) (E (a * 4 + b / 64) ||| pm_bit b)) (b * 4 + a / 64) ((vp_updL E (a * 4 + b / 64) (E (a * 4 + b / 64) ||| pm_bit b)) (b * 4 + a / 64) ||| pm_bit a)) (upd (upd G a (G a + nI 1)) b ((upd G a (G a + nI 1)) b + nI 1)) C Wi O IO NI CF) H := hP
  have hD : va_D A (w0 cI cJ cZ ad (nI n) (nI k) gv (vp_updL (vp_updL E (a * 4 + b / 64) (E (a * 4 + b / 64) ||| pm_bit b)) (b * 4 + a / 64) ((vp_updL E (a * 4 + b / 64) (E (a * 4 + b / 64) ||| pm_bit b)) (b * 4 + a / 64) ||| pm_bit a)) (upd (upd G a (G a + nI 1)) b ((upd G a (G a + nI 1)) b + nI 1)) C Wi O IO NI CF) := hD
  refine lv_aload_n hx hb dX0_join_44 rfl (lv_at hl 0 rfl) ?_
  refine lv_iconst (v := px_b false) hx hb dX0_join_45 (by decide +kernel) ?_
  refine px_put (ty := .boolean) (ws' := w0 cI cJ cZ ad (nI n) (nI k) (px_b false) (vp_updL (vp_updL E (a * 4 + b / 64) (E (a * 4 + b / 64) ||| pm_bit b)) (b * 4 + a / 64) ((vp_updL E (a * 4 + b / 64) (E (a * 4 + b / 64) ||| pm_bit b)) (b * 4 + a / 64) ||| pm_bit a)) (upd (upd G a (G a + nI 1)) b ((upd G a (G a + nI 1)) b + nI 1)) C Wi O IO NI CF) hx hb hts hin tyX0 tyX0_ok nmX0 hown hK hP hD hS 0 rfl rfl 2 (by decide) f51 (fun _ h9 => h9) rfl (by decide +kernel) (px_b_nar _) (px_b_fit _) (Nat.le_of_ble_eq_true rfl) rfl dX0_join_46 (fun H locs hP hD hS => ?_)
  refine lv_iconst (v := px_b true) hx hb dX0_join_49 (by decide +kernel) ?_
  exact px_ez (post := fun r (_ : Unit) => r = px_b true) (wf := fun _ : Unit => w0 cI cJ cZ ad (nI n) (nI k) (px_b false) (vp_updL (vp_updL E (a * 4 + b / 64) (E (a * 4 + b / 64) ||| pm_bit b)) (b * 4 + a / 64) ((vp_updL E (a * 4 + b / 64) (E (a * 4 + b / 64) ||| pm_bit b)) (b * 4 + a / 64) ||| pm_bit a)) (upd (upd G a (G a + nI 1)) b ((upd G a (G a + nI 1)) b + nI 1)) C Wi O IO NI CF) hx hb hr hlk hS () rfl hP dX0_join_50
set_option maxHeartbeats 4000000 in
set_option maxRecDepth 100000 in
theorem tX0_join_no {l : Launch} {D : va_G} {cI cJ cZ : ClassId} {ad : Nat → Nat} {n k : Nat} {gv : Int32} {E : Nat → Int64} {G C Wi O IO NI CF : Nat → Int32} (J : Nat → Nat → Bool) (hJ : ∀ a b, a < 200 → b < 200 → pm_ed E a b = J a b) (hn : n ≤ 200) {a b : Int32} (hno : pm_jn n J a b = false) : RdI l yX0_join wsX0_join (rmd 2) D (tyq cI cJ cZ) [.ref (ad 0), .int a, .int b] (w0 cI cJ cZ ad (nI n) (nI k) gv E G C Wi O IO NI CF) (px_b false) := by
  refine px_met (cc := cX0_join) (maxL := 3) (ret := (some .boolean)) (lv := [(0, .ref (ad 0)), (1, .int a), (2, .int b)]) (by decide +kernel) rfl (Nat.le_of_ble_eq_true rfl) rfl ?_
  intro p e s m below meth c ls S hr hlk hnm hv hl
  obtain ⟨hx, hb, hml, hown, hts⟩ := id S
  obtain ⟨hP, hK⟩ := hv
  have hin : ∀ w ∈ wsX00, w ∈ wsX0_join := fun w h => List.mem_cons_of_mem _ (List.mem_append_right _ h)
  have f51 := hts (.fieldLink RX0 51 "PointColours" "given" "Z") (by decide +kernel)
  refine lv_aload_n hx hb dX0_join_0 rfl (lv_at hl 0 rfl) ?_
  refine lv_iload_n hx hb dX0_join_1 rfl (lv_at hl 1 rfl) ?_
  refine px_rd (ci := 0) (q := (RX0, TX0, 11)) (v := px_b (pm_pt n a)) (rest := []) S hP hK (tX0_isPoint (by omega) a) (cwV 1 hts gX0_join_X0_isPoint rfl rfl rfl (by decide +kernel) ⟨by decide, by decide⟩) rfl rfl rfl hl.1 rfl (Nat.le_of_ble_eq_true rfl) dX0_join_2 ⟨Nat.zero_le _, Nat.zero_le _⟩ ?_
  refine px_eqb (tgt := 30) hx hb dX0_join_5 (by decide) (fun h5 => ?_) (fun h5 => ?_)
  · refine lv_iconst (v := px_b false) hx hb dX0_join_30 (by decide +kernel) ?_
    exact px_rz hx hb hr hlk rfl dX0_join_31
  · refine lv_aload_n hx hb dX0_join_8 rfl (lv_at hl 0 rfl) ?_
    refine lv_iload_n hx hb dX0_join_9 rfl (lv_at hl 2 rfl) ?_
    refine px_rd (ci := 0) (q := (RX0, TX0, 11)) (v := px_b (pm_pt n b)) (rest := []) S hP hK (tX0_isPoint (by omega) b) (cwV 1 hts gX0_join_X0_isPoint rfl rfl rfl (by decide +kernel) ⟨by decide, by decide⟩) rfl rfl rfl hl.1 rfl (Nat.le_of_ble_eq_true rfl) dX0_join_10 ⟨Nat.zero_le _, Nat.zero_le _⟩ ?_
    refine px_eqb (tgt := 30) hx hb dX0_join_13 (by decide) (fun h13 => ?_) (fun h13 => ?_)
    · refine lv_iconst (v := px_b false) hx hb dX0_join_30 (by decide +kernel) ?_
      exact px_rz hx hb hr hlk rfl dX0_join_31
    · obtain ⟨i, hi, rfl⟩ := pm_pt_of (by omega) h5
      obtain ⟨j, hj, rfl⟩ := pm_pt_of (by omega) h13
      refine lv_iload_n hx hb dX0_join_16 rfl (lv_at hl 1 rfl) ?_
      refine lv_iload_n hx hb dX0_join_17 rfl (lv_at hl 2 rfl) ?_
      refine px_eq (tgt := 30) hx hb dX0_join_18 (by decide) (by omega) (by omega) (fun h18 => ?_) (fun h18 => ?_)
      · refine lv_iconst (v := px_b false) hx hb dX0_join_30 (by decide +kernel) ?_
        exact px_rz hx hb hr hlk rfl dX0_join_31
      · refine lv_aload_n hx hb dX0_join_21 rfl (lv_at hl 0 rfl) ?_
        refine lv_iload_n hx hb dX0_join_22 rfl (lv_at hl 1 rfl) ?_
        refine lv_iload_n hx hb dX0_join_23 rfl (lv_at hl 2 rfl) ?_
        refine px_rd (ci := 0) (q := (RX0, TX0, 11)) (v := px_b (J i j)) (rest := []) S hP hK (tX0_hasEdge J hJ i j (by omega) (by omega)) (cwV 2 hts gX0_join_X0_hasEdge rfl rfl rfl (by decide +kernel) ⟨by decide, by decide⟩) rfl rfl rfl hl.1 rfl (Nat.le_of_ble_eq_true rfl) dX0_join_24 ⟨Nat.zero_le _, Nat.zero_le _⟩ ?_
        refine px_eqb (tgt := 32) hx hb dX0_join_27 (by decide) (fun h27 => ?_) (fun h27 => ?_)
        · exact absurd hno (by simp [pm_jn, pm_pt_nI (show i < 2 ^ 31 by omega), pm_pt_nI (show j < 2 ^ 31 by omega), hi, hj, nI_eq (show i < 2 ^ 31 by omega) (show j < 2 ^ 31 by omega), h18, nI_clamp (show i < 2 ^ 31 by omega), nI_clamp (show j < 2 ^ 31 by omega), h27])
        · refine lv_iconst (v := px_b false) hx hb dX0_join_30 (by decide +kernel) ?_
          exact px_rz hx hb hr hlk rfl dX0_join_31
set_option maxHeartbeats 4000000 in
set_option maxRecDepth 100000 in
theorem tX0_cost_no {l : Launch} {D : va_G} {cI cJ cZ : ClassId} {ad : Nat → Nat} {n k : Nat} {gv : Int32} {E : Nat → Int64} {G C Wi O IO NI CF : Nat → Int32} (hn : n ≤ 200) {a x : Int32} (hno : pm_co n a x = false) : RdI l yX0_cost wsX0_cost (rmd 1) D (tyq cI cJ cZ) [.ref (ad 0), .int a, .int x] (w0 cI cJ cZ ad (nI n) (nI k) gv E G C Wi O IO NI CF) (px_b false) := by
  refine px_met (cc := cX0_cost) (maxL := 3) (ret := (some .boolean)) (lv := [(0, .ref (ad 0)), (1, .int a), (2, .int x)]) (by decide +kernel) rfl (Nat.le_of_ble_eq_true rfl) rfl ?_
  intro p e s m below meth c ls S hr hlk hnm hv hl
  obtain ⟨hx, hb, hml, hown, hts⟩ := id S
  obtain ⟨hP, hK⟩ := hv
  have hin : ∀ w ∈ wsX00, w ∈ wsX0_cost := fun w h => List.mem_cons_of_mem _ (List.mem_append_right _ h)
  have f17 := hts (.fieldLink RX0 17 "PointColours" "costs" "[I") (by decide +kernel)
  have f51 := hts (.fieldLink RX0 51 "PointColours" "given" "Z") (by decide +kernel)
  refine lv_aload_n hx hb dX0_cost_0 rfl (lv_at hl 0 rfl) ?_
  refine lv_iload_n hx hb dX0_cost_1 rfl (lv_at hl 1 rfl) ?_
  refine px_rd (ci := 0) (q := (RX0, TX0, 11)) (v := px_b (pm_pt n a)) (rest := []) S hP hK (tX0_isPoint (by omega) a) (cwV 1 hts gX0_cost_X0_isPoint rfl rfl rfl (by decide +kernel) ⟨by decide, by decide⟩) rfl rfl rfl hl.1 rfl (Nat.le_of_ble_eq_true rfl) dX0_cost_2 ⟨Nat.zero_le _, Nat.zero_le _⟩ ?_
  refine px_eqb (tgt := 18) hx hb dX0_cost_5 (by decide) (fun h5 => ?_) (fun h5 => ?_)
  · refine lv_iconst (v := px_b false) hx hb dX0_cost_18 (by decide +kernel) ?_
    exact px_rz hx hb hr hlk rfl dX0_cost_19
  · refine lv_iload_n hx hb dX0_cost_8 rfl (lv_at hl 2 rfl) ?_
    refine lv_if_lt (tgt := 18) hx hb dX0_cost_9 (by decide) (fun h9 => ?_) (fun h9 => ?_)
    · refine lv_iconst (v := px_b false) hx hb dX0_cost_18 (by decide +kernel) ?_
      exact px_rz hx hb hr hlk rfl dX0_cost_19
    · refine lv_iload_n hx hb dX0_cost_12 rfl (lv_at hl 2 rfl) ?_
      refine lv_ldc (v := 1000000) hx hb hown (hts (.constant RX0 55 (1000000)) (by decide +kernel)) dX0_cost_13 ?_
      refine lv_icmp_le (tgt := 20) hx hb dX0_cost_15 (by decide) (fun h15 => ?_) (fun h15 => ?_)
      · rw [pm_co_t h5 h9 h15] at hno
        cases hno
      · refine lv_iconst (v := px_b false) hx hb dX0_cost_18 (by decide +kernel) ?_
        exact px_rz hx hb hr hlk rfl dX0_cost_19
set_option maxHeartbeats 4000000 in
set_option maxRecDepth 100000 in
theorem tX0_cost_ok {l : Launch} {D : va_G} {cI cJ cZ : ClassId} {ad : Nat → Nat} {n k : Nat} {gv : Int32} {E : Nat → Int64} {G C Wi O IO NI CF : Nat → Int32} (hn : n ≤ 200) (a x : Nat) (ha : a < n) (hc : x ≤ 1000000) : WrI l yX0_cost wsX0_cost (rmd 1) D (tyq cI cJ cZ) [.ref (ad 0), .int (nI a), .int (nI x)] (w0 cI cJ cZ ad (nI n) (nI k) gv E G C Wi O IO NI CF) (S := Unit) (fun r _ => r = px_b true) (fun _ => w0 cI cJ cZ ad (nI n) (nI k) (px_b false) E G (upd C a (nI x)) Wi O IO NI CF) := by
  refine px_met (cc := cX0_cost) (maxL := 3) (ret := (some .boolean)) (lv := [(0, .ref (ad 0)), (1, .int (nI a)), (2, .int (nI x))]) (by decide +kernel) rfl (Nat.le_of_ble_eq_true rfl) rfl ?_
  intro p e s m below meth c ls S hr hlk hnm hv hl
  obtain ⟨hx, hb, hml, hown, hts⟩ := id S
  obtain ⟨hP, hK, hD⟩ := hv
  have hin : ∀ w ∈ wsX00, w ∈ wsX0_cost := fun w h => List.mem_cons_of_mem _ (List.mem_append_right _ h)
  have f17 := hts (.fieldLink RX0 17 "PointColours" "costs" "[I") (by decide +kernel)
  have f51 := hts (.fieldLink RX0 51 "PointColours" "given" "Z") (by decide +kernel)
  have hS : va_S (px_B (w0 cI cJ cZ ad (nI n) (nI k) gv E G C Wi O IO NI CF)) s.heap s.heap [] := va_S.rf
  generalize hA : px_B (w0 cI cJ cZ ad (nI n) (nI k) gv E G C Wi O IO NI CF) = A at hD hS ⊢
  refine lv_aload_n hx hb dX0_cost_0 rfl (lv_at hl 0 rfl) ?_
  refine lv_iload_n hx hb dX0_cost_1 rfl (lv_at hl 1 rfl) ?_
  refine px_rd (ci := 0) (q := (RX0, TX0, 11)) (v := px_b (pm_pt n (nI a))) (rest := []) S hP hK (tX0_isPoint (by omega) (nI a)) (cwV 1 hts gX0_cost_X0_isPoint rfl rfl rfl (by decide +kernel) ⟨by decide, by decide⟩) rfl rfl rfl hl.1 rfl (Nat.le_of_ble_eq_true rfl) dX0_cost_2 ⟨Nat.zero_le _, Nat.zero_le _⟩ ?_
  refine px_eqb (tgt := 18) hx hb dX0_cost_5 (by decide) (fun h5 => ?_) (fun h5 => ?_)
  · exact absurd h5 (by rw [pm_pt_nI (by omega)]; simp; omega)
  refine lv_iload_n hx hb dX0_cost_8 rfl (lv_at hl 2 rfl) ?_
  refine lv_if_lt (tgt := 18) hx hb dX0_cost_9 (by decide) (fun h9 => ?_) (fun h9 => ?_)
  · exact absurd h9 (nI_pos (by omega))
  refine lv_iload_n hx hb dX0_cost_12 rfl (lv_at hl 2 rfl) ?_
  refine lv_ldc (v := 1000000) hx hb hown (hts (.constant RX0 55 (1000000)) (by decide +kernel)) dX0_cost_13 ?_
  refine W.eq (g2 := F0 m 15 ls (.int (nI 1000000) :: [.int (nI x)])) rfl ?_
  refine px_le (tgt := 20) hx hb dX0_cost_15 (by decide) (by omega) (by omega) (fun h15 => ?_) (fun h15 => ?_)
  rotate_left
  · exact absurd h15 (by omega)
  refine lv_aload_n hx hb dX0_cost_20 rfl (lv_at hl 0 rfl) ?_
  refine va_get (D := D) (ci := 0) (v := .ref (ad 3)) (C := RX0) (T := TX0) (N := 11) hx hb hts hin hown hK hP 0 rfl rfl 5 (by decide) f17 (fun _ h9 => h9) rfl dX0_cost_21 ?_
  refine lv_iload_n hx hb dX0_cost_24 rfl (lv_at hl 1 rfl) ?_
  refine lv_iload_n hx hb dX0_cost_25 rfl (lv_at hl 2 rfl) ?_
  refine px_iast (n := 200) (i := a) (ws' := w0 cI cJ cZ ad (nI n) (nI k) gv E G (upd C a (nI x)) Wi O IO NI CF) hx hb hK hP hD hS 3 0 rfl rfl (by omega) (by decide) rfl dX0_cost_26 (fun H locs hP hD hS => ?_)
  refine lv_aload_n hx hb dX0_cost_27 rfl (lv_at hl 0 rfl) ?_
  refine lv_iconst (v := px_b false) hx hb dX0_cost_28 (by decide +kernel) ?_
  refine px_put (ty := .boolean) (ws' := w0 cI cJ cZ ad (nI n) (nI k) (px_b false) E G (upd C a (nI x)) Wi O IO NI CF) hx hb hts hin tyX0 tyX0_ok nmX0 hown hK hP hD hS 0 rfl rfl 2 (by decide) f51 (fun _ h9 => h9) rfl (by decide +kernel) (px_b_nar _) (px_b_fit _) (Nat.le_of_ble_eq_true rfl) rfl dX0_cost_29 (fun H locs hP hD hS => ?_)
  refine lv_iconst (v := px_b true) hx hb dX0_cost_32 (by decide +kernel) ?_
  exact px_ez (post := fun r (_ : Unit) => r = px_b true) (wf := fun _ : Unit => w0 cI cJ cZ ad (nI n) (nI k) (px_b false) E G (upd C a (nI x)) Wi O IO NI CF) hx hb hr hlk hS () rfl hP dX0_cost_33
set_option maxHeartbeats 4000000 in
set_option maxRecDepth 100000 in
theorem tX1_cost_no {l : Launch} {D : va_G} {cI cJ cZ : ClassId} {bd : Nat → Nat} {n k : Nat} {gv : Int32} {PA C Wi CO RW IN : Nat → Int32} (hn : n ≤ 200) {a x : Int32} (hno : pm_co n a x = false) : RdI l yX1_cost wsX1_cost (rmd 1) D (tyq cI cJ cZ) [.ref (bd 0), .int a, .int x] (w1 cI cZ bd (nI n) (nI k) gv PA C Wi CO RW IN) (px_b false) := by
  refine px_met (cc := cX1_cost) (maxL := 3) (ret := (some .boolean)) (lv := [(0, .ref (bd 0)), (1, .int a), (2, .int x)]) (by decide +kernel) rfl (Nat.le_of_ble_eq_true rfl) rfl ?_
  intro p e s m below meth c ls S hr hlk hnm hv hl
  obtain ⟨hx, hb, hml, hown, hts⟩ := id S
  obtain ⟨hP, hK⟩ := hv
  have hin : ∀ w ∈ wsX10, w ∈ wsX1_cost := fun w h => List.mem_cons_of_mem _ (List.mem_append_right _ h)
  have f14 := hts (.fieldLink RX1 14 "PointColoursModel" "costs" "[I") (by decide +kernel)
  have f41 := hts (.fieldLink RX1 41 "PointColoursModel" "given" "Z") (by decide +kernel)
  refine lv_aload_n hx hb dX1_cost_0 rfl (lv_at hl 0 rfl) ?_
  refine lv_iload_n hx hb dX1_cost_1 rfl (lv_at hl 1 rfl) ?_
  refine px_rd (ci := 1) (q := (RX1, TX1, 9)) (v := px_b (pm_pt n a)) (rest := []) S hP hK (tX1_isPoint (by omega) a) (cwV 1 hts gX1_cost_X1_isPoint rfl rfl rfl (by decide +kernel) ⟨by decide, by decide⟩) rfl rfl rfl hl.1 rfl (Nat.le_of_ble_eq_true rfl) dX1_cost_2 ⟨Nat.zero_le _, Nat.zero_le _⟩ ?_
  refine px_eqb (tgt := 18) hx hb dX1_cost_5 (by decide) (fun h5 => ?_) (fun h5 => ?_)
  · refine lv_iconst (v := px_b false) hx hb dX1_cost_18 (by decide +kernel) ?_
    exact px_rz hx hb hr hlk rfl dX1_cost_19
  · refine lv_iload_n hx hb dX1_cost_8 rfl (lv_at hl 2 rfl) ?_
    refine lv_if_lt (tgt := 18) hx hb dX1_cost_9 (by decide) (fun h9 => ?_) (fun h9 => ?_)
    · refine lv_iconst (v := px_b false) hx hb dX1_cost_18 (by decide +kernel) ?_
      exact px_rz hx hb hr hlk rfl dX1_cost_19
    · refine lv_iload_n hx hb dX1_cost_12 rfl (lv_at hl 2 rfl) ?_
      refine lv_ldc (v := 1000000) hx hb hown (hts (.constant RX1 49 (1000000)) (by decide +kernel)) dX1_cost_13 ?_
      refine lv_icmp_le (tgt := 20) hx hb dX1_cost_15 (by decide) (fun h15 => ?_) (fun h15 => ?_)
      · rw [pm_co_t h5 h9 h15] at hno
        cases hno
      · refine lv_iconst (v := px_b false) hx hb dX1_cost_18 (by decide +kernel) ?_
        exact px_rz hx hb hr hlk rfl dX1_cost_19
set_option maxHeartbeats 4000000 in
set_option maxRecDepth 100000 in
theorem tX1_cost_ok {l : Launch} {D : va_G} {cI cJ cZ : ClassId} {bd : Nat → Nat} {n k : Nat} {gv : Int32} {PA C Wi CO RW IN : Nat → Int32} (hn : n ≤ 200) (a x : Nat) (ha : a < n) (hc : x ≤ 1000000) : WrI l yX1_cost wsX1_cost (rmd 1) D (tyq cI cJ cZ) [.ref (bd 0), .int (nI a), .int (nI x)] (w1 cI cZ bd (nI n) (nI k) gv PA C Wi CO RW IN) (S := Unit) (fun r _ => r = px_b true) (fun _ => w1 cI cZ bd (nI n) (nI k) (px_b false) PA (upd C a (nI x)) Wi CO RW IN) := by
  refine px_met (cc := cX1_cost) (maxL := 3) (ret := (some .boolean)) (lv := [(0, .ref (bd 0)), (1, .int (nI a)), (2, .int (nI x))]) (by decide +kernel) rfl (Nat.le_of_ble_eq_true rfl) rfl ?_
  intro p e s m below meth c ls S hr hlk hnm hv hl
  obtain ⟨hx, hb, hml, hown, hts⟩ := id S
  obtain ⟨hP, hK, hD⟩ := hv
  have hin : ∀ w ∈ wsX10, w ∈ wsX1_cost := fun w h => List.mem_cons_of_mem _ (List.mem_append_right _ h)
  have f14 := hts (.fieldLink RX1 14 "PointColoursModel" "costs" "[I") (by decide +kernel)
  have f41 := hts (.fieldLink RX1 41 "PointColoursModel" "given" "Z") (by decide +kernel)
  have hS : va_S (px_B (w1 cI cZ bd (nI n) (nI k) gv PA C Wi CO RW IN)) s.heap s.heap [] := va_S.rf
  generalize hA : px_B (w1 cI cZ bd (nI n) (nI k) gv PA C Wi CO RW IN) = A at hD hS ⊢
  refine lv_aload_n hx hb dX1_cost_0 rfl (lv_at hl 0 rfl) ?_
  refine lv_iload_n hx hb dX1_cost_1 rfl (lv_at hl 1 rfl) ?_
  refine px_rd (ci := 1) (q := (RX1, TX1, 9)) (v := px_b (pm_pt n (nI a))) (rest := []) S hP hK (tX1_isPoint (by omega) (nI a)) (cwV 1 hts gX1_cost_X1_isPoint rfl rfl rfl (by decide +kernel) ⟨by decide, by decide⟩) rfl rfl rfl hl.1 rfl (Nat.le_of_ble_eq_true rfl) dX1_cost_2 ⟨Nat.zero_le _, Nat.zero_le _⟩ ?_
  refine px_eqb (tgt := 18) hx hb dX1_cost_5 (by decide) (fun h5 => ?_) (fun h5 => ?_)
  · exact absurd h5 (by rw [pm_pt_nI (by omega)]; simp; omega)
  refine lv_iload_n hx hb dX1_cost_8 rfl (lv_at hl 2 rfl) ?_
  refine lv_if_lt (tgt := 18) hx hb dX1_cost_9 (by decide) (fun h9 => ?_) (fun h9 => ?_)
  · exact absurd h9 (nI_pos (by omega))
  refine lv_iload_n hx hb dX1_cost_12 rfl (lv_at hl 2 rfl) ?_
  refine lv_ldc (v := 1000000) hx hb hown (hts (.constant RX1 49 (1000000)) (by decide +kernel)) dX1_cost_13 ?_
  refine W.eq (g2 := F0 m 15 ls (.int (nI 1000000) :: [.int (nI x)])) rfl ?_
  refine px_le (tgt := 20) hx hb dX1_cost_15 (by decide) (by omega) (by omega) (fun h15 => ?_) (fun h15 => ?_)
  rotate_left
  · exact absurd h15 (by omega)
  refine lv_aload_n hx hb dX1_cost_20 rfl (lv_at hl 0 rfl) ?_
  refine va_get (D := D) (ci := 1) (v := .ref (bd 2)) (C := RX1) (T := TX1) (N := 9) hx hb hts hin hown hK hP 0 rfl rfl 1 (by decide) f14 (fun _ h9 => h9) rfl dX1_cost_21 ?_
  refine lv_iload_n hx hb dX1_cost_24 rfl (lv_at hl 1 rfl) ?_
  refine lv_iload_n hx hb dX1_cost_25 rfl (lv_at hl 2 rfl) ?_
  refine px_iast (n := 200) (i := a) (ws' := w1 cI cZ bd (nI n) (nI k) gv PA (upd C a (nI x)) Wi CO RW IN) hx hb hK hP hD hS 2 0 rfl rfl (by omega) (by decide) rfl dX1_cost_26 (fun H locs hP hD hS => ?_)
  refine lv_aload_n hx hb dX1_cost_27 rfl (lv_at hl 0 rfl) ?_
  refine lv_iconst (v := px_b false) hx hb dX1_cost_28 (by decide +kernel) ?_
  refine px_put (ty := .boolean) (ws' := w1 cI cZ bd (nI n) (nI k) (px_b false) PA (upd C a (nI x)) Wi CO RW IN) hx hb hts hin tyX1 tyX1_ok nmX1 hown hK hP hD hS 0 rfl rfl 8 (by decide) f41 (fun _ h9 => h9) rfl (by decide +kernel) (px_b_nar _) (px_b_fit _) (Nat.le_of_ble_eq_true rfl) rfl dX1_cost_29 (fun H locs hP hD hS => ?_)
  refine lv_iconst (v := px_b true) hx hb dX1_cost_32 (by decide +kernel) ?_
  exact px_ez (post := fun r (_ : Unit) => r = px_b true) (wf := fun _ : Unit => w1 cI cZ bd (nI n) (nI k) (px_b false) PA (upd C a (nI x)) Wi CO RW IN) hx hb hr hlk hS () rfl hP dX1_cost_33
set_option maxHeartbeats 4000000 in
set_option maxRecDepth 100000 in
theorem tX0_wish_no {l : Launch} {D : va_G} {cI cJ cZ : ClassId} {ad : Nat → Nat} {n k : Nat} {gv : Int32} {E : Nat → Int64} {G C Wi O IO NI CF : Nat → Int32} (hn : n ≤ 200) {a b : Int32} (hno : (pm_pt n a && pm_pt n b) = false) : RdI l yX0_wish wsX0_wish (rmd 1) D (tyq cI cJ cZ) [.ref (ad 0), .int a, .int b] (w0 cI cJ cZ ad (nI n) (nI k) gv E G C Wi O IO NI CF) (px_b false) := by
  refine px_met (cc := cX0_wish) (maxL := 3) (ret := (some .boolean)) (lv := [(0, .ref (ad 0)), (1, .int a), (2, .int b)]) (by decide +kernel) rfl (Nat.le_of_ble_eq_true rfl) rfl ?_
  intro p e s m below meth c ls S hr hlk hnm hv hl
  obtain ⟨hx, hb, hml, hown, hts⟩ := id S
  obtain ⟨hP, hK⟩ := hv
  have hin : ∀ w ∈ wsX00, w ∈ wsX0_wish := fun w h => List.mem_cons_of_mem _ (List.mem_append_right _ h)
  have f20 := hts (.fieldLink RX0 20 "PointColours" "wishes" "[I") (by decide +kernel)
  have f51 := hts (.fieldLink RX0 51 "PointColours" "given" "Z") (by decide +kernel)
  refine lv_aload_n hx hb dX0_wish_0 rfl (lv_at hl 0 rfl) ?_
  refine lv_iload_n hx hb dX0_wish_1 rfl (lv_at hl 1 rfl) ?_
  refine px_rd (ci := 0) (q := (RX0, TX0, 11)) (v := px_b (pm_pt n a)) (rest := []) S hP hK (tX0_isPoint (by omega) a) (cwV 1 hts gX0_wish_X0_isPoint rfl rfl rfl (by decide +kernel) ⟨by decide, by decide⟩) rfl rfl rfl hl.1 rfl (Nat.le_of_ble_eq_true rfl) dX0_wish_2 ⟨Nat.zero_le _, Nat.zero_le _⟩ ?_
  refine px_eqb (tgt := 16) hx hb dX0_wish_5 (by decide) (fun h5 => ?_) (fun h5 => ?_)
  · refine lv_iconst (v := px_b false) hx hb dX0_wish_16 (by decide +kernel) ?_
    exact px_rz hx hb hr hlk rfl dX0_wish_17
  · refine lv_aload_n hx hb dX0_wish_8 rfl (lv_at hl 0 rfl) ?_
    refine lv_iload_n hx hb dX0_wish_9 rfl (lv_at hl 2 rfl) ?_
    refine px_rd (ci := 0) (q := (RX0, TX0, 11)) (v := px_b (pm_pt n b)) (rest := []) S hP hK (tX0_isPoint (by omega) b) (cwV 1 hts gX0_wish_X0_isPoint rfl rfl rfl (by decide +kernel) ⟨by decide, by decide⟩) rfl rfl rfl hl.1 rfl (Nat.le_of_ble_eq_true rfl) dX0_wish_10 ⟨Nat.zero_le _, Nat.zero_le _⟩ ?_
    refine px_neb (tgt := 18) hx hb dX0_wish_13 (by decide) (fun h13 => ?_) (fun h13 => ?_)
    · rw [h5, h13] at hno
      cases hno
    · refine lv_iconst (v := px_b false) hx hb dX0_wish_16 (by decide +kernel) ?_
      exact px_rz hx hb hr hlk rfl dX0_wish_17
set_option maxHeartbeats 4000000 in
set_option maxRecDepth 100000 in
theorem tX0_wish_ok {l : Launch} {D : va_G} {cI cJ cZ : ClassId} {ad : Nat → Nat} {n k : Nat} {gv : Int32} {E : Nat → Int64} {G C Wi O IO NI CF : Nat → Int32} (hn : n ≤ 200) (a b : Nat) (ha : a < n) (hb2 : b < n) : WrI l yX0_wish wsX0_wish (rmd 1) D (tyq cI cJ cZ) [.ref (ad 0), .int (nI a), .int (nI b)] (w0 cI cJ cZ ad (nI n) (nI k) gv E G C Wi O IO NI CF) (S := Unit) (fun r _ => r = px_b true) (fun _ => w0 cI cJ cZ ad (nI n) (nI k) (px_b false) E G C (upd Wi a (if a = b then -1 else nI b)) O IO NI CF) := by
  refine px_met (cc := cX0_wish) (maxL := 3) (ret := (some .boolean)) (lv := [(0, .ref (ad 0)), (1, .int (nI a)), (2, .int (nI b))]) (by decide +kernel) rfl (Nat.le_of_ble_eq_true rfl) rfl ?_
  intro p e s m below meth c ls S hr hlk hnm hv hl
  obtain ⟨hx, hb, hml, hown, hts⟩ := id S
  obtain ⟨hP, hK, hD⟩ := hv
  have hin : ∀ w ∈ wsX00, w ∈ wsX0_wish := fun w h => List.mem_cons_of_mem _ (List.mem_append_right _ h)
  have f20 := hts (.fieldLink RX0 20 "PointColours" "wishes" "[I") (by decide +kernel)
  have f51 := hts (.fieldLink RX0 51 "PointColours" "given" "Z") (by decide +kernel)
  have hS : va_S (px_B (w0 cI cJ cZ ad (nI n) (nI k) gv E G C Wi O IO NI CF)) s.heap s.heap [] := va_S.rf
  generalize hA : px_B (w0 cI cJ cZ ad (nI n) (nI k) gv E G C Wi O IO NI CF) = A at hD hS ⊢
  refine lv_aload_n hx hb dX0_wish_0 rfl (lv_at hl 0 rfl) ?_
  refine lv_iload_n hx hb dX0_wish_1 rfl (lv_at hl 1 rfl) ?_
  refine px_rd (ci := 0) (q := (RX0, TX0, 11)) (v := px_b (pm_pt n (nI a))) (rest := []) S hP hK (tX0_isPoint (by omega) (nI a)) (cwV 1 hts gX0_wish_X0_isPoint rfl rfl rfl (by decide +kernel) ⟨by decide, by decide⟩) rfl rfl rfl hl.1 rfl (Nat.le_of_ble_eq_true rfl) dX0_wish_2 ⟨Nat.zero_le _, Nat.zero_le _⟩ ?_
  refine px_eqb (tgt := 16) hx hb dX0_wish_5 (by decide) (fun h5 => ?_) (fun h5 => ?_)
  · exact absurd h5 (by rw [pm_pt_nI (by omega)]; simp; omega)
  refine lv_aload_n hx hb dX0_wish_8 rfl (lv_at hl 0 rfl) ?_
  refine lv_iload_n hx hb dX0_wish_9 rfl (lv_at hl 2 rfl) ?_
  refine px_rd (ci := 0) (q := (RX0, TX0, 11)) (v := px_b (pm_pt n (nI b))) (rest := []) S hP hK (tX0_isPoint (by omega) (nI b)) (cwV 1 hts gX0_wish_X0_isPoint rfl rfl rfl (by decide +kernel) ⟨by decide, by decide⟩) rfl rfl rfl hl.1 rfl (Nat.le_of_ble_eq_true rfl) dX0_wish_10 ⟨Nat.zero_le _, Nat.zero_le _⟩ ?_
  refine px_neb (tgt := 18) hx hb dX0_wish_13 (by decide) (fun h13 => ?_) (fun h13 => ?_)
  rotate_left
  · exact absurd h13 (by rw [pm_pt_nI (by omega)]; simp; omega)
  refine lv_aload_n hx hb dX0_wish_18 rfl (lv_at hl 0 rfl) ?_
  refine va_get (D := D) (ci := 0) (v := .ref (ad 4)) (C := RX0) (T := TX0) (N := 11) hx hb hts hin hown hK hP 0 rfl rfl 6 (by decide) f20 (fun _ h9 => h9) rfl dX0_wish_19 ?_
  refine lv_iload_n hx hb dX0_wish_22 rfl (lv_at hl 1 rfl) ?_
  refine lv_iload_n hx hb dX0_wish_23 rfl (lv_at hl 1 rfl) ?_
  refine lv_iload_n hx hb dX0_wish_24 rfl (lv_at hl 2 rfl) ?_
  refine px_ne (tgt := 32) hx hb dX0_wish_25 (by decide) (by omega) (by omega) (fun h25 => ?_) (fun h25 => ?_)
  · refine lv_iload_n hx hb dX0_wish_32 rfl (lv_at hl 2 rfl) ?_
    refine px_iast (n := 200) (i := a) (ws' := w0 cI cJ cZ ad (nI n) (nI k) gv E G C (upd Wi a (nI b)) O IO NI CF) hx hb hK hP hD hS 4 0 rfl rfl (by omega) (by decide) rfl dX0_wish_33 (fun H locs hP hD hS => ?_)
    refine lv_aload_n hx hb dX0_wish_34 rfl (lv_at hl 0 rfl) ?_
    refine lv_iconst (v := px_b false) hx hb dX0_wish_35 (by decide +kernel) ?_
    refine px_put (ty := .boolean) (ws' := w0 cI cJ cZ ad (nI n) (nI k) (px_b false) E G C (upd Wi a (nI b)) O IO NI CF) hx hb hts hin tyX0 tyX0_ok nmX0 hown hK hP hD hS 0 rfl rfl 2 (by decide) f51 (fun _ h9 => h9) rfl (by decide +kernel) (px_b_nar _) (px_b_fit _) (Nat.le_of_ble_eq_true rfl) rfl dX0_wish_36 (fun H locs hP hD hS => ?_)
    refine lv_iconst (v := px_b true) hx hb dX0_wish_39 (by decide +kernel) ?_
    exact px_ez (post := fun r (_ : Unit) => r = px_b true) (wf := fun _ : Unit => w0 cI cJ cZ ad (nI n) (nI k) (px_b false) E G C (upd Wi a (if a = b then -1 else nI b)) O IO NI CF) hx hb hr hlk hS () rfl (by rw [if_neg h25]; exact hP) dX0_wish_40
  · refine lv_iconst (v := -1) hx hb dX0_wish_28 (by decide +kernel) ?_
    refine lv_goto (tgt := 33) hx hb dX0_wish_29 (by decide) ?_
    refine px_iast (n := 200) (i := a) (ws' := w0 cI cJ cZ ad (nI n) (nI k) gv E G C (upd Wi a (-1)) O IO NI CF) hx hb hK hP hD hS 4 0 rfl rfl (by omega) (by decide) rfl dX0_wish_33 (fun H locs hP hD hS => ?_)
    refine lv_aload_n hx hb dX0_wish_34 rfl (lv_at hl 0 rfl) ?_
    refine lv_iconst (v := px_b false) hx hb dX0_wish_35 (by decide +kernel) ?_
    refine px_put (ty := .boolean) (ws' := w0 cI cJ cZ ad (nI n) (nI k) (px_b false) E G C (upd Wi a (-1)) O IO NI CF) hx hb hts hin tyX0 tyX0_ok nmX0 hown hK hP hD hS 0 rfl rfl 2 (by decide) f51 (fun _ h9 => h9) rfl (by decide +kernel) (px_b_nar _) (px_b_fit _) (Nat.le_of_ble_eq_true rfl) rfl dX0_wish_36 (fun H locs hP hD hS => ?_)
    refine lv_iconst (v := px_b true) hx hb dX0_wish_39 (by decide +kernel) ?_
    exact px_ez (post := fun r (_ : Unit) => r = px_b true) (wf := fun _ : Unit => w0 cI cJ cZ ad (nI n) (nI k) (px_b false) E G C (upd Wi a (if a = b then -1 else nI b)) O IO NI CF) hx hb hr hlk hS () rfl (by rw [if_pos h25]; exact hP) dX0_wish_40
set_option maxHeartbeats 4000000 in
set_option maxRecDepth 100000 in
theorem tX1_wish_no {l : Launch} {D : va_G} {cI cJ cZ : ClassId} {bd : Nat → Nat} {n k : Nat} {gv : Int32} {PA C Wi CO RW IN : Nat → Int32} (hn : n ≤ 200) {a b : Int32} (hno : (pm_pt n a && pm_pt n b) = false) : RdI l yX1_wish wsX1_wish (rmd 1) D (tyq cI cJ cZ) [.ref (bd 0), .int a, .int b] (w1 cI cZ bd (nI n) (nI k) gv PA C Wi CO RW IN) (px_b false) := by
  refine px_met (cc := cX1_wish) (maxL := 3) (ret := (some .boolean)) (lv := [(0, .ref (bd 0)), (1, .int a), (2, .int b)]) (by decide +kernel) rfl (Nat.le_of_ble_eq_true rfl) rfl ?_
  intro p e s m below meth c ls S hr hlk hnm hv hl
  obtain ⟨hx, hb, hml, hown, hts⟩ := id S
  obtain ⟨hP, hK⟩ := hv
  have hin : ∀ w ∈ wsX10, w ∈ wsX1_wish := fun w h => List.mem_cons_of_mem _ (List.mem_append_right _ h)
  have f18 := hts (.fieldLink RX1 18 "PointColoursModel" "wishes" "[I") (by decide +kernel)
  have f41 := hts (.fieldLink RX1 41 "PointColoursModel" "given" "Z") (by decide +kernel)
  refine lv_aload_n hx hb dX1_wish_0 rfl (lv_at hl 0 rfl) ?_
  refine lv_iload_n hx hb dX1_wish_1 rfl (lv_at hl 1 rfl) ?_
  refine px_rd (ci := 1) (q := (RX1, TX1, 9)) (v := px_b (pm_pt n a)) (rest := []) S hP hK (tX1_isPoint (by omega) a) (cwV 1 hts gX1_wish_X1_isPoint rfl rfl rfl (by decide +kernel) ⟨by decide, by decide⟩) rfl rfl rfl hl.1 rfl (Nat.le_of_ble_eq_true rfl) dX1_wish_2 ⟨Nat.zero_le _, Nat.zero_le _⟩ ?_
  refine px_eqb (tgt := 16) hx hb dX1_wish_5 (by decide) (fun h5 => ?_) (fun h5 => ?_)
  · refine lv_iconst (v := px_b false) hx hb dX1_wish_16 (by decide +kernel) ?_
    exact px_rz hx hb hr hlk rfl dX1_wish_17
  · refine lv_aload_n hx hb dX1_wish_8 rfl (lv_at hl 0 rfl) ?_
    refine lv_iload_n hx hb dX1_wish_9 rfl (lv_at hl 2 rfl) ?_
    refine px_rd (ci := 1) (q := (RX1, TX1, 9)) (v := px_b (pm_pt n b)) (rest := []) S hP hK (tX1_isPoint (by omega) b) (cwV 1 hts gX1_wish_X1_isPoint rfl rfl rfl (by decide +kernel) ⟨by decide, by decide⟩) rfl rfl rfl hl.1 rfl (Nat.le_of_ble_eq_true rfl) dX1_wish_10 ⟨Nat.zero_le _, Nat.zero_le _⟩ ?_
    refine px_neb (tgt := 18) hx hb dX1_wish_13 (by decide) (fun h13 => ?_) (fun h13 => ?_)
    · rw [h5, h13] at hno
      cases hno
    · refine lv_iconst (v := px_b false) hx hb dX1_wish_16 (by decide +kernel) ?_
      exact px_rz hx hb hr hlk rfl dX1_wish_17
set_option maxHeartbeats 4000000 in
set_option maxRecDepth 100000 in
theorem tX1_wish_ok {l : Launch} {D : va_G} {cI cJ cZ : ClassId} {bd : Nat → Nat} {n k : Nat} {gv : Int32} {PA C Wi CO RW IN : Nat → Int32} (hn : n ≤ 200) (a b : Nat) (ha : a < n) (hb2 : b < n) : WrI l yX1_wish wsX1_wish (rmd 1) D (tyq cI cJ cZ) [.ref (bd 0), .int (nI a), .int (nI b)] (w1 cI cZ bd (nI n) (nI k) gv PA C Wi CO RW IN) (S := Unit) (fun r _ => r = px_b true) (fun _ => w1 cI cZ bd (nI n) (nI k) (px_b false) PA C (upd Wi a (nI b)) CO RW IN) := by
  refine px_met (cc := cX1_wish) (maxL := 3) (ret := (some .boolean)) (lv := [(0, .ref (bd 0)), (1, .int (nI a)), (2, .int (nI b))]) (by decide +kernel) rfl (Nat.le_of_ble_eq_true rfl) rfl ?_
  intro p e s m below meth c ls S hr hlk hnm hv hl
  obtain ⟨hx, hb, hml, hown, hts⟩ := id S
  obtain ⟨hP, hK, hD⟩ := hv
  have hin : ∀ w ∈ wsX10, w ∈ wsX1_wish := fun w h => List.mem_cons_of_mem _ (List.mem_append_right _ h)
  have f18 := hts (.fieldLink RX1 18 "PointColoursModel" "wishes" "[I") (by decide +kernel)
  have f41 := hts (.fieldLink RX1 41 "PointColoursModel" "given" "Z") (by decide +kernel)
  have hS : va_S (px_B (w1 cI cZ bd (nI n) (nI k) gv PA C Wi CO RW IN)) s.heap s.heap [] := va_S.rf
  generalize hA : px_B (w1 cI cZ bd (nI n) (nI k) gv PA C Wi CO RW IN) = A at hD hS ⊢
  refine lv_aload_n hx hb dX1_wish_0 rfl (lv_at hl 0 rfl) ?_
  refine lv_iload_n hx hb dX1_wish_1 rfl (lv_at hl 1 rfl) ?_
  refine px_rd (ci := 1) (q := (RX1, TX1, 9)) (v := px_b (pm_pt n (nI a))) (rest := []) S hP hK (tX1_isPoint (by omega) (nI a)) (cwV 1 hts gX1_wish_X1_isPoint rfl rfl rfl (by decide +kernel) ⟨by decide, by decide⟩) rfl rfl rfl hl.1 rfl (Nat.le_of_ble_eq_true rfl) dX1_wish_2 ⟨Nat.zero_le _, Nat.zero_le _⟩ ?_
  refine px_eqb (tgt := 16) hx hb dX1_wish_5 (by decide) (fun h5 => ?_) (fun h5 => ?_)
  · exact absurd h5 (by rw [pm_pt_nI (by omega)]; simp; omega)
  refine lv_aload_n hx hb dX1_wish_8 rfl (lv_at hl 0 rfl) ?_
  refine lv_iload_n hx hb dX1_wish_9 rfl (lv_at hl 2 rfl) ?_
  refine px_rd (ci := 1) (q := (RX1, TX1, 9)) (v := px_b (pm_pt n (nI b))) (rest := []) S hP hK (tX1_isPoint (by omega) (nI b)) (cwV 1 hts gX1_wish_X1_isPoint rfl rfl rfl (by decide +kernel) ⟨by decide, by decide⟩) rfl rfl rfl hl.1 rfl (Nat.le_of_ble_eq_true rfl) dX1_wish_10 ⟨Nat.zero_le _, Nat.zero_le _⟩ ?_
  refine px_neb (tgt := 18) hx hb dX1_wish_13 (by decide) (fun h13 => ?_) (fun h13 => ?_)
  rotate_left
  · exact absurd h13 (by rw [pm_pt_nI (by omega)]; simp; omega)
  refine lv_aload_n hx hb dX1_wish_18 rfl (lv_at hl 0 rfl) ?_
  refine va_get (D := D) (ci := 1) (v := .ref (bd 3)) (C := RX1) (T := TX1) (N := 9) hx hb hts hin hown hK hP 0 rfl rfl 2 (by decide) f18 (fun _ h9 => h9) rfl dX1_wish_19 ?_
  refine lv_iload_n hx hb dX1_wish_22 rfl (lv_at hl 1 rfl) ?_
  refine lv_iload_n hx hb dX1_wish_23 rfl (lv_at hl 2 rfl) ?_
  refine px_iast (n := 200) (i := a) (ws' := w1 cI cZ bd (nI n) (nI k) gv PA C (upd Wi a (nI b)) CO RW IN) hx hb hK hP hD hS 3 0 rfl rfl (by omega) (by decide) rfl dX1_wish_24 (fun H locs hP hD hS => ?_)
  refine lv_aload_n hx hb dX1_wish_25 rfl (lv_at hl 0 rfl) ?_
  refine lv_iconst (v := px_b false) hx hb dX1_wish_26 (by decide +kernel) ?_
  refine px_put (ty := .boolean) (ws' := w1 cI cZ bd (nI n) (nI k) (px_b false) PA C (upd Wi a (nI b)) CO RW IN) hx hb hts hin tyX1 tyX1_ok nmX1 hown hK hP hD hS 0 rfl rfl 8 (by decide) f41 (fun _ h9 => h9) rfl (by decide +kernel) (px_b_nar _) (px_b_fit _) (Nat.le_of_ble_eq_true rfl) rfl dX1_wish_27 (fun H locs hP hD hS => ?_)
  refine lv_iconst (v := px_b true) hx hb dX1_wish_30 (by decide +kernel) ?_
  exact px_ez (post := fun r (_ : Unit) => r = px_b true) (wf := fun _ : Unit => w1 cI cZ bd (nI n) (nI k) (px_b false) PA C (upd Wi a (nI b)) CO RW IN) hx hb hr hlk hS () rfl hP dX1_wish_31
