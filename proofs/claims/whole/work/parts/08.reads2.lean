theorem pm_sy0 (J : Nat → Nat → Bool) (col : Nat → Int32) (a : Nat) : ∀ i, i ≤ a + 1 → pm_cn (pm_sy J col a) i = 0 := by
  intro i
  induction i with
  | zero => intro _; rfl
  | succ i ih =>
    intro h
    rw [pm_cn_0 (by simp [pm_sy]; omega), ih (by omega)]
theorem pm_sy1 {J : Nat → Nat → Bool} {col : Nat → Int32} {a b : Nat} (h : pm_sy J col a b = true) (x : Nat) : x + pm_cn (pm_sy J col a) b + 1 = x + pm_cn (pm_sy J col a) (b + 1) := by rw [pm_cn_1 h]; omega
theorem pm_sy2 {J : Nat → Nat → Bool} {col : Nat → Int32} {a b : Nat} (h : pm_sy J col a b = false) (x : Nat) : x + pm_cn (pm_sy J col a) b = x + pm_cn (pm_sy J col a) (b + 1) := by rw [pm_cn_0 h]
def pm_jd (n : Nat) (J : Nat → Nat → Bool) (a b : Int32) : Bool := pm_pt n a && pm_pt n b && J a.toNatClampNeg b.toNatClampNeg
set_option maxHeartbeats 4000000 in
set_option maxRecDepth 100000 in
theorem tX0_colour {l : Launch} {D : va_G} {cI cJ cZ : ClassId} {ad : Nat → Nat} {n k : Nat} {g : Bool} {E : Nat → Int64} {G C Wi O IO NI CF : Nat → Int32} (hn : n ≤ 200) (a : Int32) : RdI l yX0_colour wsX0_colour (rmd 1) D (tyq cI cJ cZ) [.ref (ad 0), .int a] (w0 cI cJ cZ ad (nI n) (nI k) (px_b g) E G C Wi O IO NI CF) (pm_rd g n CF a) := by
  refine px_met (cc := cX0_colour) (maxL := 2) (ret := (some .int)) (lv := [(0, .ref (ad 0)), (1, .int a)]) (by decide +kernel) rfl (Nat.le_of_ble_eq_true rfl) rfl ?_
  intro p e s m below meth c ls S hr hlk hnm hv hl
  obtain ⟨hx, hb, hml, hown, hts⟩ := id S
  obtain ⟨hP, hK⟩ := hv
  have hin : ∀ w ∈ wsX00, w ∈ wsX0_colour := fun w h => List.mem_cons_of_mem _ (List.mem_append_right _ h)
  have f51 := hts (.fieldLink RX0 51 "PointColours" "given" "Z") (by decide +kernel)
  have f33 := hts (.fieldLink RX0 33 "PointColours" "colourOf" "[I") (by decide +kernel)
  refine lv_aload_n hx hb dX0_colour_0 rfl (lv_at hl 0 rfl) ?_
  refine va_get (D := D) (ci := 0) (v := .int (px_b g)) (C := RX0) (T := TX0) (N := 11) hx hb hts hin hown hK hP 0 rfl rfl 2 (by decide) f51 (fun _ h9 => h9) rfl dX0_colour_1 ?_
  refine px_eqb (tgt := 24) hx hb dX0_colour_4 (by decide) (fun h4 => ?_) (fun h4 => ?_)
  · refine lv_iconst (v := -1) hx hb dX0_colour_24 (by decide +kernel) ?_
    exact px_ri hx hb hr hlk (by first | rw [pm_rd_n h12] | (rw [h4]; exact pm_rd_g.symm)) dX0_colour_25
  · refine lv_aload_n hx hb dX0_colour_7 rfl (lv_at hl 0 rfl) ?_
    refine lv_iload_n hx hb dX0_colour_8 rfl (lv_at hl 1 rfl) ?_
    refine px_rd (ci := 0) (q := (RX0, TX0, 11)) (v := px_b (pm_pt n a)) (rest := []) S hP hK (tX0_isPoint (by omega) a) (cwV 1 hts gX0_colour_X0_isPoint rfl rfl rfl (by decide +kernel) ⟨by decide, by decide⟩) rfl rfl rfl hl.1 rfl (Nat.le_of_ble_eq_true rfl) dX0_colour_9 ⟨Nat.zero_le _, Nat.zero_le _⟩ ?_
    refine px_eqb (tgt := 24) hx hb dX0_colour_12 (by decide) (fun h12 => ?_) (fun h12 => ?_)
    · refine lv_iconst (v := -1) hx hb dX0_colour_24 (by decide +kernel) ?_
      exact px_ri hx hb hr hlk (by first | rw [pm_rd_n h12] | (rw [h4]; exact pm_rd_g.symm)) dX0_colour_25
    · obtain ⟨j, hj, rfl⟩ := pm_pt_of (by omega) h12
      refine lv_aload_n hx hb dX0_colour_15 rfl (lv_at hl 0 rfl) ?_
      refine va_get (D := D) (ci := 0) (v := .ref (ad 8)) (C := RX0) (T := TX0) (N := 11) hx hb hts hin hown hK hP 0 rfl rfl 10 (by decide) f33 (fun _ h9 => h9) rfl dX0_colour_16 ?_
      refine lv_iload_n hx hb dX0_colour_19 rfl (lv_at hl 1 rfl) ?_
      refine px_iald (n := 200) (i := j) hx hb hK hP 8 0 rfl rfl (by omega) (by decide) dX0_colour_20 ?_
      refine lv_goto (tgt := 25) hx hb dX0_colour_21 (by decide) ?_
      exact px_ri hx hb hr hlk (by rw [h4]; rw [pm_rd_t (by omega) hj]) dX0_colour_25
set_option maxHeartbeats 4000000 in
set_option maxRecDepth 100000 in
theorem tX0_taken {l : Launch} {D : va_G} {cI cJ cZ : ClassId} {ad : Nat → Nat} {n k : Nat} {g : Bool} {E : Nat → Int64} {G C Wi O IO NI CF : Nat → Int32} (hn : n ≤ 200) (a : Int32) : RdI l yX0_taken wsX0_taken (rmd 1) D (tyq cI cJ cZ) [.ref (ad 0), .int a] (w0 cI cJ cZ ad (nI n) (nI k) (px_b g) E G C Wi O IO NI CF) (pm_rd g n O a) := by
  refine px_met (cc := cX0_taken) (maxL := 2) (ret := (some .int)) (lv := [(0, .ref (ad 0)), (1, .int a)]) (by decide +kernel) rfl (Nat.le_of_ble_eq_true rfl) rfl ?_
  intro p e s m below meth c ls S hr hlk hnm hv hl
  obtain ⟨hx, hb, hml, hown, hts⟩ := id S
  obtain ⟨hP, hK⟩ := hv
  have hin : ∀ w ∈ wsX00, w ∈ wsX0_taken := fun w h => List.mem_cons_of_mem _ (List.mem_append_right _ h)
  have f51 := hts (.fieldLink RX0 51 "PointColours" "given" "Z") (by decide +kernel)
  have f23 := hts (.fieldLink RX0 23 "PointColours" "order" "[I") (by decide +kernel)
  refine lv_aload_n hx hb dX0_taken_0 rfl (lv_at hl 0 rfl) ?_
  refine va_get (D := D) (ci := 0) (v := .int (px_b g)) (C := RX0) (T := TX0) (N := 11) hx hb hts hin hown hK hP 0 rfl rfl 2 (by decide) f51 (fun _ h9 => h9) rfl dX0_taken_1 ?_
  refine px_eqb (tgt := 24) hx hb dX0_taken_4 (by decide) (fun h4 => ?_) (fun h4 => ?_)
  · refine lv_iconst (v := -1) hx hb dX0_taken_24 (by decide +kernel) ?_
    exact px_ri hx hb hr hlk (by first | rw [pm_rd_n h12] | (rw [h4]; exact pm_rd_g.symm)) dX0_taken_25
  · refine lv_aload_n hx hb dX0_taken_7 rfl (lv_at hl 0 rfl) ?_
    refine lv_iload_n hx hb dX0_taken_8 rfl (lv_at hl 1 rfl) ?_
    refine px_rd (ci := 0) (q := (RX0, TX0, 11)) (v := px_b (pm_pt n a)) (rest := []) S hP hK (tX0_isPoint (by omega) a) (cwV 1 hts gX0_taken_X0_isPoint rfl rfl rfl (by decide +kernel) ⟨by decide, by decide⟩) rfl rfl rfl hl.1 rfl (Nat.le_of_ble_eq_true rfl) dX0_taken_9 ⟨Nat.zero_le _, Nat.zero_le _⟩ ?_
    refine px_eqb (tgt := 24) hx hb dX0_taken_12 (by decide) (fun h12 => ?_) (fun h12 => ?_)
    · refine lv_iconst (v := -1) hx hb dX0_taken_24 (by decide +kernel) ?_
      exact px_ri hx hb hr hlk (by first | rw [pm_rd_n h12] | (rw [h4]; exact pm_rd_g.symm)) dX0_taken_25
    · obtain ⟨j, hj, rfl⟩ := pm_pt_of (by omega) h12
      refine lv_aload_n hx hb dX0_taken_15 rfl (lv_at hl 0 rfl) ?_
      refine va_get (D := D) (ci := 0) (v := .ref (ad 5)) (C := RX0) (T := TX0) (N := 11) hx hb hts hin hown hK hP 0 rfl rfl 7 (by decide) f23 (fun _ h9 => h9) rfl dX0_taken_16 ?_
      refine lv_iload_n hx hb dX0_taken_19 rfl (lv_at hl 1 rfl) ?_
      refine px_iald (n := 200) (i := j) hx hb hK hP 5 0 rfl rfl (by omega) (by decide) dX0_taken_20 ?_
      refine lv_goto (tgt := 25) hx hb dX0_taken_21 (by decide) ?_
      exact px_ri hx hb hr hlk (by rw [h4]; rw [pm_rd_t (by omega) hj]) dX0_taken_25
set_option maxHeartbeats 4000000 in
set_option maxRecDepth 100000 in
theorem tX1_colour {l : Launch} {D : va_G} {cI cJ cZ : ClassId} {bd : Nat → Nat} {n k : Nat} {g : Bool} {PA C Wi CO RW IN : Nat → Int32} (hn : n ≤ 200) (a : Int32) : RdI l yX1_colour wsX1_colour (rmd 1) D (tyq cI cJ cZ) [.ref (bd 0), .int a] (w1 cI cZ bd (nI n) (nI k) (px_b g) PA C Wi CO RW IN) (pm_rd g n CO a) := by
  refine px_met (cc := cX1_colour) (maxL := 2) (ret := (some .int)) (lv := [(0, .ref (bd 0)), (1, .int a)]) (by decide +kernel) rfl (Nat.le_of_ble_eq_true rfl) rfl ?_
  intro p e s m below meth c ls S hr hlk hnm hv hl
  obtain ⟨hx, hb, hml, hown, hts⟩ := id S
  obtain ⟨hP, hK⟩ := hv
  have hin : ∀ w ∈ wsX10, w ∈ wsX1_colour := fun w h => List.mem_cons_of_mem _ (List.mem_append_right _ h)
  have f41 := hts (.fieldLink RX1 41 "PointColoursModel" "given" "Z") (by decide +kernel)
  have f21 := hts (.fieldLink RX1 21 "PointColoursModel" "colours" "[I") (by decide +kernel)
  refine lv_aload_n hx hb dX1_colour_0 rfl (lv_at hl 0 rfl) ?_
  refine va_get (D := D) (ci := 1) (v := .int (px_b g)) (C := RX1) (T := TX1) (N := 9) hx hb hts hin hown hK hP 0 rfl rfl 8 (by decide) f41 (fun _ h9 => h9) rfl dX1_colour_1 ?_
  refine px_eqb (tgt := 24) hx hb dX1_colour_4 (by decide) (fun h4 => ?_) (fun h4 => ?_)
  · refine lv_iconst (v := -1) hx hb dX1_colour_24 (by decide +kernel) ?_
    exact px_ri hx hb hr hlk (by first | rw [pm_rd_n h12] | (rw [h4]; exact pm_rd_g.symm)) dX1_colour_25
  · refine lv_aload_n hx hb dX1_colour_7 rfl (lv_at hl 0 rfl) ?_
    refine lv_iload_n hx hb dX1_colour_8 rfl (lv_at hl 1 rfl) ?_
    refine px_rd (ci := 1) (q := (RX1, TX1, 9)) (v := px_b (pm_pt n a)) (rest := []) S hP hK (tX1_isPoint (by omega) a) (cwV 1 hts gX1_colour_X1_isPoint rfl rfl rfl (by decide +kernel) ⟨by decide, by decide⟩) rfl rfl rfl hl.1 rfl (Nat.le_of_ble_eq_true rfl) dX1_colour_9 ⟨Nat.zero_le _, Nat.zero_le _⟩ ?_
    refine px_eqb (tgt := 24) hx hb dX1_colour_12 (by decide) (fun h12 => ?_) (fun h12 => ?_)
    · refine lv_iconst (v := -1) hx hb dX1_colour_24 (by decide +kernel) ?_
      exact px_ri hx hb hr hlk (by first | rw [pm_rd_n h12] | (rw [h4]; exact pm_rd_g.symm)) dX1_colour_25
    · obtain ⟨j, hj, rfl⟩ := pm_pt_of (by omega) h12
      refine lv_aload_n hx hb dX1_colour_15 rfl (lv_at hl 0 rfl) ?_
      refine va_get (D := D) (ci := 1) (v := .ref (bd 4)) (C := RX1) (T := TX1) (N := 9) hx hb hts hin hown hK hP 0 rfl rfl 3 (by decide) f21 (fun _ h9 => h9) rfl dX1_colour_16 ?_
      refine lv_iload_n hx hb dX1_colour_19 rfl (lv_at hl 1 rfl) ?_
      refine px_iald (n := 200) (i := j) hx hb hK hP 4 0 rfl rfl (by omega) (by decide) dX1_colour_20 ?_
      refine lv_goto (tgt := 25) hx hb dX1_colour_21 (by decide) ?_
      exact px_ri hx hb hr hlk (by rw [h4]; rw [pm_rd_t (by omega) hj]) dX1_colour_25
set_option maxHeartbeats 4000000 in
set_option maxRecDepth 100000 in
theorem tX1_taken {l : Launch} {D : va_G} {cI cJ cZ : ClassId} {bd : Nat → Nat} {n k : Nat} {g : Bool} {PA C Wi CO RW IN : Nat → Int32} (hn : n ≤ 200) (a : Int32) : RdI l yX1_taken wsX1_taken (rmd 1) D (tyq cI cJ cZ) [.ref (bd 0), .int a] (w1 cI cZ bd (nI n) (nI k) (px_b g) PA C Wi CO RW IN) (pm_rd g n RW a) := by
  refine px_met (cc := cX1_taken) (maxL := 2) (ret := (some .int)) (lv := [(0, .ref (bd 0)), (1, .int a)]) (by decide +kernel) rfl (Nat.le_of_ble_eq_true rfl) rfl ?_
  intro p e s m below meth c ls S hr hlk hnm hv hl
  obtain ⟨hx, hb, hml, hown, hts⟩ := id S
  obtain ⟨hP, hK⟩ := hv
  have hin : ∀ w ∈ wsX10, w ∈ wsX1_taken := fun w h => List.mem_cons_of_mem _ (List.mem_append_right _ h)
  have f41 := hts (.fieldLink RX1 41 "PointColoursModel" "given" "Z") (by decide +kernel)
  have f24 := hts (.fieldLink RX1 24 "PointColoursModel" "row" "[I") (by decide +kernel)
  refine lv_aload_n hx hb dX1_taken_0 rfl (lv_at hl 0 rfl) ?_
  refine va_get (D := D) (ci := 1) (v := .int (px_b g)) (C := RX1) (T := TX1) (N := 9) hx hb hts hin hown hK hP 0 rfl rfl 8 (by decide) f41 (fun _ h9 => h9) rfl dX1_taken_1 ?_
  refine px_eqb (tgt := 24) hx hb dX1_taken_4 (by decide) (fun h4 => ?_) (fun h4 => ?_)
  · refine lv_iconst (v := -1) hx hb dX1_taken_24 (by decide +kernel) ?_
    exact px_ri hx hb hr hlk (by first | rw [pm_rd_n h12] | (rw [h4]; exact pm_rd_g.symm)) dX1_taken_25
  · refine lv_aload_n hx hb dX1_taken_7 rfl (lv_at hl 0 rfl) ?_
    refine lv_iload_n hx hb dX1_taken_8 rfl (lv_at hl 1 rfl) ?_
    refine px_rd (ci := 1) (q := (RX1, TX1, 9)) (v := px_b (pm_pt n a)) (rest := []) S hP hK (tX1_isPoint (by omega) a) (cwV 1 hts gX1_taken_X1_isPoint rfl rfl rfl (by decide +kernel) ⟨by decide, by decide⟩) rfl rfl rfl hl.1 rfl (Nat.le_of_ble_eq_true rfl) dX1_taken_9 ⟨Nat.zero_le _, Nat.zero_le _⟩ ?_
    refine px_eqb (tgt := 24) hx hb dX1_taken_12 (by decide) (fun h12 => ?_) (fun h12 => ?_)
    · refine lv_iconst (v := -1) hx hb dX1_taken_24 (by decide +kernel) ?_
      exact px_ri hx hb hr hlk (by first | rw [pm_rd_n h12] | (rw [h4]; exact pm_rd_g.symm)) dX1_taken_25
    · obtain ⟨j, hj, rfl⟩ := pm_pt_of (by omega) h12
      refine lv_aload_n hx hb dX1_taken_15 rfl (lv_at hl 0 rfl) ?_
      refine va_get (D := D) (ci := 1) (v := .ref (bd 5)) (C := RX1) (T := TX1) (N := 9) hx hb hts hin hown hK hP 0 rfl rfl 4 (by decide) f24 (fun _ h9 => h9) rfl dX1_taken_16 ?_
      refine lv_iload_n hx hb dX1_taken_19 rfl (lv_at hl 1 rfl) ?_
      refine px_iald (n := 200) (i := j) hx hb hK hP 5 0 rfl rfl (by omega) (by decide) dX1_taken_20 ?_
      refine lv_goto (tgt := 25) hx hb dX1_taken_21 (by decide) ?_
      exact px_ri hx hb hr hlk (by rw [h4]; rw [pm_rd_t (by omega) hj]) dX1_taken_25
set_option maxHeartbeats 4000000 in
set_option maxRecDepth 100000 in
theorem tX0_degree {l : Launch} {D : va_G} {cI cJ cZ : ClassId} {ad : Nat → Nat} {n k : Nat} {gv : Int32} {E : Nat → Int64} {G C Wi O IO NI CF : Nat → Int32} (hn : n ≤ 200) (a : Int32) : RdI l yX0_degree wsX0_degree (rmd 1) D (tyq cI cJ cZ) [.ref (ad 0), .int a] (w0 cI cJ cZ ad (nI n) (nI k) gv E G C Wi O IO NI CF) (pm_rd true n G a) := by
  refine px_met (cc := cX0_degree) (maxL := 2) (ret := (some .int)) (lv := [(0, .ref (ad 0)), (1, .int a)]) (by decide +kernel) rfl (Nat.le_of_ble_eq_true rfl) rfl ?_
  intro p e s m below meth c ls S hr hlk hnm hv hl
  obtain ⟨hx, hb, hml, hown, hts⟩ := id S
  obtain ⟨hP, hK⟩ := hv
  have hin : ∀ w ∈ wsX00, w ∈ wsX0_degree := fun w h => List.mem_cons_of_mem _ (List.mem_append_right _ h)
  have f13 := hts (.fieldLink RX0 13 "PointColours" "degrees" "[I") (by decide +kernel)
  refine lv_aload_n hx hb dX0_degree_0 rfl (lv_at hl 0 rfl) ?_
  refine lv_iload_n hx hb dX0_degree_1 rfl (lv_at hl 1 rfl) ?_
  refine px_rd (ci := 0) (q := (RX0, TX0, 11)) (v := px_b (pm_pt n a)) (rest := []) S hP hK (tX0_isPoint (by omega) a) (cwV 1 hts gX0_degree_X0_isPoint rfl rfl rfl (by decide +kernel) ⟨by decide, by decide⟩) rfl rfl rfl hl.1 rfl (Nat.le_of_ble_eq_true rfl) dX0_degree_2 ⟨Nat.zero_le _, Nat.zero_le _⟩ ?_
  refine px_eqb (tgt := 17) hx hb dX0_degree_5 (by decide) (fun h5 => ?_) (fun h5 => ?_)
  · refine lv_iconst (v := -1) hx hb dX0_degree_17 (by decide +kernel) ?_
    exact px_ri hx hb hr hlk (by first | rw [pm_rd_n h5] | (rw [h4]; exact pm_rd_g.symm)) dX0_degree_18
  · obtain ⟨j, hj, rfl⟩ := pm_pt_of (by omega) h5
    refine lv_aload_n hx hb dX0_degree_8 rfl (lv_at hl 0 rfl) ?_
    refine va_get (D := D) (ci := 0) (v := .ref (ad 2)) (C := RX0) (T := TX0) (N := 11) hx hb hts hin hown hK hP 0 rfl rfl 4 (by decide) f13 (fun _ h9 => h9) rfl dX0_degree_9 ?_
    refine lv_iload_n hx hb dX0_degree_12 rfl (lv_at hl 1 rfl) ?_
    refine px_iald (n := 200) (i := j) hx hb hK hP 2 0 rfl rfl (by omega) (by decide) dX0_degree_13 ?_
    refine lv_goto (tgt := 18) hx hb dX0_degree_14 (by decide) ?_
    exact px_ri hx hb hr hlk (by rw [pm_rd_t (by omega) hj]) dX0_degree_18
set_option maxHeartbeats 4000000 in
set_option maxRecDepth 100000 in
theorem tX0_joined {l : Launch} {D : va_G} {cI cJ cZ : ClassId} {ad : Nat → Nat} {n k : Nat} {gv : Int32} {E : Nat → Int64} {G C Wi O IO NI CF : Nat → Int32} (J : Nat → Nat → Bool) (hJ : ∀ a b, a < 200 → b < 200 → pm_ed E a b = J a b) (hn : n ≤ 200) (a b : Int32) : RdI l yX0_joined wsX0_joined (rmd 2) D (tyq cI cJ cZ) [.ref (ad 0), .int a, .int b] (w0 cI cJ cZ ad (nI n) (nI k) gv E G C Wi O IO NI CF) (px_b (pm_jd n J a b)) := by
  refine px_met (cc := cX0_joined) (maxL := 3) (ret := (some .boolean)) (lv := [(0, .ref (ad 0)), (1, .int a), (2, .int b)]) (by decide +kernel) rfl (Nat.le_of_ble_eq_true rfl) rfl ?_
  intro p e s m below meth c ls S hr hlk hnm hv hl
  obtain ⟨hx, hb, hml, hown, hts⟩ := id S
  obtain ⟨hP, hK⟩ := hv
  refine lv_aload_n hx hb dX0_joined_0 rfl (lv_at hl 0 rfl) ?_
  refine lv_iload_n hx hb dX0_joined_1 rfl (lv_at hl 1 rfl) ?_
  refine px_rd (ci := 0) (q := (RX0, TX0, 11)) (v := px_b (pm_pt n a)) (rest := []) S hP hK (tX0_isPoint (by omega) a) (cwV 1 hts gX0_joined_X0_isPoint rfl rfl rfl (by decide +kernel) ⟨by decide, by decide⟩) rfl rfl rfl hl.1 rfl (Nat.le_of_ble_eq_true rfl) dX0_joined_2 ⟨Nat.zero_le _, Nat.zero_le _⟩ ?_
  refine px_eqb (tgt := 29) hx hb dX0_joined_5 (by decide) (fun h5 => ?_) (fun h5 => ?_)
  · refine lv_iconst (v := px_b false) hx hb dX0_joined_29 (by decide +kernel) ?_
    exact px_rz hx hb hr hlk (by first | (simp [pm_jd, h5]; done) | (simp [pm_jd, h5, h13]; done) | (rw [pm_jd, h5, h13, nI_clamp (by omega), nI_clamp (by omega), h22]; rfl)) dX0_joined_30
  · refine lv_aload_n hx hb dX0_joined_8 rfl (lv_at hl 0 rfl) ?_
    refine lv_iload_n hx hb dX0_joined_9 rfl (lv_at hl 2 rfl) ?_
    refine px_rd (ci := 0) (q := (RX0, TX0, 11)) (v := px_b (pm_pt n b)) (rest := []) S hP hK (tX0_isPoint (by omega) b) (cwV 1 hts gX0_joined_X0_isPoint rfl rfl rfl (by decide +kernel) ⟨by decide, by decide⟩) rfl rfl rfl hl.1 rfl (Nat.le_of_ble_eq_true rfl) dX0_joined_10 ⟨Nat.zero_le _, Nat.zero_le _⟩ ?_
    refine px_eqb (tgt := 29) hx hb dX0_joined_13 (by decide) (fun h13 => ?_) (fun h13 => ?_)
    · refine lv_iconst (v := px_b false) hx hb dX0_joined_29 (by decide +kernel) ?_
      exact px_rz hx hb hr hlk (by first | (simp [pm_jd, h5]; done) | (simp [pm_jd, h5, h13]; done) | (rw [pm_jd, h5, h13, nI_clamp (by omega), nI_clamp (by omega), h22]; rfl)) dX0_joined_30
    · obtain ⟨i, hi, rfl⟩ := pm_pt_of (by omega) h5
      obtain ⟨j, hj, rfl⟩ := pm_pt_of (by omega) h13
      refine lv_aload_n hx hb dX0_joined_16 rfl (lv_at hl 0 rfl) ?_
      refine lv_iload_n hx hb dX0_joined_17 rfl (lv_at hl 1 rfl) ?_
      refine lv_iload_n hx hb dX0_joined_18 rfl (lv_at hl 2 rfl) ?_
      refine px_rd (ci := 0) (q := (RX0, TX0, 11)) (v := px_b (J i j)) (rest := []) S hP hK (tX0_hasEdge J hJ i j (by omega) (by omega)) (cwV 2 hts gX0_joined_X0_hasEdge rfl rfl rfl (by decide +kernel) ⟨by decide, by decide⟩) rfl rfl rfl hl.1 rfl (Nat.le_of_ble_eq_true rfl) dX0_joined_19 ⟨Nat.zero_le _, Nat.zero_le _⟩ ?_
      refine px_eqb (tgt := 29) hx hb dX0_joined_22 (by decide) (fun h22 => ?_) (fun h22 => ?_)
      · refine lv_iconst (v := px_b false) hx hb dX0_joined_29 (by decide +kernel) ?_
        exact px_rz hx hb hr hlk (by first | (simp [pm_jd, h5]; done) | (simp [pm_jd, h5, h13]; done) | (rw [pm_jd, h5, h13, nI_clamp (by omega), nI_clamp (by omega), h22]; rfl)) dX0_joined_30
      · refine lv_iconst (v := px_b true) hx hb dX0_joined_25 (by decide +kernel) ?_
        refine lv_goto (tgt := 30) hx hb dX0_joined_26 (by decide) ?_
        exact px_rz hx hb hr hlk (by first | (simp [pm_jd, h5]; done) | (simp [pm_jd, h5, h13]; done) | (rw [pm_jd, h5, h13, nI_clamp (by omega), nI_clamp (by omega), h22]; rfl)) dX0_joined_30
set_option maxHeartbeats 4000000 in
set_option maxRecDepth 100000 in
theorem tX1_joined {l : Launch} {D : va_G} {cI cJ cZ : ClassId} {bd : Nat → Nat} {n k : Nat} {gv : Int32} {PA C Wi CO RW IN : Nat → Int32} (J : Nat → Nat → Bool) (hJ : ∀ a b, a < 200 → b < 200 → PA (200 * a + b) = px_b (J a b)) (hn : n ≤ 200) (a b : Int32) : RdI l yX1_joined wsX1_joined (rmd 1) D (tyq cI cJ cZ) [.ref (bd 0), .int a, .int b] (w1 cI cZ bd (nI n) (nI k) gv PA C Wi CO RW IN) (px_b (pm_jd n J a b)) := by
  refine px_met (cc := cX1_joined) (maxL := 3) (ret := (some .boolean)) (lv := [(0, .ref (bd 0)), (1, .int a), (2, .int b)]) (by decide +kernel) rfl (Nat.le_of_ble_eq_true rfl) rfl ?_
  intro p e s m below meth c ls S hr hlk hnm hv hl
  obtain ⟨hx, hb, hml, hown, hts⟩ := id S
  obtain ⟨hP, hK⟩ := hv
  have hin : ∀ w ∈ wsX10, w ∈ wsX1_joined := fun w h => List.mem_cons_of_mem _ (List.mem_append_right _ h)
  have f10 := hts (.fieldLink RX1 10 "PointColoursModel" "pairs" "[Z") (by decide +kernel)
  refine lv_aload_n hx hb dX1_joined_0 rfl (lv_at hl 0 rfl) ?_
  refine lv_iload_n hx hb dX1_joined_1 rfl (lv_at hl 1 rfl) ?_
  refine px_rd (ci := 1) (q := (RX1, TX1, 9)) (v := px_b (pm_pt n a)) (rest := []) S hP hK (tX1_isPoint (by omega) a) (cwV 1 hts gX1_joined_X1_isPoint rfl rfl rfl (by decide +kernel) ⟨by decide, by decide⟩) rfl rfl rfl hl.1 rfl (Nat.le_of_ble_eq_true rfl) dX1_joined_2 ⟨Nat.zero_le _, Nat.zero_le _⟩ ?_
  refine px_eqb (tgt := 35) hx hb dX1_joined_5 (by decide) (fun h5 => ?_) (fun h5 => ?_)
  · refine lv_iconst (v := px_b false) hx hb dX1_joined_35 (by decide +kernel) ?_
    exact px_rz hx hb hr hlk (by first | (simp [pm_jd, h5]; done) | (simp [pm_jd, h5, h13]; done) | (rw [pm_jd, h5, h13, nI_clamp (by omega), nI_clamp (by omega), h28]; rfl)) dX1_joined_36
  · refine lv_aload_n hx hb dX1_joined_8 rfl (lv_at hl 0 rfl) ?_
    refine lv_iload_n hx hb dX1_joined_9 rfl (lv_at hl 2 rfl) ?_
    refine px_rd (ci := 1) (q := (RX1, TX1, 9)) (v := px_b (pm_pt n b)) (rest := []) S hP hK (tX1_isPoint (by omega) b) (cwV 1 hts gX1_joined_X1_isPoint rfl rfl rfl (by decide +kernel) ⟨by decide, by decide⟩) rfl rfl rfl hl.1 rfl (Nat.le_of_ble_eq_true rfl) dX1_joined_10 ⟨Nat.zero_le _, Nat.zero_le _⟩ ?_
    refine px_eqb (tgt := 35) hx hb dX1_joined_13 (by decide) (fun h13 => ?_) (fun h13 => ?_)
    · refine lv_iconst (v := px_b false) hx hb dX1_joined_35 (by decide +kernel) ?_
      exact px_rz hx hb hr hlk (by first | (simp [pm_jd, h5]; done) | (simp [pm_jd, h5, h13]; done) | (rw [pm_jd, h5, h13, nI_clamp (by omega), nI_clamp (by omega), h28]; rfl)) dX1_joined_36
    · obtain ⟨i, hi, rfl⟩ := pm_pt_of (by omega) h5
      obtain ⟨j, hj, rfl⟩ := pm_pt_of (by omega) h13
      refine lv_aload_n hx hb dX1_joined_16 rfl (lv_at hl 0 rfl) ?_
      refine va_get (D := D) (ci := 1) (v := .ref (bd 1)) (C := RX1) (T := TX1) (N := 9) hx hb hts hin hown hK hP 0 rfl rfl 0 (by decide) f10 (fun _ h9 => h9) rfl dX1_joined_17 ?_
      refine lv_sipush (v := nI 200) hx hb dX1_joined_20 (by decide +kernel) ?_
      refine lv_iload_n hx hb dX1_joined_23 rfl (lv_at hl 1 rfl) ?_
      refine px_mul hx hb dX1_joined_24 ?_
      refine lv_iload_n hx hb dX1_joined_25 rfl (lv_at hl 2 rfl) ?_
      refine px_add hx hb dX1_joined_26 ?_
      refine px_zald (n := 40000) (i := ((200 * i) + j)) hx hb hK hP 1 2 rfl rfl (by omega) (by decide) dX1_joined_27 ?_
      refine px_top (y := px_b (J i j)) (hJ _ _ (by omega) (by omega)) ?_
      refine px_eqb (tgt := 35) hx hb dX1_joined_28 (by decide) (fun h28 => ?_) (fun h28 => ?_)
      · refine lv_iconst (v := px_b false) hx hb dX1_joined_35 (by decide +kernel) ?_
        exact px_rz hx hb hr hlk (by first | (simp [pm_jd, h5]; done) | (simp [pm_jd, h5, h13]; done) | (rw [pm_jd, h5, h13, nI_clamp (by omega), nI_clamp (by omega), h28]; rfl)) dX1_joined_36
      · refine lv_iconst (v := px_b true) hx hb dX1_joined_31 (by decide +kernel) ?_
        refine lv_goto (tgt := 36) hx hb dX1_joined_32 (by decide) ?_
        exact px_rz hx hb hr hlk (by first | (simp [pm_jd, h5]; done) | (simp [pm_jd, h5, h13]; done) | (rw [pm_jd, h5, h13, nI_clamp (by omega), nI_clamp (by omega), h28]; rfl)) dX1_joined_36
