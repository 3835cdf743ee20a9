set_option maxHeartbeats 4000000 in
set_option maxRecDepth 100000 in
theorem tX0_wishedColour {l : Launch} {D : va_G} {cI cJ cZ : ClassId} {ad : Nat → Nat} {n k : Nat} {gv : Int32} {E : Nat → Int64} {G C Wi O IO NI CF : Nat → Int32} (ws : Nat → Nat) (hn : n ≤ 200) (a : Nat) (ha : a < n) (hwn : ws a < n) (hW : Wi a = if ws a = a then -1 else nI (ws a)) : RdI l yX0_wishedColour wsX0_wishedColour (rmd 1) D (tyq cI cJ cZ) [.ref (ad 0), .int (nI a)] (w0 cI cJ cZ ad (nI n) (nI k) gv E G C Wi O IO NI CF) (if ws a = a then -1 else CF (ws a)) := by
  refine px_met (cc := cX0_wishedColour) (maxL := 3) (ret := (some .int)) (lv := [(0, .ref (ad 0)), (1, .int (nI a))]) (by decide +kernel) rfl (Nat.le_of_ble_eq_true rfl) rfl ?_
  intro p e s m below meth c ls S hr hlk hnm hv hl
  obtain ⟨hx, hb, hml, hown, hts⟩ := id S
  obtain ⟨hP, hK⟩ := hv
  have hin : ∀ w ∈ wsX00, w ∈ wsX0_wishedColour := fun w h => List.mem_cons_of_mem _ (List.mem_append_right _ h)
  have f20 := hts (.fieldLink RX0 20 "PointColours" "wishes" "[I") (by decide +kernel)
  have f33 := hts (.fieldLink RX0 33 "PointColours" "colourOf" "[I") (by decide +kernel)
  by_cases hw : ws a = a
  · refine lv_aload_n hx hb dX0_wishedColour_0 rfl (lv_at hl 0 rfl) ?_
    refine va_get (D := D) (ci := 0) (v := .ref (ad 4)) (C := RX0) (T := TX0) (N := 11) hx hb hts hin hown hK hP 0 rfl rfl 6 (by decide) f20 (fun _ h9 => h9) rfl dX0_wishedColour_1 ?_
    refine lv_iload_n hx hb dX0_wishedColour_4 rfl (lv_at hl 1 rfl) ?_
    refine px_iald (n := 200) (i := a) hx hb hK hP 4 0 rfl rfl (by omega) (by decide) dX0_wishedColour_5 ?_
    refine px_top (y := -1) (by rw [hW, if_pos hw]) ?_
    refine lv_istore_n (lv' := [(2, .int (-1)), (0, .ref (ad 0)), (1, .int (nI a))]) hx hb dX0_wishedColour_6 rfl hl (by decide) rfl (fun ls hl => ?_)
    refine lv_aload_n hx hb dX0_wishedColour_7 rfl (lv_at hl 1 rfl) ?_
    refine lv_iload_n hx hb dX0_wishedColour_8 rfl (lv_at hl 0 rfl) ?_
    refine px_rd (ci := 0) (q := (RX0, TX0, 11)) (v := px_b (pm_pt n (-1))) (rest := []) S hP hK (tX0_isPoint (by omega) (-1)) (cwV 1 hts gX0_wishedColour_X0_isPoint rfl rfl rfl (by decide +kernel) ⟨by decide, by decide⟩) rfl rfl rfl hl.1 rfl (Nat.le_of_ble_eq_true rfl) dX0_wishedColour_9 ⟨Nat.zero_le _, Nat.zero_le _⟩ ?_
    refine px_eqb (tgt := 24) hx hb dX0_wishedColour_12 (by decide) (fun h12 => ?_) (fun h12 => ?_)
    rotate_left
    · exact absurd h12 (by rw [pm_pt_f1 (by decide +kernel)]; decide)
    refine lv_iconst (v := -1) hx hb dX0_wishedColour_24 (by decide +kernel) ?_
    exact px_ri hx hb hr hlk (by first | rw [if_pos hw] | rw [if_neg hw]) dX0_wishedColour_25
  · refine lv_aload_n hx hb dX0_wishedColour_0 rfl (lv_at hl 0 rfl) ?_
    refine va_get (D := D) (ci := 0) (v := .ref (ad 4)) (C := RX0) (T := TX0) (N := 11) hx hb hts hin hown hK hP 0 rfl rfl 6 (by decide) f20 (fun _ h9 => h9) rfl dX0_wishedColour_1 ?_
    refine lv_iload_n hx hb dX0_wishedColour_4 rfl (lv_at hl 1 rfl) ?_
    refine px_iald (n := 200) (i := a) hx hb hK hP 4 0 rfl rfl (by omega) (by decide) dX0_wishedColour_5 ?_
    refine px_top (y := nI (ws a)) (by rw [hW, if_neg hw]) ?_
    refine lv_istore_n (lv' := [(2, .int (nI (ws a))), (0, .ref (ad 0)), (1, .int (nI a))]) hx hb dX0_wishedColour_6 rfl hl (by decide) rfl (fun ls hl => ?_)
    refine lv_aload_n hx hb dX0_wishedColour_7 rfl (lv_at hl 1 rfl) ?_
    refine lv_iload_n hx hb dX0_wishedColour_8 rfl (lv_at hl 0 rfl) ?_
    refine px_rd (ci := 0) (q := (RX0, TX0, 11)) (v := px_b (pm_pt n (nI (ws a)))) (rest := []) S hP hK (tX0_isPoint (by omega) (nI (ws a))) (cwV 1 hts gX0_wishedColour_X0_isPoint rfl rfl rfl (by decide +kernel) ⟨by decide, by decide⟩) rfl rfl rfl hl.1 rfl (Nat.le_of_ble_eq_true rfl) dX0_wishedColour_9 ⟨Nat.zero_le _, Nat.zero_le _⟩ ?_
    refine px_eqb (tgt := 24) hx hb dX0_wishedColour_12 (by decide) (fun h12 => ?_) (fun h12 => ?_)
    · exact absurd h12 (by rw [pm_pt_nI (by omega)]; simp; omega)
    refine lv_aload_n hx hb dX0_wishedColour_15 rfl (lv_at hl 1 rfl) ?_
    refine va_get (D := D) (ci := 0) (v := .ref (ad 8)) (C := RX0) (T := TX0) (N := 11) hx hb hts hin hown hK hP 0 rfl rfl 10 (by decide) f33 (fun _ h9 => h9) rfl dX0_wishedColour_16 ?_
    refine lv_iload_n hx hb dX0_wishedColour_19 rfl (lv_at hl 0 rfl) ?_
    refine px_iald (n := 200) (i := (ws a)) hx hb hK hP 8 0 rfl rfl (by omega) (by decide) dX0_wishedColour_20 ?_
    refine lv_goto (tgt := 25) hx hb dX0_wishedColour_21 (by decide) ?_
    exact px_ri hx hb hr hlk (by first | rw [if_pos hw] | rw [if_neg hw]) dX0_wishedColour_25
set_option maxHeartbeats 4000000 in
set_option maxRecDepth 100000 in
theorem tX0_coloursAround {l : Launch} {D : va_G} {cI cJ cZ : ClassId} {ad : Nat → Nat} {n k : Nat} {gv : Int32} {E : Nat → Int64} {G C Wi O IO NI CF : Nat → Int32} (J : Nat → Nat → Bool) (hJ : ∀ a b, a < 200 → b < 200 → pm_ed E a b = J a b) (hn : n ≤ 200) (a : Nat) (ha : a < n) : RdI l yX0_coloursAround wsX0_coloursAround (rmd 2) D (tyq cI cJ cZ) [.ref (ad 0), .int (nI a)] (w0 cI cJ cZ ad (nI n) (nI k) gv E G C Wi O IO NI CF) (pm_mk J CF a n) := by
  refine px_met (cc := cX0_coloursAround) (maxL := 4) (ret := (some .int)) (lv := [(0, .ref (ad 0)), (1, .int (nI a))]) (by decide +kernel) rfl (Nat.le_of_ble_eq_true rfl) rfl ?_
  intro p e s m below meth c ls S hr hlk hnm hv hl
  obtain ⟨hx, hb, hml, hown, hts⟩ := id S
  obtain ⟨hP, hK⟩ := hv
  have hin : ∀ w ∈ wsX00, w ∈ wsX0_coloursAround := fun w h => List.mem_cons_of_mem _ (List.mem_append_right _ h)
  have f66 := hts (.fieldLink RX0 66 "PointColours" "points" "I") (by decide +kernel)
  have f33 := hts (.fieldLink RX0 33 "PointColours" "colourOf" "[I") (by decide +kernel)
  have loop : ∀ (f i : Nat), n + 1 ≤ i + f → i ≤ n → ∀ ls : Array Slot, lv_has ls 4 [(2, .int (pm_mk J CF a i)), (3, .int (nI i)), (1, .int (nI a)), (0, .ref (ad 0))] → W p l e (rmd 2) s m ([.ref (ad 0), .int (nI a)] : List Value).toArray below meth c s.heap [] 0 0 (MQ below (vp_Si (fun r => r = pm_mk J CF a n)) ([.ref (ad 0), .int (nI a)] : List Value).toArray s 0 0 (fun _ => False)) (F0 m 4 ls []) := by
    intro f
    induction f with
    | zero => intro i h1 h2; exact absurd h1 (by omega)
    | succ f ih =>
      intro i h1 h2 ls hl
      refine lv_iload_n hx hb dX0_coloursAround_4 rfl (lv_at hl 1 rfl) ?_
      refine lv_aload_n hx hb dX0_coloursAround_5 rfl (lv_at hl 3 rfl) ?_
      refine va_get (D := D) (ci := 0) (v := .int (nI n)) (C := RX0) (T := TX0) (N := 11) hx hb hts hin hown hK hP 0 rfl rfl 0 (by decide) f66 (fun _ h9 => h9) rfl dX0_coloursAround_6 ?_
      refine px_ge (tgt := 48) hx hb dX0_coloursAround_9 (by decide) (by omega) (by omega) (fun h9 => ?_) (fun h9 => ?_)
      · refine lv_iload_n hx hb dX0_coloursAround_48 rfl (lv_at hl 0 rfl) ?_
        obtain rfl : i = n := by omega
        exact px_ri hx hb hr hlk rfl dX0_coloursAround_49
      · refine lv_aload_n hx hb dX0_coloursAround_12 rfl (lv_at hl 3 rfl) ?_
        refine va_get (D := D) (ci := 0) (v := .ref (ad 8)) (C := RX0) (T := TX0) (N := 11) hx hb hts hin hown hK hP 0 rfl rfl 10 (by decide) f33 (fun _ h9 => h9) rfl dX0_coloursAround_13 ?_
        refine lv_iload_n hx hb dX0_coloursAround_16 rfl (lv_at hl 1 rfl) ?_
        refine px_iald (n := 200) (i := i) hx hb hK hP 8 0 rfl rfl (by omega) (by decide) dX0_coloursAround_17 ?_
        refine lv_iconst (v := -1) hx hb dX0_coloursAround_18 (by decide +kernel) ?_
        refine lv_icmp_eq (tgt := 42) hx hb dX0_coloursAround_19 (by decide) (fun h19 => ?_) (fun h19 => ?_)
        · refine lv_iinc (v := nI (i + 1)) (lv' := [(3, .int (nI (i + 1))), (2, .int (pm_mk J CF a i)), (1, .int (nI a)), (0, .ref (ad 0))]) hx hb dX0_coloursAround_42 hl (k := 1) rfl (px_inc1 _) (by decide) rfl (fun ls hl => ?_)
          refine lv_goto (tgt := 4) hx hb dX0_coloursAround_45 (by decide) ?_
          exact ih (i + 1) (by omega) (by omega) ls (by rw [pm_mk]; first | (rw [if_pos h19]; exact lv_sub hl [1, 0, 2, 3] rfl) | (rw [if_neg h19, if_pos h28]; exact lv_sub hl [1, 0, 2, 3] rfl) | (rw [if_neg h19, if_neg (by rw [h28]; decide)]; exact lv_sub hl [1, 0, 2, 3] rfl))
        · refine lv_aload_n hx hb dX0_coloursAround_22 rfl (lv_at hl 3 rfl) ?_
          refine lv_iload_n hx hb dX0_coloursAround_23 rfl (lv_at hl 2 rfl) ?_
          refine lv_iload_n hx hb dX0_coloursAround_24 rfl (lv_at hl 1 rfl) ?_
          refine px_rd (ci := 0) (q := (RX0, TX0, 11)) (v := px_b (J a i)) (rest := []) S hP hK (tX0_hasEdge J hJ a i (by omega) (by omega)) (cwV 2 hts gX0_coloursAround_X0_hasEdge rfl rfl rfl (by decide +kernel) ⟨by decide, by decide⟩) rfl rfl rfl hl.1 rfl (Nat.le_of_ble_eq_true rfl) dX0_coloursAround_25 ⟨Nat.zero_le _, Nat.zero_le _⟩ ?_
          refine px_eqb (tgt := 42) hx hb dX0_coloursAround_28 (by decide) (fun h28 => ?_) (fun h28 => ?_)
          · refine lv_iinc (v := nI (i + 1)) (lv' := [(3, .int (nI (i + 1))), (2, .int (pm_mk J CF a i)), (1, .int (nI a)), (0, .ref (ad 0))]) hx hb dX0_coloursAround_42 hl (k := 1) rfl (px_inc1 _) (by decide) rfl (fun ls hl => ?_)
            refine lv_goto (tgt := 4) hx hb dX0_coloursAround_45 (by decide) ?_
            exact ih (i + 1) (by omega) (by omega) ls (by rw [pm_mk]; first | (rw [if_pos h19]; exact lv_sub hl [1, 0, 2, 3] rfl) | (rw [if_neg h19, if_pos h28]; exact lv_sub hl [1, 0, 2, 3] rfl) | (rw [if_neg h19, if_neg (by rw [h28]; decide)]; exact lv_sub hl [1, 0, 2, 3] rfl))
          · refine lv_iload_n hx hb dX0_coloursAround_31 rfl (lv_at hl 0 rfl) ?_
            refine lv_iconst (v := 1) hx hb dX0_coloursAround_32 (by decide +kernel) ?_
            refine lv_aload_n hx hb dX0_coloursAround_33 rfl (lv_at hl 3 rfl) ?_
            refine va_get (D := D) (ci := 0) (v := .ref (ad 8)) (C := RX0) (T := TX0) (N := 11) hx hb hts hin hown hK hP 0 rfl rfl 10 (by decide) f33 (fun _ h9 => h9) rfl dX0_coloursAround_34 ?_
            refine lv_iload_n hx hb dX0_coloursAround_37 rfl (lv_at hl 1 rfl) ?_
            refine px_iald (n := 200) (i := i) hx hb hK hP 8 0 rfl rfl (by omega) (by decide) dX0_coloursAround_38 ?_
            refine lv_ishl hx hb dX0_coloursAround_39 ?_
            refine lv_ior hx hb dX0_coloursAround_40 ?_
            refine lv_istore_n (lv' := [(2, .int ((pm_mk J CF a i) ||| (1 <<< ((CF i) &&& 31)))), (3, .int (nI i)), (1, .int (nI a)), (0, .ref (ad 0))]) hx hb dX0_coloursAround_41 rfl hl (by decide) rfl (fun ls hl => ?_)
            refine lv_iinc (v := nI (i + 1)) (lv' := [(3, .int (nI (i + 1))), (2, .int ((pm_mk J CF a i) ||| (1 <<< ((CF i) &&& 31)))), (1, .int (nI a)), (0, .ref (ad 0))]) hx hb dX0_coloursAround_42 hl (k := 1) rfl (px_inc1 _) (by decide) rfl (fun ls hl => ?_)
            refine lv_goto (tgt := 4) hx hb dX0_coloursAround_45 (by decide) ?_
            exact ih (i + 1) (by omega) (by omega) ls (by rw [pm_mk]; first | (rw [if_pos h19]; exact lv_sub hl [1, 0, 2, 3] rfl) | (rw [if_neg h19, if_pos h28]; exact lv_sub hl [1, 0, 2, 3] rfl) | (rw [if_neg h19, if_neg (by rw [h28]; decide)]; exact lv_sub hl [1, 0, 2, 3] rfl))
  refine lv_iconst (v := 0) hx hb dX0_coloursAround_0 (by decide +kernel) ?_
  refine lv_istore_n (lv' := [(2, .int 0), (0, .ref (ad 0)), (1, .int (nI a))]) hx hb dX0_coloursAround_1 rfl hl (by decide) rfl (fun ls hl => ?_)
  refine lv_iconst (v := nI 0) hx hb dX0_coloursAround_2 (by decide +kernel) ?_
  refine lv_istore_n (lv' := [(3, .int (nI 0)), (2, .int 0), (0, .ref (ad 0)), (1, .int (nI a))]) hx hb dX0_coloursAround_3 rfl hl (by decide) rfl (fun ls hl => ?_)
  exact loop (n + 1) 0 (by omega) (by omega) ls (lv_sub hl [1, 0, 3, 2] rfl)
set_option maxHeartbeats 4000000 in
set_option maxRecDepth 100000 in
theorem tX0_chooseColour {l : Launch} {D : va_G} {cI cJ cZ : ClassId} {ad : Nat → Nat} {n k : Nat} {gv : Int32} {E : Nat → Int64} {G C Wi O IO NI CF : Nat → Int32} (J : Nat → Nat → Bool) (hJ : ∀ a b, a < 200 → b < 200 → pm_ed E a b = J a b) (ws : Nat → Nat) (hn : n ≤ 200) (hk : k ≤ 30) (a : Nat) (ha : a < n) (hwn : ws a < n) (hW : Wi a = if ws a = a then -1 else nI (ws a)) (hcf : ∀ b, b < n → pm_ok k (CF b)) : RdI l yX0_chooseColour wsX0_chooseColour (rmd 3) D (tyq cI cJ cZ) [.ref (ad 0), .int (nI a)] (w0 cI cJ cZ ad (nI n) (nI k) gv E G C Wi O IO NI CF) (pm_ch J n k ws CF a) := by
  refine px_met (cc := cX0_chooseColour) (maxL := 5) (ret := (some .int)) (lv := [(0, .ref (ad 0)), (1, .int (nI a))]) (by decide +kernel) rfl (Nat.le_of_ble_eq_true rfl) rfl ?_
  intro p e s m below meth c ls S hr hlk hnm hv hl
  obtain ⟨hx, hb, hml, hown, hts⟩ := id S
  obtain ⟨hP, hK⟩ := hv
  have hin : ∀ w ∈ wsX00, w ∈ wsX0_chooseColour := fun w h => List.mem_cons_of_mem _ (List.mem_append_right _ h)
  have f70 := hts (.fieldLink RX0 70 "PointColours" "colours" "I") (by decide +kernel)
  have hok : pm_ok k (if ws a = a then -1 else CF (ws a)) := by
    by_cases q : ws a = a
    · rw [if_pos q]; exact Or.inl rfl
    · rw [if_neg q]; exact hcf _ hwn
  have loop : ∀ (f i : Nat), ¬ (ws a ≠ a ∧ ¬ CF (ws a) < 0 ∧ pm_fr J CF a (CF (ws a)) n = true) → k + 1 ≤ i + f → i ≤ k → pm_ft (fun c => pm_fr J CF a (nI c) n) i = none → ∀ ls : Array Slot, lv_has ls 5 [(4, .int (nI i)), (2, .int (pm_mk J CF a n)), (1, .int (nI a)), (0, .ref (ad 0))] → W p l e (rmd 3) s m ([.ref (ad 0), .int (nI a)] : List Value).toArray below meth c s.heap [] 0 0 (MQ below (vp_Si (fun r => r = pm_ch J n k ws CF a)) ([.ref (ad 0), .int (nI a)] : List Value).toArray s 0 0 (fun _ => False)) (F0 m 30 ls []) := by
    intro f
    induction f with
    | zero => intro i _ h1 h2; exact absurd h1 (by omega)
    | succ f ih =>
      intro i hno h1 h2 hft ls hl
      have ih := fun i => ih i hno
      refine lv_iload hx hb dX0_chooseColour_30 (lv_at hl 0 rfl) ?_
      refine lv_aload_n hx hb dX0_chooseColour_32 rfl (lv_at hl 3 rfl) ?_
      refine va_get (D := D) (ci := 0) (v := .int (nI k)) (C := RX0) (T := TX0) (N := 11) hx hb hts hin hown hK hP 0 rfl rfl 1 (by decide) f70 (fun _ h9 => h9) rfl dX0_chooseColour_33 ?_
      refine px_ge (tgt := 57) hx hb dX0_chooseColour_36 (by decide) (by omega) (by omega) (fun h36 => ?_) (fun h36 => ?_)
      · refine lv_iconst (v := -1) hx hb dX0_chooseColour_57 (by decide +kernel) ?_
        obtain rfl : i = k := by omega
        exact px_ri hx hb hr hlk (by rw [pm_ch, if_neg hno, hft]; rfl) dX0_chooseColour_58
      · refine lv_iload hx hb dX0_chooseColour_39 (lv_at hl 0 rfl) ?_
        refine lv_iload_n hx hb dX0_chooseColour_41 rfl (lv_at hl 1 rfl) ?_
        refine px_pu (v := px_b (!(pm_mk J CF a n).toBitVec.getLsbD i)) (rest := []) S (tX0_isFree i (pm_mk J CF a n) (by omega)) (va_cwS 2 hts gX0_chooseColour_X0_isFree rfl rfl rfl (by decide +kernel) ⟨by decide, by decide⟩) rfl hl.1 rfl (Nat.le_of_ble_eq_true rfl) dX0_chooseColour_42 ⟨Nat.zero_le _, Nat.zero_le _⟩ ?_
        refine px_eqb (tgt := 51) hx hb dX0_chooseColour_45 (by decide) (fun h45 => ?_) (fun h45 => ?_)
        · refine lv_iinc (v := nI (i + 1)) (lv' := [(4, .int (nI (i + 1))), (2, .int (pm_mk J CF a n)), (1, .int (nI a)), (0, .ref (ad 0))]) hx hb dX0_chooseColour_51 hl (k := 0) rfl (px_inc1 _) (by decide) rfl (fun ls hl => ?_)
          refine lv_goto (tgt := 30) hx hb dX0_chooseColour_54 (by decide) ?_
          exact ih (i + 1) (by omega) (by omega) (pm_ft_none hft (by rw [pm_mk_bit hk (by omega) n hcf] at h45; simpa using h45)) ls (lv_sub hl [0, 1, 2, 3] rfl)
        · refine lv_iload hx hb dX0_chooseColour_48 (lv_at hl 0 rfl) ?_
          exact px_ri hx hb hr hlk (by
          rw [pm_mk_bit hk (by omega) n hcf] at h45
          rw [pm_ch, if_neg hno, pm_ft_here (f := (fun c => pm_fr J CF a (nI c) n)) hft (by simpa using h45) (by omega)]; rfl) dX0_chooseColour_50
  refine lv_aload_n hx hb dX0_chooseColour_0 rfl (lv_at hl 0 rfl) ?_
  refine lv_iload_n hx hb dX0_chooseColour_1 rfl (lv_at hl 1 rfl) ?_
  refine px_rd (ci := 0) (q := (RX0, TX0, 11)) (v := pm_mk J CF a n) (rest := []) S hP hK (tX0_coloursAround J hJ hn a ha) (cwV 1 hts gX0_chooseColour_X0_coloursAround rfl rfl rfl (by decide +kernel) ⟨by decide, by decide⟩) rfl rfl rfl hl.1 rfl (Nat.le_of_ble_eq_true rfl) dX0_chooseColour_2 ⟨Nat.zero_le _, Nat.zero_le _⟩ ?_
  refine lv_istore_n (lv' := [(2, .int (pm_mk J CF a n)), (0, .ref (ad 0)), (1, .int (nI a))]) hx hb dX0_chooseColour_5 rfl hl (by decide) rfl (fun ls hl => ?_)
  refine lv_aload_n hx hb dX0_chooseColour_6 rfl (lv_at hl 1 rfl) ?_
  refine lv_iload_n hx hb dX0_chooseColour_7 rfl (lv_at hl 2 rfl) ?_
  refine px_rd (ci := 0) (q := (RX0, TX0, 11)) (v := if ws a = a then -1 else CF (ws a)) (rest := []) S hP hK (tX0_wishedColour ws hn a ha hwn hW) (cwV 1 hts gX0_chooseColour_X0_wishedColour rfl rfl rfl (by decide +kernel) ⟨by decide, by decide⟩) rfl rfl rfl hl.1 rfl (Nat.le_of_ble_eq_true rfl) dX0_chooseColour_8 ⟨Nat.zero_le _, Nat.zero_le _⟩ ?_
  refine lv_istore_n (lv' := [(3, .int (if ws a = a then -1 else CF (ws a))), (2, .int (pm_mk J CF a n)), (0, .ref (ad 0)), (1, .int (nI a))]) hx hb dX0_chooseColour_11 rfl hl (by decide) rfl (fun ls hl => ?_)
  rcases (hok : pm_ok k (if ws a = a then -1 else CF (ws a))) with hq | ⟨c0, hc0, hq⟩
  · have hl : lv_has ls 5 [(3, .int (-1)), (2, .int (pm_mk J CF a n)), (0, .ref (ad 0)), (1, .int (nI a))] := by rw [hq] at hl; exact hl
    refine lv_iload_n hx hb dX0_chooseColour_12 rfl (lv_at hl 0 rfl) ?_
    refine lv_iconst (v := -1) hx hb dX0_chooseColour_13 (by decide +kernel) ?_
    refine lv_icmp_eq (tgt := 27) hx hb dX0_chooseColour_14 (by decide) (fun h14 => ?_) (fun h14 => ?_)
    rotate_left
    · exact absurd rfl h14
    refine lv_iconst (v := nI 0) hx hb dX0_chooseColour_27 (by decide +kernel) ?_
    refine lv_istore (lv' := [(4, .int (nI 0)), (3, .int (-1)), (2, .int (pm_mk J CF a n)), (0, .ref (ad 0)), (1, .int (nI a))]) hx hb dX0_chooseColour_28 hl (by decide) rfl (fun ls hl => ?_)
    exact loop (k + 1) 0 (by intro hh; rw [if_neg hh.1] at hq; exact hh.2.1 (by rw [hq]; decide +kernel)) (by omega) (by omega) rfl ls (lv_sub hl [0, 2, 4, 3] rfl)
  · have hl : lv_has ls 5 [(3, .int (nI c0)), (2, .int (pm_mk J CF a n)), (0, .ref (ad 0)), (1, .int (nI a))] := by rw [hq] at hl; exact hl
    refine lv_iload_n hx hb dX0_chooseColour_12 rfl (lv_at hl 0 rfl) ?_
    refine lv_iconst (v := -1) hx hb dX0_chooseColour_13 (by decide +kernel) ?_
    refine lv_icmp_eq (tgt := 27) hx hb dX0_chooseColour_14 (by decide) (fun h14 => ?_) (fun h14 => ?_)
    · exact absurd h14 (pm_m1 (by omega))
    refine lv_iload_n hx hb dX0_chooseColour_17 rfl (lv_at hl 0 rfl) ?_
    refine lv_iload_n hx hb dX0_chooseColour_18 rfl (lv_at hl 1 rfl) ?_
    refine px_pu (v := px_b (!(pm_mk J CF a n).toBitVec.getLsbD c0)) (rest := []) S (tX0_isFree c0 (pm_mk J CF a n) (by omega)) (va_cwS 2 hts gX0_chooseColour_X0_isFree rfl rfl rfl (by decide +kernel) ⟨by decide, by decide⟩) rfl hl.1 rfl (Nat.le_of_ble_eq_true rfl) dX0_chooseColour_19 ⟨Nat.zero_le _, Nat.zero_le _⟩ ?_
    refine px_eqb (tgt := 27) hx hb dX0_chooseColour_22 (by decide) (fun h22 => ?_) (fun h22 => ?_)
    · refine lv_iconst (v := nI 0) hx hb dX0_chooseColour_27 (by decide +kernel) ?_
      refine lv_istore (lv' := [(4, .int (nI 0)), (3, .int (nI c0)), (2, .int (pm_mk J CF a n)), (0, .ref (ad 0)), (1, .int (nI a))]) hx hb dX0_chooseColour_28 hl (by decide) rfl (fun ls hl => ?_)
      exact loop (k + 1) 0 (by intro hh; rw [if_neg hh.1] at hq; rw [hq, ← Bool.not_eq_eq_eq_not.mpr (pm_mk_bit hk (by omega) n hcf)] at hh; rw [hh.2.2] at h22; cases h22) (by omega) (by omega) rfl ls (lv_sub hl [0, 2, 4, 3] rfl)
    · refine lv_iload_n hx hb dX0_chooseColour_25 rfl (lv_at hl 0 rfl) ?_
      exact px_ri hx hb hr hlk (by
          have hw : ws a ≠ a := fun q => by rw [if_pos q] at hq; exact pm_m1 (j := c0) (by omega) hq.symm
          rw [if_neg hw] at hq
          rw [pm_mk_bit hk (by omega) n hcf] at h22
          rw [pm_ch, if_pos ⟨hw, by rw [hq]; exact nI_pos (by omega), by rw [hq]; simpa using h22⟩, hq]) dX0_chooseColour_26
