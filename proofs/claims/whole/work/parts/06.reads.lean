set_option maxHeartbeats 4000000 in
set_option maxRecDepth 100000 in
theorem tX0_isCheaper {l : Launch} {D : va_G} {cI cJ cZ : ClassId} {ad : Nat → Nat} {n k : Nat} {gv : Int32} {E : Nat → Int64} {G C Wi O IO NI CF : Nat → Int32} {x1 x2 y1 y2 : Nat} (a b : Nat) (h1 : a < 200) (h2 : b < 200) (ha : C a = nI x1) (hd : NI b = nI y2) (hc : C b = nI x2) (he : NI a = nI y1) (b1 : x1 ≤ 1000000) (b2 : y2 ≤ 200) (b3 : x2 ≤ 1000000) (b4 : y1 ≤ 200) : RdI l yX0_isCheaper wsX0_isCheaper (rmd 0) D (tyq cI cJ cZ) [.ref (ad 0), .int (nI a), .int (nI b)] (w0 cI cJ cZ ad (nI n) (nI k) gv E G C Wi O IO NI CF) (px_b (decide (x1 * y2 < x2 * y1))) := by
  refine px_met (cc := cX0_isCheaper) (maxL := 3) (ret := (some .boolean)) (lv := [(0, .ref (ad 0)), (1, .int (nI a)), (2, .int (nI b))]) (by decide +kernel) rfl (Nat.le_of_ble_eq_true rfl) rfl ?_
  intro p e s m below meth c ls S hr hlk hnm hv hl
  obtain ⟨hx, hb, hml, hown, hts⟩ := id S
  obtain ⟨hP, hK⟩ := hv
  have hin : ∀ w ∈ wsX00, w ∈ wsX0_isCheaper := fun w h => List.mem_cons_of_mem _ (List.mem_append_right _ h)
  have f17 := hts (.fieldLink RX0 17 "PointColours" "costs" "[I") (by decide +kernel)
  have f30 := hts (.fieldLink RX0 30 "PointColours" "neighboursIn" "[I") (by decide +kernel)
  refine lv_aload_n hx hb dX0_isCheaper_0 rfl (lv_at hl 0 rfl) ?_
  refine va_get (D := D) (ci := 0) (v := .ref (ad 3)) (C := RX0) (T := TX0) (N := 11) hx hb hts hin hown hK hP 0 rfl rfl 5 (by decide) f17 (fun _ h9 => h9) rfl dX0_isCheaper_1 ?_
  refine lv_iload_n hx hb dX0_isCheaper_4 rfl (lv_at hl 1 rfl) ?_
  refine px_iald (n := 200) (i := a) hx hb hK hP 3 0 rfl rfl (by omega) (by decide) dX0_isCheaper_5 ?_
  refine px_top (y := nI x1) (ha) ?_
  refine lv_i2l (v := (nI x1).toInt64) hx hb dX0_isCheaper_6 rfl ?_
  refine lv_aload_n hx hb dX0_isCheaper_7 rfl (lv_at hl 0 rfl) ?_
  refine va_get (D := D) (ci := 0) (v := .ref (ad 7)) (C := RX0) (T := TX0) (N := 11) hx hb hts hin hown hK hP 0 rfl rfl 9 (by decide) f30 (fun _ h9 => h9) rfl dX0_isCheaper_8 ?_
  refine lv_iload_n hx hb dX0_isCheaper_11 rfl (lv_at hl 2 rfl) ?_
  refine px_iald (n := 200) (i := b) hx hb hK hP 7 0 rfl rfl (by omega) (by decide) dX0_isCheaper_12 ?_
  refine px_top (y := nI y2) (hd) ?_
  refine lv_i2l (v := (nI y2).toInt64) hx hb dX0_isCheaper_13 rfl ?_
  refine lv_lmul hx hb dX0_isCheaper_14 ?_
  refine lv_aload_n hx hb dX0_isCheaper_15 rfl (lv_at hl 0 rfl) ?_
  refine va_get (D := D) (ci := 0) (v := .ref (ad 3)) (C := RX0) (T := TX0) (N := 11) hx hb hts hin hown hK hP 0 rfl rfl 5 (by decide) f17 (fun _ h9 => h9) rfl dX0_isCheaper_16 ?_
  refine lv_iload_n hx hb dX0_isCheaper_19 rfl (lv_at hl 2 rfl) ?_
  refine px_iald (n := 200) (i := b) hx hb hK hP 3 0 rfl rfl (by omega) (by decide) dX0_isCheaper_20 ?_
  refine px_top (y := nI x2) (hc) ?_
  refine lv_i2l (v := (nI x2).toInt64) hx hb dX0_isCheaper_21 rfl ?_
  refine lv_aload_n hx hb dX0_isCheaper_22 rfl (lv_at hl 0 rfl) ?_
  refine va_get (D := D) (ci := 0) (v := .ref (ad 7)) (C := RX0) (T := TX0) (N := 11) hx hb hts hin hown hK hP 0 rfl rfl 9 (by decide) f30 (fun _ h9 => h9) rfl dX0_isCheaper_23 ?_
  refine lv_iload_n hx hb dX0_isCheaper_26 rfl (lv_at hl 1 rfl) ?_
  refine px_iald (n := 200) (i := a) hx hb hK hP 7 0 rfl rfl (by omega) (by decide) dX0_isCheaper_27 ?_
  refine px_top (y := nI y1) (he) ?_
  refine lv_i2l (v := (nI y1).toInt64) hx hb dX0_isCheaper_28 rfl ?_
  refine lv_lmul hx hb dX0_isCheaper_29 ?_
  refine W.lcmp hx hb dX0_isCheaper_30 ?_
  refine lv_if_ge (tgt := 38) hx hb dX0_isCheaper_31 (by decide) (fun h31 => ?_) (fun h31 => ?_)
  · refine lv_iconst (v := px_b false) hx hb dX0_isCheaper_38 (by decide +kernel) ?_
    exact px_rz hx hb hr hlk (by rw [pm_chp b1 b2 b3 b4] at h31; congr 1; simp; omega) dX0_isCheaper_39
  · refine lv_iconst (v := px_b true) hx hb dX0_isCheaper_34 (by decide +kernel) ?_
    refine lv_goto (tgt := 39) hx hb dX0_isCheaper_35 (by decide) ?_
    exact px_rz hx hb hr hlk (by rw [pm_chp b1 b2 b3 b4] at h31; congr 1; simp; omega) dX0_isCheaper_39
set_option maxHeartbeats 4000000 in
set_option maxRecDepth 100000 in
theorem tX0_nextOut {l : Launch} {D : va_G} {cI cJ cZ : ClassId} {ad : Nat → Nat} {n k : Nat} {gv : Int32} {E : Nat → Int64} {G C Wi O IO NI CF : Nat → Int32} (J : Nat → Nat → Bool) (cst : Nat → Nat) (inn : Nat → Bool) (hn : n ≤ 200) (hk : k ≤ 30) (hI : ∀ a, a < n → IO a = px_b (!inn a)) (hN : ∀ a, a < n → NI a = nI (pm_lf J n inn a)) (hC : ∀ a, a < 200 → C a = nI (cst a)) (hc1 : ∀ a, cst a ≤ 1000000) : RdI l yX0_nextOut wsX0_nextOut (rmd 1) D (tyq cI cJ cZ) [.ref (ad 0)] (w0 cI cJ cZ ad (nI n) (nI k) gv E G C Wi O IO NI CF) (pm_o (pm_nx J n k cst inn)) := by
  refine px_met (cc := cX0_nextOut) (maxL := 3) (ret := (some .int)) (lv := [(0, .ref (ad 0))]) (by decide +kernel) rfl (Nat.le_of_ble_eq_true rfl) rfl ?_
  intro p e s m below meth c ls S hr hlk hnm hv hl
  obtain ⟨hx, hb, hml, hown, hts⟩ := id S
  obtain ⟨hP, hK⟩ := hv
  have hin : ∀ w ∈ wsX00, w ∈ wsX0_nextOut := fun w h => List.mem_cons_of_mem _ (List.mem_append_right _ h)
  have f66 := hts (.fieldLink RX0 66 "PointColours" "points" "I") (by decide +kernel)
  have f26 := hts (.fieldLink RX0 26 "PointColours" "isOut" "[Z") (by decide +kernel)
  have f30 := hts (.fieldLink RX0 30 "PointColours" "neighboursIn" "[I") (by decide +kernel)
  have f70 := hts (.fieldLink RX0 70 "PointColours" "colours" "I") (by decide +kernel)
  have loop : ∀ (f i : Nat), n + 1 ≤ i + f → i ≤ n → pm_ft (pm_lo J n k inn) i = none → ∀ ls : Array Slot, lv_has ls 3 [(2, .int (nI i)), (1, .int (pm_o (pm_bs J n cst inn i))), (0, .ref (ad 0))] → W p l e (rmd 1) s m ([.ref (ad 0)] : List Value).toArray below meth c s.heap [] 0 0 (MQ below (vp_Si (fun r => r = pm_o (pm_nx J n k cst inn))) ([.ref (ad 0)] : List Value).toArray s 0 0 (fun _ => False)) (F0 m 4 ls []) := by
    intro f
    induction f with
    | zero => intro i h1 h2; exact absurd h1 (by omega)
    | succ f ih =>
      intro i h1 h2 hft ls hl
      refine lv_iload_n hx hb dX0_nextOut_4 rfl (lv_at hl 0 rfl) ?_
      refine lv_aload_n hx hb dX0_nextOut_5 rfl (lv_at hl 2 rfl) ?_
      refine va_get (D := D) (ci := 0) (v := .int (nI n)) (C := RX0) (T := TX0) (N := 11) hx hb hts hin hown hK hP 0 rfl rfl 0 (by decide) f66 (fun _ h9 => h9) rfl dX0_nextOut_6 ?_
      refine px_ge (tgt := 61) hx hb dX0_nextOut_9 (by decide) (by omega) (by omega) (fun h9 => ?_) (fun h9 => ?_)
      · refine lv_iload_n hx hb dX0_nextOut_61 rfl (lv_at hl 1 rfl) ?_
        obtain rfl : i = n := by omega
        exact px_ri hx hb hr hlk (by rw [pm_nx, hft]) dX0_nextOut_62
      · refine lv_aload_n hx hb dX0_nextOut_12 rfl (lv_at hl 2 rfl) ?_
        refine va_get (D := D) (ci := 0) (v := .ref (ad 6)) (C := RX0) (T := TX0) (N := 11) hx hb hts hin hown hK hP 0 rfl rfl 8 (by decide) f26 (fun _ h9 => h9) rfl dX0_nextOut_13 ?_
        refine lv_iload_n hx hb dX0_nextOut_16 rfl (lv_at hl 0 rfl) ?_
        refine px_zald (n := 200) (i := i) hx hb hK hP 6 2 rfl rfl (by omega) (by decide) dX0_nextOut_17 ?_
        refine px_top (y := px_b (!inn i)) (hI _ (by omega)) ?_
        refine px_eqb (tgt := 24) hx hb dX0_nextOut_18 (by decide) (fun h18 => ?_) (fun h18 => ?_)
        · have hi : inn i = true := by simpa using h18
          have hlf := pm_lf_le J n inn i
          refine lv_aload_n hx hb dX0_nextOut_24 rfl (lv_at hl 2 rfl) ?_
          refine va_get (D := D) (ci := 0) (v := .ref (ad 7)) (C := RX0) (T := TX0) (N := 11) hx hb hts hin hown hK hP 0 rfl rfl 9 (by decide) f30 (fun _ h9 => h9) rfl dX0_nextOut_25 ?_
          refine lv_iload_n hx hb dX0_nextOut_28 rfl (lv_at hl 0 rfl) ?_
          refine px_iald (n := 200) (i := i) hx hb hK hP 7 0 rfl rfl (by omega) (by decide) dX0_nextOut_29 ?_
          refine px_top (y := nI (pm_lf J n inn i)) (hN _ (by omega)) ?_
          refine lv_aload_n hx hb dX0_nextOut_30 rfl (lv_at hl 2 rfl) ?_
          refine va_get (D := D) (ci := 0) (v := .int (nI k)) (C := RX0) (T := TX0) (N := 11) hx hb hts hin hown hK hP 0 rfl rfl 1 (by decide) f70 (fun _ h9 => h9) rfl dX0_nextOut_31 ?_
          refine px_ge (tgt := 39) hx hb dX0_nextOut_34 (by decide) (by omega) (by omega) (fun h34 => ?_) (fun h34 => ?_)
          · have hlo : pm_lo J n k inn i = false := by simp [pm_lo, hi]; exact h34
            cases hB : pm_bs J n cst inn i with
            | none =>
              have hl : lv_has ls 3 [(2, .int (nI i)), (1, .int (-1)), (0, .ref (ad 0))] := by rw [hB] at hl; exact hl
              refine lv_iload_n hx hb dX0_nextOut_39 rfl (lv_at hl 1 rfl) ?_
              refine lv_iconst (v := -1) hx hb dX0_nextOut_40 (by decide +kernel) ?_
              refine lv_icmp_eq (tgt := 53) hx hb dX0_nextOut_41 (by decide) (fun h41 => ?_) (fun h41 => ?_)
              rotate_left
              · exact absurd rfl h41
              refine lv_iload_n hx hb dX0_nextOut_53 rfl (lv_at hl 0 rfl) ?_
              refine lv_istore_n (lv' := [(1, .int (nI i)), (2, .int (nI i)), (0, .ref (ad 0))]) hx hb dX0_nextOut_54 rfl hl (by decide) rfl (fun ls hl => ?_)
              refine lv_iinc (v := nI (i + 1)) (lv' := [(2, .int (nI (i + 1))), (1, .int (nI i)), (0, .ref (ad 0))]) hx hb dX0_nextOut_55 hl (k := 1) rfl (px_inc1 _) (by decide) rfl (fun ls hl => ?_)
              refine lv_goto (tgt := 4) hx hb dX0_nextOut_58 (by decide) ?_
              exact ih (i + 1) (by omega) (by omega) (pm_ft_none hft hlo) ls (by first | (have e : pm_bs J n cst inn (i + 1) = pm_bs J n cst inn i := by simp [pm_bs, hi]); rw [e]; exact lv_sub hl [0, 1, 2] rfl | (have e : pm_bs J n cst inn (i + 1) = some i := by simp [pm_bs, hi, hB]); rw [e]; exact lv_sub hl [0, 1, 2] rfl | (have e : pm_bs J n cst inn (i + 1) = some i := by simp [pm_bs, hi, hB, hch]); rw [e]; exact lv_sub hl [0, 1, 2] rfl | (have e : pm_bs J n cst inn (i + 1) = some b := by simp [pm_bs, hi, hB, hch]); rw [e]; exact lv_sub hl [0, 1, 2] rfl)
            | some b =>
              have hbi := pm_bs_lt hB
              have hl : lv_has ls 3 [(2, .int (nI i)), (1, .int (nI b)), (0, .ref (ad 0))] := by rw [hB] at hl; exact hl
              refine lv_iload_n hx hb dX0_nextOut_39 rfl (lv_at hl 1 rfl) ?_
              refine lv_iconst (v := -1) hx hb dX0_nextOut_40 (by decide +kernel) ?_
              refine lv_icmp_eq (tgt := 53) hx hb dX0_nextOut_41 (by decide) (fun h41 => ?_) (fun h41 => ?_)
              · exact absurd h41 (pm_m1 (by omega))
              refine lv_aload_n hx hb dX0_nextOut_44 rfl (lv_at hl 2 rfl) ?_
              refine lv_iload_n hx hb dX0_nextOut_45 rfl (lv_at hl 0 rfl) ?_
              refine lv_iload_n hx hb dX0_nextOut_46 rfl (lv_at hl 1 rfl) ?_
              refine px_rd (ci := 0) (q := (RX0, TX0, 11)) (v := px_b (decide (cst i * pm_lf J n inn b < cst b * pm_lf J n inn i))) (rest := []) S hP hK (tX0_isCheaper i b (by omega) (by omega) (hC _ (by omega)) (hN _ (by omega)) (hC _ (by omega)) (hN _ (by omega)) (hc1 _) (Nat.le_trans (pm_lf_le _ _ _ _) hn) (hc1 _) (Nat.le_trans (pm_lf_le _ _ _ _) hn)) (cwV 2 hts gX0_nextOut_X0_isCheaper rfl rfl rfl (by decide +kernel) ⟨by decide, by decide⟩) rfl rfl rfl hl.1 rfl (Nat.le_of_ble_eq_true rfl) dX0_nextOut_47 ⟨Nat.zero_le _, Nat.zero_le _⟩ ?_
              refine px_eqb (tgt := 55) hx hb dX0_nextOut_50 (by decide) (fun h50 => ?_) (fun h50 => ?_)
              · have hch := h50
                simp at hch
                have hch := Nat.not_lt.mpr hch
                refine lv_iinc (v := nI (i + 1)) (lv' := [(2, .int (nI (i + 1))), (1, .int (nI b)), (0, .ref (ad 0))]) hx hb dX0_nextOut_55 hl (k := 0) rfl (px_inc1 _) (by decide) rfl (fun ls hl => ?_)
                refine lv_goto (tgt := 4) hx hb dX0_nextOut_58 (by decide) ?_
                exact ih (i + 1) (by omega) (by omega) (pm_ft_none hft hlo) ls (by first | (have e : pm_bs J n cst inn (i + 1) = pm_bs J n cst inn i := by simp [pm_bs, hi]); rw [e]; exact lv_sub hl [0, 1, 2] rfl | (have e : pm_bs J n cst inn (i + 1) = some i := by simp [pm_bs, hi, hB]); rw [e]; exact lv_sub hl [0, 1, 2] rfl | (have e : pm_bs J n cst inn (i + 1) = some i := by simp [pm_bs, hi, hB, hch]); rw [e]; exact lv_sub hl [0, 1, 2] rfl | (have e : pm_bs J n cst inn (i + 1) = some b := by simp [pm_bs, hi, hB, hch]); rw [e]; exact lv_sub hl [0, 1, 2] rfl)
              · have hch := h50
                simp at hch
                refine lv_iload_n hx hb dX0_nextOut_53 rfl (lv_at hl 0 rfl) ?_
                refine lv_istore_n (lv' := [(1, .int (nI i)), (2, .int (nI i)), (0, .ref (ad 0))]) hx hb dX0_nextOut_54 rfl hl (by decide) rfl (fun ls hl => ?_)
                refine lv_iinc (v := nI (i + 1)) (lv' := [(2, .int (nI (i + 1))), (1, .int (nI i)), (0, .ref (ad 0))]) hx hb dX0_nextOut_55 hl (k := 1) rfl (px_inc1 _) (by decide) rfl (fun ls hl => ?_)
                refine lv_goto (tgt := 4) hx hb dX0_nextOut_58 (by decide) ?_
                exact ih (i + 1) (by omega) (by omega) (pm_ft_none hft hlo) ls (by first | (have e : pm_bs J n cst inn (i + 1) = pm_bs J n cst inn i := by simp [pm_bs, hi]); rw [e]; exact lv_sub hl [0, 1, 2] rfl | (have e : pm_bs J n cst inn (i + 1) = some i := by simp [pm_bs, hi, hB]); rw [e]; exact lv_sub hl [0, 1, 2] rfl | (have e : pm_bs J n cst inn (i + 1) = some i := by simp [pm_bs, hi, hB, hch]); rw [e]; exact lv_sub hl [0, 1, 2] rfl | (have e : pm_bs J n cst inn (i + 1) = some b := by simp [pm_bs, hi, hB, hch]); rw [e]; exact lv_sub hl [0, 1, 2] rfl)
          · refine lv_iload_n hx hb dX0_nextOut_37 rfl (lv_at hl 0 rfl) ?_
            exact px_ri hx hb hr hlk (by rw [pm_nx, pm_ft_here hft (by simp [pm_lo, hi, h34]) (by omega)]; rfl) dX0_nextOut_38
        · have hi : inn i = false := by simpa using h18
          have hlo : pm_lo J n k inn i = false := by simp [pm_lo, hi]
          refine lv_goto (tgt := 55) hx hb dX0_nextOut_21 (by decide) ?_
          refine lv_iinc (v := nI (i + 1)) (lv' := [(2, .int (nI (i + 1))), (1, .int (pm_o (pm_bs J n cst inn i))), (0, .ref (ad 0))]) hx hb dX0_nextOut_55 hl (k := 0) rfl (px_inc1 _) (by decide) rfl (fun ls hl => ?_)
          refine lv_goto (tgt := 4) hx hb dX0_nextOut_58 (by decide) ?_
          exact ih (i + 1) (by omega) (by omega) (pm_ft_none hft hlo) ls (by first | (have e : pm_bs J n cst inn (i + 1) = pm_bs J n cst inn i := by simp [pm_bs, hi]); rw [e]; exact lv_sub hl [0, 1, 2] rfl | (have e : pm_bs J n cst inn (i + 1) = some i := by simp [pm_bs, hi, hB]); rw [e]; exact lv_sub hl [0, 1, 2] rfl | (have e : pm_bs J n cst inn (i + 1) = some i := by simp [pm_bs, hi, hB, hch]); rw [e]; exact lv_sub hl [0, 1, 2] rfl | (have e : pm_bs J n cst inn (i + 1) = some b := by simp [pm_bs, hi, hB, hch]); rw [e]; exact lv_sub hl [0, 1, 2] rfl)
  refine lv_iconst (v := -1) hx hb dX0_nextOut_0 (by decide +kernel) ?_
  refine lv_istore_n (lv' := [(1, .int (-1)), (0, .ref (ad 0))]) hx hb dX0_nextOut_1 rfl hl (by decide) rfl (fun ls hl => ?_)
  refine lv_iconst (v := nI 0) hx hb dX0_nextOut_2 (by decide +kernel) ?_
  refine lv_istore_n (lv' := [(2, .int (nI 0)), (1, .int (-1)), (0, .ref (ad 0))]) hx hb dX0_nextOut_3 rfl hl (by decide) rfl (fun ls hl => ?_)
  exact loop (n + 1) 0 (by omega) (by omega) rfl ls (lv_sub hl [0, 1, 2] rfl)
set_option maxHeartbeats 4000000 in
set_option maxRecDepth 100000 in
theorem tX0_countColourless {l : Launch} {D : va_G} {cI cJ cZ : ClassId} {ad : Nat → Nat} {n k : Nat} {gv : Int32} {E : Nat → Int64} {G C Wi O IO NI CF : Nat → Int32} (hn : n ≤ 200) : RdI l yX0_countColourless wsX0_countColourless (rmd 0) D (tyq cI cJ cZ) [.ref (ad 0)] (w0 cI cJ cZ ad (nI n) (nI k) gv E G C Wi O IO NI CF) (nI (pm_cn (fun q => decide (CF q = -1)) n)) := by
  refine px_met (cc := cX0_countColourless) (maxL := 3) (ret := (some .int)) (lv := [(0, .ref (ad 0))]) (by decide +kernel) rfl (Nat.le_of_ble_eq_true rfl) rfl ?_
  intro p e s m below meth c ls S hr hlk hnm hv hl
  obtain ⟨hx, hb, hml, hown, hts⟩ := id S
  obtain ⟨hP, hK⟩ := hv
  have hin : ∀ w ∈ wsX00, w ∈ wsX0_countColourless := fun w h => List.mem_cons_of_mem _ (List.mem_append_right _ h)
  have f66 := hts (.fieldLink RX0 66 "PointColours" "points" "I") (by decide +kernel)
  have f33 := hts (.fieldLink RX0 33 "PointColours" "colourOf" "[I") (by decide +kernel)
  have loop : ∀ (f i : Nat), n + 1 ≤ i + f → i ≤ n → ∀ ls : Array Slot, lv_has ls 3 [(1, .int (nI (pm_cn (fun q => decide (CF q = -1)) i))), (2, .int (nI i)), (0, .ref (ad 0))] → W p l e (rmd 0) s m ([.ref (ad 0)] : List Value).toArray below meth c s.heap [] 0 0 (MQ below (vp_Si (fun r => r = nI (pm_cn (fun q => decide (CF q = -1)) n))) ([.ref (ad 0)] : List Value).toArray s 0 0 (fun _ => False)) (F0 m 4 ls []) := by
    intro f
    induction f with
    | zero => intro i h1 h2; exact absurd h1 (by omega)
    | succ f ih =>
      intro i h1 h2 ls hl
      refine lv_iload_n hx hb dX0_countColourless_4 rfl (lv_at hl 1 rfl) ?_
      refine lv_aload_n hx hb dX0_countColourless_5 rfl (lv_at hl 2 rfl) ?_
      refine va_get (D := D) (ci := 0) (v := .int (nI n)) (C := RX0) (T := TX0) (N := 11) hx hb hts hin hown hK hP 0 rfl rfl 0 (by decide) f66 (fun _ h9 => h9) rfl dX0_countColourless_6 ?_
      refine px_ge (tgt := 31) hx hb dX0_countColourless_9 (by decide) (by omega) (by omega) (fun h9 => ?_) (fun h9 => ?_)
      · refine lv_iload_n hx hb dX0_countColourless_31 rfl (lv_at hl 0 rfl) ?_
        obtain rfl : i = n := by omega
        exact px_ri hx hb hr hlk rfl dX0_countColourless_32
      · refine lv_aload_n hx hb dX0_countColourless_12 rfl (lv_at hl 2 rfl) ?_
        refine va_get (D := D) (ci := 0) (v := .ref (ad 8)) (C := RX0) (T := TX0) (N := 11) hx hb hts hin hown hK hP 0 rfl rfl 10 (by decide) f33 (fun _ h9 => h9) rfl dX0_countColourless_13 ?_
        refine lv_iload_n hx hb dX0_countColourless_16 rfl (lv_at hl 1 rfl) ?_
        refine px_iald (n := 200) (i := i) hx hb hK hP 8 0 rfl rfl (by omega) (by decide) dX0_countColourless_17 ?_
        refine lv_iconst (v := -1) hx hb dX0_countColourless_18 (by decide +kernel) ?_
        refine lv_icmp_ne (tgt := 25) hx hb dX0_countColourless_19 (by decide) (fun h19 => ?_) (fun h19 => ?_)
        · refine lv_iinc (v := nI (i + 1)) (lv' := [(2, .int (nI (i + 1))), (1, .int (nI (pm_cn (fun q => decide (CF q = -1)) i))), (0, .ref (ad 0))]) hx hb dX0_countColourless_25 hl (k := 1) rfl (px_inc1 _) (by decide) rfl (fun ls hl => ?_)
          refine lv_goto (tgt := 4) hx hb dX0_countColourless_28 (by decide) ?_
          exact ih (i + 1) (by omega) (by omega) ls (by first | (rw [pm_cn_1 (f := (fun q => decide (CF q = -1))) (by simpa using h19)]; exact lv_sub hl [1, 0, 2] rfl) | (rw [pm_cn_0 (f := (fun q => decide (CF q = -1))) (by simpa using h19)]; exact lv_sub hl [1, 0, 2] rfl))
        · refine lv_iinc (v := nI (pm_cn (fun q => decide (CF q = -1)) i + 1)) (lv' := [(1, .int (nI (pm_cn (fun q => decide (CF q = -1)) i + 1))), (2, .int (nI i)), (0, .ref (ad 0))]) hx hb dX0_countColourless_22 hl (k := 0) rfl (px_inc1 _) (by decide) rfl (fun ls hl => ?_)
          refine lv_iinc (v := nI (i + 1)) (lv' := [(2, .int (nI (i + 1))), (1, .int (nI (pm_cn (fun q => decide (CF q = -1)) i + 1))), (0, .ref (ad 0))]) hx hb dX0_countColourless_25 hl (k := 1) rfl (px_inc1 _) (by decide) rfl (fun ls hl => ?_)
          refine lv_goto (tgt := 4) hx hb dX0_countColourless_28 (by decide) ?_
          exact ih (i + 1) (by omega) (by omega) ls (by first | (rw [pm_cn_1 (f := (fun q => decide (CF q = -1))) (by simpa using h19)]; exact lv_sub hl [1, 0, 2] rfl) | (rw [pm_cn_0 (f := (fun q => decide (CF q = -1))) (by simpa using h19)]; exact lv_sub hl [1, 0, 2] rfl))
  refine lv_iconst (v := nI 0) hx hb dX0_countColourless_0 (by decide +kernel) ?_
  refine lv_istore_n (lv' := [(1, .int (nI 0)), (0, .ref (ad 0))]) hx hb dX0_countColourless_1 rfl hl (by decide) rfl (fun ls hl => ?_)
  refine lv_iconst (v := nI 0) hx hb dX0_countColourless_2 (by decide +kernel) ?_
  refine lv_istore_n (lv' := [(2, .int (nI 0)), (1, .int (nI 0)), (0, .ref (ad 0))]) hx hb dX0_countColourless_3 rfl hl (by decide) rfl (fun ls hl => ?_)
  exact loop (n + 1) 0 (by omega) (by omega) ls (lv_sub hl [1, 0, 2] rfl)
