set_option maxHeartbeats 4000000 in
set_option maxRecDepth 100000 in
theorem tX0_isPoint {l : Launch} {D : va_G} {cI cJ cZ : ClassId} {ad : Nat → Nat} {n k : Nat} {gv : Int32} {E : Nat → Int64} {G C Wi O IO NI CF : Nat → Int32} (hn : n < 2 ^ 31) (a : Int32) : RdI l yX0_isPoint wsX0_isPoint (rmd 0) D (tyq cI cJ cZ) [.ref (ad 0), .int a] (w0 cI cJ cZ ad (nI n) (nI k) gv E G C Wi O IO NI CF) (px_b (pm_pt n a)) := by
  refine px_met (cc := cX0_isPoint) (maxL := 2) (ret := (some .boolean)) (lv := [(0, .ref (ad 0)), (1, .int a)]) (by decide +kernel) rfl (Nat.le_of_ble_eq_true rfl) rfl ?_
  intro p e s m below meth c ls S hr hlk hnm hv hl
  obtain ⟨hx, hb, hml, hown, hts⟩ := id S
  obtain ⟨hP, hK⟩ := hv
  have hin : ∀ w ∈ wsX00, w ∈ wsX0_isPoint := fun w h => List.mem_cons_of_mem _ (List.mem_append_right _ h)
  have f66 := hts (.fieldLink RX0 66 "PointColours" "points" "I") (by decide +kernel)
  refine lv_iload_n hx hb dX0_isPoint_0 rfl (lv_at hl 1 rfl) ?_
  refine lv_if_lt (tgt := 16) hx hb dX0_isPoint_1 (by decide) (fun h1 => ?_) (fun h1 => ?_)
  · refine lv_iconst (v := px_b false) hx hb dX0_isPoint_16 (by decide +kernel) ?_
    exact px_rz hx hb hr hlk (by first | rw [pm_pt_f1 h1] | rw [pm_pt_f2 hn h9] | rw [pm_pt_t hn h1 h9]) dX0_isPoint_17
  · refine lv_iload_n hx hb dX0_isPoint_4 rfl (lv_at hl 1 rfl) ?_
    refine lv_aload_n hx hb dX0_isPoint_5 rfl (lv_at hl 0 rfl) ?_
    refine va_get (D := D) (ci := 0) (v := .int (nI n)) (C := RX0) (T := TX0) (N := 11) hx hb hts hin hown hK hP 0 rfl rfl 0 (by decide) f66 (fun _ h9 => h9) rfl dX0_isPoint_6 ?_
    refine lv_icmp_ge (tgt := 16) hx hb dX0_isPoint_9 (by decide) (fun h9 => ?_) (fun h9 => ?_)
    · refine lv_iconst (v := px_b false) hx hb dX0_isPoint_16 (by decide +kernel) ?_
      exact px_rz hx hb hr hlk (by first | rw [pm_pt_f1 h1] | rw [pm_pt_f2 hn h9] | rw [pm_pt_t hn h1 h9]) dX0_isPoint_17
    · refine lv_iconst (v := px_b true) hx hb dX0_isPoint_12 (by decide +kernel) ?_
      refine lv_goto (tgt := 17) hx hb dX0_isPoint_13 (by decide) ?_
      exact px_rz hx hb hr hlk (by first | rw [pm_pt_f1 h1] | rw [pm_pt_f2 hn h9] | rw [pm_pt_t hn h1 h9]) dX0_isPoint_17
set_option maxHeartbeats 4000000 in
set_option maxRecDepth 100000 in
theorem tX1_isPoint {l : Launch} {D : va_G} {cI cJ cZ : ClassId} {bd : Nat → Nat} {n k : Nat} {gv : Int32} {PA C Wi CO RW IN : Nat → Int32} (hn : n < 2 ^ 31) (a : Int32) : RdI l yX1_isPoint wsX1_isPoint (rmd 0) D (tyq cI cJ cZ) [.ref (bd 0), .int a] (w1 cI cZ bd (nI n) (nI k) gv PA C Wi CO RW IN) (px_b (pm_pt n a)) := by
  refine px_met (cc := cX1_isPoint) (maxL := 2) (ret := (some .boolean)) (lv := [(0, .ref (bd 0)), (1, .int a)]) (by decide +kernel) rfl (Nat.le_of_ble_eq_true rfl) rfl ?_
  intro p e s m below meth c ls S hr hlk hnm hv hl
  obtain ⟨hx, hb, hml, hown, hts⟩ := id S
  obtain ⟨hP, hK⟩ := hv
  have hin : ∀ w ∈ wsX10, w ∈ wsX1_isPoint := fun w h => List.mem_cons_of_mem _ (List.mem_append_right _ h)
  have f34 := hts (.fieldLink RX1 34 "PointColoursModel" "n" "I") (by decide +kernel)
  refine lv_iload_n hx hb dX1_isPoint_0 rfl (lv_at hl 1 rfl) ?_
  refine lv_if_lt (tgt := 16) hx hb dX1_isPoint_1 (by decide) (fun h1 => ?_) (fun h1 => ?_)
  · refine lv_iconst (v := px_b false) hx hb dX1_isPoint_16 (by decide +kernel) ?_
    exact px_rz hx hb hr hlk (by first | rw [pm_pt_f1 h1] | rw [pm_pt_f2 hn h9] | rw [pm_pt_t hn h1 h9]) dX1_isPoint_17
  · refine lv_iload_n hx hb dX1_isPoint_4 rfl (lv_at hl 1 rfl) ?_
    refine lv_aload_n hx hb dX1_isPoint_5 rfl (lv_at hl 0 rfl) ?_
    refine va_get (D := D) (ci := 1) (v := .int (nI n)) (C := RX1) (T := TX1) (N := 9) hx hb hts hin hown hK hP 0 rfl rfl 6 (by decide) f34 (fun _ h9 => h9) rfl dX1_isPoint_6 ?_
    refine lv_icmp_ge (tgt := 16) hx hb dX1_isPoint_9 (by decide) (fun h9 => ?_) (fun h9 => ?_)
    · refine lv_iconst (v := px_b false) hx hb dX1_isPoint_16 (by decide +kernel) ?_
      exact px_rz hx hb hr hlk (by first | rw [pm_pt_f1 h1] | rw [pm_pt_f2 hn h9] | rw [pm_pt_t hn h1 h9]) dX1_isPoint_17
    · refine lv_iconst (v := px_b true) hx hb dX1_isPoint_12 (by decide +kernel) ?_
      refine lv_goto (tgt := 17) hx hb dX1_isPoint_13 (by decide) ?_
      exact px_rz hx hb hr hlk (by first | rw [pm_pt_f1 h1] | rw [pm_pt_f2 hn h9] | rw [pm_pt_t hn h1 h9]) dX1_isPoint_17
set_option maxHeartbeats 4000000 in
set_option maxRecDepth 100000 in
theorem tX0_wordOf {l : Launch} (a b : Nat) (h2 : b < 2 ^ 31) : PuI l yX0_wordOf wsX0_wordOf (rmd 0) [.int (nI a), .int (nI b)] (nI (a * 4 + b / 64)) := by
  refine px_met (cc := cX0_wordOf) (maxL := 2) (ret := (some .int)) (lv := [(0, .int (nI a)), (1, .int (nI b))]) (by decide +kernel) rfl (Nat.le_of_ble_eq_true rfl) rfl ?_
  intro p e s m below meth c ls S hr hlk hnm hv hl
  obtain ⟨hx, hb, hml, hown, hts⟩ := id S
  refine lv_iload_n hx hb dX0_wordOf_0 rfl (lv_at hl 0 rfl) ?_
  refine lv_iconst (v := nI 4) hx hb dX0_wordOf_1 (by decide +kernel) ?_
  refine px_mul hx hb dX0_wordOf_2 ?_
  refine lv_iload_n hx hb dX0_wordOf_3 rfl (lv_at hl 1 rfl) ?_
  refine lv_bipush (v := nI 64) hx hb dX0_wordOf_4 (by decide +kernel) ?_
  refine px_div hx hb dX0_wordOf_6 (by omega) (by decide) (by decide) ?_
  refine px_add hx hb dX0_wordOf_7 ?_
  exact px_ri hx hb hr hlk rfl dX0_wordOf_8
set_option maxHeartbeats 4000000 in
set_option maxRecDepth 100000 in
theorem tX0_bitOf {l : Launch} (b : Nat) (h2 : b < 2 ^ 31) : PuL l yX0_bitOf wsX0_bitOf (rmd 0) [.int (nI b)] (pm_bit b) := by
  refine px_met (cc := cX0_bitOf) (maxL := 1) (ret := (some .long)) (lv := [(0, .int (nI b))]) (by decide +kernel) rfl (Nat.le_of_ble_eq_true rfl) rfl ?_
  intro p e s m below meth c ls S hr hlk hnm hv hl
  obtain ⟨hx, hb, hml, hown, hts⟩ := id S
  refine lv_lconst (v := 1) hx hb dX0_bitOf_0 (by decide +kernel) ?_
  refine lv_iload_n hx hb dX0_bitOf_1 rfl (lv_at hl 0 rfl) ?_
  refine lv_bipush (v := nI 64) hx hb dX0_bitOf_2 (by decide +kernel) ?_
  refine px_rem hx hb dX0_bitOf_4 (by omega) (by decide) (by decide) ?_
  refine lv_lshl (v := 1 <<< ((nI (b % 64)).toInt64 &&& 63)) hx hb dX0_bitOf_5 rfl ?_
  exact px_rl hx hb hr hlk rfl dX0_bitOf_6
set_option maxHeartbeats 4000000 in
set_option maxRecDepth 100000 in
theorem tX0_hasEdge {l : Launch} {D : va_G} {cI cJ cZ : ClassId} {ad : Nat → Nat} {pt co gv : Int32} {E : Nat → Int64} {G C Wi O IO NI CF : Nat → Int32} (J : Nat → Nat → Bool) (hJ : ∀ a b, a < 200 → b < 200 → pm_ed E a b = J a b) (a b : Nat) (h1 : a < 200) (h2 : b < 200) : RdI l yX0_hasEdge wsX0_hasEdge (rmd 1) D (tyq cI cJ cZ) [.ref (ad 0), .int (nI a), .int (nI b)] (w0 cI cJ cZ ad pt co gv E G C Wi O IO NI CF) (px_b (J a b)) := by
  rw [← hJ a b h1 h2]
  refine px_met (cc := cX0_hasEdge) (maxL := 3) (ret := (some .boolean)) (lv := [(0, .ref (ad 0)), (1, .int (nI a)), (2, .int (nI b))]) (by decide +kernel) rfl (Nat.le_of_ble_eq_true rfl) rfl ?_
  intro p e s m below meth c ls S hr hlk hnm hv hl
  obtain ⟨hx, hb, hml, hown, hts⟩ := id S
  obtain ⟨hP, hK⟩ := hv
  have hin : ∀ w ∈ wsX00, w ∈ wsX0_hasEdge := fun w h => List.mem_cons_of_mem _ (List.mem_append_right _ h)
  have f9 := hts (.fieldLink RX0 9 "PointColours" "edges" "[J") (by decide +kernel)
  refine lv_aload_n hx hb dX0_hasEdge_0 rfl (lv_at hl 0 rfl) ?_
  refine va_get (D := D) (ci := 0) (v := .ref (ad 1)) (C := RX0) (T := TX0) (N := 11) hx hb hts hin hown hK hP 0 rfl rfl 3 (by decide) f9 (fun _ h9 => h9) rfl dX0_hasEdge_1 ?_
  refine lv_iload_n hx hb dX0_hasEdge_4 rfl (lv_at hl 1 rfl) ?_
  refine lv_iload_n hx hb dX0_hasEdge_5 rfl (lv_at hl 2 rfl) ?_
  refine px_pu (v := nI (a * 4 + b / 64)) (rest := [.ref (ad 1)]) S (tX0_wordOf a b (by omega)) (va_cwS 2 hts gX0_hasEdge_X0_wordOf rfl rfl rfl (by decide +kernel) ⟨by decide, by decide⟩) rfl hl.1 rfl (Nat.le_of_ble_eq_true rfl) dX0_hasEdge_6 ⟨Nat.zero_le _, Nat.zero_le _⟩ ?_
  refine px_lald (n := 800) (i := (a * 4 + b / 64)) hx hb hK hP 1 1 rfl rfl (by omega) (by decide) dX0_hasEdge_9 ?_
  refine lv_iload_n hx hb dX0_hasEdge_10 rfl (lv_at hl 2 rfl) ?_
  refine px_pl (v := pm_bit b) (rest := [.long (E (a * 4 + b / 64))]) S (tX0_bitOf b (by omega)) (va_cwS 1 hts gX0_hasEdge_X0_bitOf rfl rfl rfl (by decide +kernel) ⟨by decide, by decide⟩) rfl hl.1 rfl (Nat.le_of_ble_eq_true rfl) dX0_hasEdge_11 ⟨Nat.zero_le _, Nat.zero_le _⟩ ?_
  refine lv_land hx hb dX0_hasEdge_14 ?_
  refine lv_lconst (v := 0) hx hb dX0_hasEdge_15 (by decide +kernel) ?_
  refine W.lcmp hx hb dX0_hasEdge_16 ?_
  refine lv_if_eq (tgt := 24) hx hb dX0_hasEdge_17 (by decide) (fun h17 => ?_) (fun h17 => ?_)
  · refine lv_iconst (v := px_b false) hx hb dX0_hasEdge_24 (by decide +kernel) ?_
    exact px_rz hx hb hr hlk (by rw [lg_cmp_eq, pm_bit_and] at h17; simp [pm_ed, h17]) dX0_hasEdge_25
  · refine lv_iconst (v := px_b true) hx hb dX0_hasEdge_20 (by decide +kernel) ?_
    refine lv_goto (tgt := 25) hx hb dX0_hasEdge_21 (by decide) ?_
    exact px_rz hx hb hr hlk (by rw [lg_cmp_eq, pm_bit_and] at h17; simp [pm_ed, h17]) dX0_hasEdge_25
set_option maxHeartbeats 4000000 in
set_option maxRecDepth 100000 in
theorem tX0_isFree {l : Launch} (c0 : Nat) (x : Int32) (hc : c0 < 32) : PuI l yX0_isFree wsX0_isFree (rmd 0) [.int (nI c0), .int x] (px_b (!x.toBitVec.getLsbD c0)) := by
  refine px_met (cc := cX0_isFree) (maxL := 2) (ret := (some .boolean)) (lv := [(0, .int (nI c0)), (1, .int x)]) (by decide +kernel) rfl (Nat.le_of_ble_eq_true rfl) rfl ?_
  intro p e s m below meth c ls S hr hlk hnm hv hl
  obtain ⟨hx, hb, hml, hown, hts⟩ := id S
  refine lv_iload_n hx hb dX0_isFree_0 rfl (lv_at hl 1 rfl) ?_
  refine lv_iconst (v := 1) hx hb dX0_isFree_1 (by decide +kernel) ?_
  refine lv_iload_n hx hb dX0_isFree_2 rfl (lv_at hl 0 rfl) ?_
  refine lv_ishl hx hb dX0_isFree_3 ?_
  refine lv_iand hx hb dX0_isFree_4 ?_
  refine lv_if_ne (tgt := 12) hx hb dX0_isFree_5 (by decide) (fun h5 => ?_) (fun h5 => ?_)
  · refine lv_iconst (v := px_b false) hx hb dX0_isFree_12 (by decide +kernel) ?_
    exact px_rz hx hb hr hlk (by first | (have h5 := (pm_b32_and x hc).mp h5; rw [h5]; rfl) | (have h5 : ¬ x &&& pm_b32 c0 = 0 := h5; rw [pm_b32_and x hc] at h5; simp at h5; rw [h5]; rfl)) dX0_isFree_13
  · refine lv_iconst (v := px_b true) hx hb dX0_isFree_8 (by decide +kernel) ?_
    refine lv_goto (tgt := 13) hx hb dX0_isFree_9 (by decide) ?_
    exact px_rz hx hb hr hlk (by first | (have h5 := (pm_b32_and x hc).mp h5; rw [h5]; rfl) | (have h5 : ¬ x &&& pm_b32 c0 = 0 := h5; rw [pm_b32_and x hc] at h5; simp at h5; rw [h5]; rfl)) dX0_isFree_13
