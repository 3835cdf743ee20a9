theorem pm_fr_step {J : Nat → Nat → Bool} {col : Nat → Int32} {a i : Nat} {c : Int32} (h : pm_fr J col a c i = true) (h2 : (J a i && decide (col i = c)) = false) : pm_fr J col a c (i + 1) = true := by simp [pm_fr, h, h2]
theorem pm_fr_no {J : Nat → Nat → Bool} {col : Nat → Int32} {a i n : Nat} {c : Int32} (h1 : J a i = true) (h2 : col i = c) (hi : i < n) : pm_fr J col a c n = false := by
  obtain ⟨d, rfl⟩ : ∃ d, n = i + 1 + d := ⟨n - (i + 1), by omega⟩
  induction d with
  | zero => simp [pm_fr, h1, h2]
  | succ d ih => rw [show i + 1 + (d + 1) = (i + 1 + d) + 1 from rfl, pm_fr, ih (by omega)]; rfl
theorem pm_mulb {a b n : Nat} (ha : a ≤ 1000000) (hb : b ≤ n) (hn : n ≤ 200) : a * b ≤ 200000000 := Nat.mul_le_mul ha (Nat.le_trans hb hn)
set_option maxHeartbeats 4000000 in
set_option maxRecDepth 100000 in
theorem tX1_left {l : Launch} {D : va_G} {cI cJ cZ : ClassId} {bd : Nat → Nat} {n k : Nat} {gv : Int32} {PA C Wi CO RW IN : Nat → Int32} (J : Nat → Nat → Bool) (hJ : ∀ a b, a < 200 → b < 200 → PA (200 * a + b) = px_b (J a b)) (inn : Nat → Bool) (hn : n ≤ 200) (hI : ∀ a, a < n → IN a = px_b (inn a)) (a : Nat) (ha : a < n) : RdI l yX1_left wsX1_left (rmd 0) D (tyq cI cJ cZ) [.ref (bd 0), .int (nI a)] (w1 cI cZ bd (nI n) (nI k) gv PA C Wi CO RW IN) (nI (pm_lf J n inn a)) := by
  refine px_met (cc := cX1_left) (maxL := 4) (ret := (some .int)) (lv := [(0, .ref (bd 0)), (1, .int (nI a))]) (by decide +kernel) rfl (Nat.le_of_ble_eq_true rfl) rfl ?_
  intro p e s m below meth c ls S hr hlk hnm hv hl
  obtain ⟨hx, hb, hml, hown, hts⟩ := id S
  obtain ⟨hP, hK⟩ := hv
  have hin : ∀ w ∈ wsX10, w ∈ wsX1_left := fun w h => List.mem_cons_of_mem _ (List.mem_append_right _ h)
  have f34 := hts (.fieldLink RX1 34 "PointColoursModel" "n" "I") (by decide +kernel)
  have f27 := hts (.fieldLink RX1 27 "PointColoursModel" "in" "[Z") (by decide +kernel)
  have f10 := hts (.fieldLink RX1 10 "PointColoursModel" "pairs" "[Z") (by decide +kernel)
  have loop : ∀ (f i : Nat), n + 1 ≤ i + f → i ≤ n → ∀ ls : Array Slot, lv_has ls 4 [(2, .int (nI (pm_cn (fun b => inn b && J a b) i))), (3, .int (nI i)), (1, .int (nI a)), (0, .ref (bd 0))] → W p l e (rmd 0) s m ([.ref (bd 0), .int (nI a)] : List Value).toArray below meth c s.heap [] 0 0 (MQ below (vp_Si (fun r => r = nI (pm_lf J n inn a))) ([.ref (bd 0), .int (nI a)] : List Value).toArray s 0 0 (fun _ => False)) (F0 m 4 ls []) := by
    intro f
    induction f with
    | zero => intro i h1 h2; exact absurd h1 (by omega)
    | succ f ih =>
      intro i h1 h2 ls hl
      refine lv_iload_n hx hb dX1_left_4 rfl (lv_at hl 1 rfl) ?_
      refine lv_aload_n hx hb dX1_left_5 rfl (lv_at hl 3 rfl) ?_
      refine va_get (D := D) (ci := 1) (v := .int (nI n)) (C := RX1) (T := TX1) (N := 9) hx hb hts hin hown hK hP 0 rfl rfl 6 (by decide) f34 (fun _ h9 => h9) rfl dX1_left_6 ?_
      refine px_ge (tgt := 45) hx hb dX1_left_9 (by decide) (by omega) (by omega) (fun h9 => ?_) (fun h9 => ?_)
      · refine lv_iload_n hx hb dX1_left_45 rfl (lv_at hl 0 rfl) ?_
        obtain rfl : i = n := by omega
        exact px_ri hx hb hr hlk rfl dX1_left_46
      · refine lv_aload_n hx hb dX1_left_12 rfl (lv_at hl 3 rfl) ?_
        refine va_get (D := D) (ci := 1) (v := .ref (bd 6)) (C := RX1) (T := TX1) (N := 9) hx hb hts hin hown hK hP 0 rfl rfl 5 (by decide) f27 (fun _ h9 => h9) rfl dX1_left_13 ?_
        refine lv_iload_n hx hb dX1_left_16 rfl (lv_at hl 1 rfl) ?_
        refine px_zald (n := 200) (i := i) hx hb hK hP 6 2 rfl rfl (by omega) (by decide) dX1_left_17 ?_
        refine px_top (y := px_b (inn i)) (hI _ (by omega)) ?_
        refine px_eqb (tgt := 39) hx hb dX1_left_18 (by decide) (fun h18 => ?_) (fun h18 => ?_)
        · refine lv_iinc (v := nI (i + 1)) (lv' := [(3, .int (nI (i + 1))), (2, .int (nI (pm_cn (fun b => inn b && J a b) i))), (1, .int (nI a)), (0, .ref (bd 0))]) hx hb dX1_left_39 hl (k := 1) rfl (px_inc1 _) (by decide) rfl (fun ls hl => ?_)
          refine lv_goto (tgt := 4) hx hb dX1_left_42 (by decide) ?_
          have hs : (fun b => inn b && J a b) i = false := by simp [h18]
          exact ih (i + 1) (by omega) (by omega) ls (by rw [pm_cn_0 (f := (fun b => inn b && J a b)) hs]; exact lv_sub hl [1, 0, 2, 3] rfl)
        · refine lv_aload_n hx hb dX1_left_21 rfl (lv_at hl 3 rfl) ?_
          refine va_get (D := D) (ci := 1) (v := .ref (bd 1)) (C := RX1) (T := TX1) (N := 9) hx hb hts hin hown hK hP 0 rfl rfl 0 (by decide) f10 (fun _ h9 => h9) rfl dX1_left_22 ?_
          refine lv_sipush (v := nI 200) hx hb dX1_left_25 (by decide +kernel) ?_
          refine lv_iload_n hx hb dX1_left_28 rfl (lv_at hl 2 rfl) ?_
          refine px_mul hx hb dX1_left_29 ?_
          refine lv_iload_n hx hb dX1_left_30 rfl (lv_at hl 1 rfl) ?_
          refine px_add hx hb dX1_left_31 ?_
          refine px_zald (n := 40000) (i := ((200 * a) + i)) hx hb hK hP 1 2 rfl rfl (by omega) (by decide) dX1_left_32 ?_
          refine px_top (y := px_b (J a i)) (hJ _ _ (by omega) (by omega)) ?_
          refine px_eqb (tgt := 39) hx hb dX1_left_33 (by decide) (fun h33 => ?_) (fun h33 => ?_)
          · refine lv_iinc (v := nI (i + 1)) (lv' := [(3, .int (nI (i + 1))), (2, .int (nI (pm_cn (fun b => inn b && J a b) i))), (1, .int (nI a)), (0, .ref (bd 0))]) hx hb dX1_left_39 hl (k := 1) rfl (px_inc1 _) (by decide) rfl (fun ls hl => ?_)
            refine lv_goto (tgt := 4) hx hb dX1_left_42 (by decide) ?_
            have hs : (fun b => inn b && J a b) i = false := by simp [h33]
            exact ih (i + 1) (by omega) (by omega) ls (by rw [pm_cn_0 (f := (fun b => inn b && J a b)) hs]; exact lv_sub hl [1, 0, 2, 3] rfl)
          · refine lv_iinc (v := nI (pm_cn (fun b => inn b && J a b) i + 1)) (lv' := [(2, .int (nI (pm_cn (fun b => inn b && J a b) i + 1))), (3, .int (nI i)), (1, .int (nI a)), (0, .ref (bd 0))]) hx hb dX1_left_36 hl (k := 0) rfl (px_inc1 _) (by decide) rfl (fun ls hl => ?_)
            refine lv_iinc (v := nI (i + 1)) (lv' := [(3, .int (nI (i + 1))), (2, .int (nI (pm_cn (fun b => inn b && J a b) i + 1))), (1, .int (nI a)), (0, .ref (bd 0))]) hx hb dX1_left_39 hl (k := 1) rfl (px_inc1 _) (by decide) rfl (fun ls hl => ?_)
            refine lv_goto (tgt := 4) hx hb dX1_left_42 (by decide) ?_
            have hs : (fun b => inn b && J a b) i = true := by simp [h18, h33]
            exact ih (i + 1) (by omega) (by omega) ls (by rw [pm_cn_1 (f := (fun b => inn b && J a b)) hs]; exact lv_sub hl [1, 0, 2, 3] rfl)
  refine lv_iconst (v := nI 0) hx hb dX1_left_0 (by decide +kernel) ?_
  refine lv_istore_n (lv' := [(2, .int (nI 0)), (0, .ref (bd 0)), (1, .int (nI a))]) hx hb dX1_left_1 rfl hl (by decide) rfl (fun ls hl => ?_)
  refine lv_iconst (v := nI 0) hx hb dX1_left_2 (by decide +kernel) ?_
  refine lv_istore_n (lv' := [(3, .int (nI 0)), (2, .int (nI 0)), (0, .ref (bd 0)), (1, .int (nI a))]) hx hb dX1_left_3 rfl hl (by decide) rfl (fun ls hl => ?_)
  exact loop (n + 1) 0 (by omega) (by omega) ls (lv_sub hl [1, 0, 3, 2] rfl)
set_option maxHeartbeats 4000000 in
set_option maxRecDepth 100000 in
theorem tX1_next {l : Launch} {D : va_G} {cI cJ cZ : ClassId} {bd : Nat → Nat} {n k : Nat} {gv : Int32} {PA C Wi CO RW IN : Nat → Int32} (J : Nat → Nat → Bool) (hJ : ∀ a b, a < 200 → b < 200 → PA (200 * a + b) = px_b (J a b)) (cst : Nat → Nat) (inn : Nat → Bool) (hn : n ≤ 200) (hI : ∀ a, a < n → IN a = px_b (inn a)) (hk : k ≤ 30) (hC : ∀ a, a < 200 → C a = nI (cst a)) (hc1 : ∀ a, cst a ≤ 1000000) : RdI l yX1_next wsX1_next (rmd 1) D (tyq cI cJ cZ) [.ref (bd 0)] (w1 cI cZ bd (nI n) (nI k) gv PA C Wi CO RW IN) (pm_o (pm_nx J n k cst inn)) := by
  refine px_met (cc := cX1_next) (maxL := 3) (ret := (some .int)) (lv := [(0, .ref (bd 0))]) (by decide +kernel) rfl (Nat.le_of_ble_eq_true rfl) rfl ?_
  intro p e s m below meth c ls S hr hlk hnm hv hl
  obtain ⟨hx, hb, hml, hown, hts⟩ := id S
  obtain ⟨hP, hK⟩ := hv
  have hin : ∀ w ∈ wsX10, w ∈ wsX1_next := fun w h => List.mem_cons_of_mem _ (List.mem_append_right _ h)
  have f34 := hts (.fieldLink RX1 34 "PointColoursModel" "n" "I") (by decide +kernel)
  have f27 := hts (.fieldLink RX1 27 "PointColoursModel" "in" "[Z") (by decide +kernel)
  have f38 := hts (.fieldLink RX1 38 "PointColoursModel" "k" "I") (by decide +kernel)
  have f14 := hts (.fieldLink RX1 14 "PointColoursModel" "costs" "[I") (by decide +kernel)
  have last : pm_ft (pm_lo J n k inn) n = none → ∀ ls : Array Slot, lv_has ls 3 [(0, .ref (bd 0))] → W p l e (rmd 1) s m ([.ref (bd 0)] : List Value).toArray below meth c s.heap [] 0 0 (MQ below (vp_Si (fun r => r = pm_o (pm_nx J n k cst inn))) ([.ref (bd 0)] : List Value).toArray s 0 0 (fun _ => False)) (F0 m 39 ls []) := by
    intro hft
    have loop : ∀ (f i : Nat), n + 1 ≤ i + f → i ≤ n → ∀ ls : Array Slot, lv_has ls 3 [(1, .int (pm_o (pm_bs J n cst inn i))), (2, .int (nI i)), (0, .ref (bd 0))] → W p l e (rmd 1) s m ([.ref (bd 0)] : List Value).toArray below meth c s.heap [] 0 0 (MQ below (vp_Si (fun r => r = pm_o (pm_nx J n k cst inn))) ([.ref (bd 0)] : List Value).toArray s 0 0 (fun _ => False)) (F0 m 43 ls []) := by
      intro f
      induction f with
      | zero => intro i h1 h2; exact absurd h1 (by omega)
      | succ f ih =>
        intro i h1 h2 ls hl
        refine lv_iload_n hx hb dX1_next_43 rfl (lv_at hl 1 rfl) ?_
        refine lv_aload_n hx hb dX1_next_44 rfl (lv_at hl 2 rfl) ?_
        refine va_get (D := D) (ci := 1) (v := .int (nI n)) (C := RX1) (T := TX1) (N := 9) hx hb hts hin hown hK hP 0 rfl rfl 6 (by decide) f34 (fun _ h9 => h9) rfl dX1_next_45 ?_
        refine px_ge (tgt := 102) hx hb dX1_next_48 (by decide) (by omega) (by omega) (fun h48 => ?_) (fun h48 => ?_)
        · refine lv_iload_n hx hb dX1_next_102 rfl (lv_at hl 0 rfl) ?_
          obtain rfl : i = n := by omega
          exact px_ri hx hb hr hlk (by rw [pm_nx, hft]) dX1_next_103
        · refine lv_aload_n hx hb dX1_next_51 rfl (lv_at hl 2 rfl) ?_
          refine va_get (D := D) (ci := 1) (v := .ref (bd 6)) (C := RX1) (T := TX1) (N := 9) hx hb hts hin hown hK hP 0 rfl rfl 5 (by decide) f27 (fun _ h9 => h9) rfl dX1_next_52 ?_
          refine lv_iload_n hx hb dX1_next_55 rfl (lv_at hl 1 rfl) ?_
          refine px_zald (n := 200) (i := i) hx hb hK hP 6 2 rfl rfl (by omega) (by decide) dX1_next_56 ?_
          refine px_top (y := px_b (inn i)) (hI _ (by omega)) ?_
          refine px_neb (tgt := 63) hx hb dX1_next_57 (by decide) (fun h57 => ?_) (fun h57 => ?_)
          · cases hB : pm_bs J n cst inn i with
            | none =>
              have hl : lv_has ls 3 [(1, .int (-1)), (2, .int (nI i)), (0, .ref (bd 0))] := by rw [hB] at hl; exact hl
              refine lv_iload_n hx hb dX1_next_63 rfl (lv_at hl 0 rfl) ?_
              refine lv_if_lt (tgt := 94) hx hb dX1_next_64 (by decide) (fun h64 => ?_) (fun h64 => ?_)
              rotate_left
              · exact absurd (by decide +kernel) h64
              refine lv_iload_n hx hb dX1_next_94 rfl (lv_at hl 1 rfl) ?_
              refine lv_istore_n (lv' := [(1, .int (nI i)), (2, .int (nI i)), (0, .ref (bd 0))]) hx hb dX1_next_95 rfl hl (by decide) rfl (fun ls hl => ?_)
              refine lv_iinc (v := nI (i + 1)) (lv' := [(2, .int (nI (i + 1))), (1, .int (nI i)), (0, .ref (bd 0))]) hx hb dX1_next_96 hl (k := 1) rfl (px_inc1 _) (by decide) rfl (fun ls hl => ?_)
              refine lv_goto (tgt := 43) hx hb dX1_next_99 (by decide) ?_
              have e : pm_bs J n cst inn (i + 1) = some i := by simp [pm_bs, h57, hB]
              exact ih (i + 1) (by omega) (by omega) ls (by rw [e]; exact lv_sub hl [1, 0, 2] rfl)
            | some b =>
              have hbi := pm_bs_lt hB
              have hm1 := pm_mulb (hc1 i) (pm_lf_le J n inn b) hn
              have hm2 := pm_mulb (hc1 b) (pm_lf_le J n inn i) hn
              have hl : lv_has ls 3 [(1, .int (nI b)), (2, .int (nI i)), (0, .ref (bd 0))] := by rw [hB] at hl; exact hl
              refine lv_iload_n hx hb dX1_next_63 rfl (lv_at hl 0 rfl) ?_
              refine lv_if_lt (tgt := 94) hx hb dX1_next_64 (by decide) (fun h64 => ?_) (fun h64 => ?_)
              · exact absurd h64 (nI_pos (by omega))
              refine lv_aload_n hx hb dX1_next_67 rfl (lv_at hl 2 rfl) ?_
              refine va_get (D := D) (ci := 1) (v := .ref (bd 2)) (C := RX1) (T := TX1) (N := 9) hx hb hts hin hown hK hP 0 rfl rfl 1 (by decide) f14 (fun _ h9 => h9) rfl dX1_next_68 ?_
              refine lv_iload_n hx hb dX1_next_71 rfl (lv_at hl 1 rfl) ?_
              refine px_iald (n := 200) (i := i) hx hb hK hP 2 0 rfl rfl (by omega) (by decide) dX1_next_72 ?_
              refine px_top (y := nI (cst i)) (hC _ (by omega)) ?_
              refine lv_aload_n hx hb dX1_next_73 rfl (lv_at hl 2 rfl) ?_
              refine lv_iload_n hx hb dX1_next_74 rfl (lv_at hl 0 rfl) ?_
              refine px_rd (ci := 1) (q := (RX1, TX1, 9)) (v := nI (pm_lf J n inn b)) (rest := [.int (nI (cst i))]) S hP hK (tX1_left J hJ inn hn hI b (by omega)) (cwV 1 hts gX1_next_X1_left rfl rfl rfl (by decide +kernel) ⟨by decide, by decide⟩) rfl rfl rfl hl.1 rfl (Nat.le_of_ble_eq_true rfl) dX1_next_75 ⟨Nat.zero_le _, Nat.zero_le _⟩ ?_
              refine px_mul hx hb dX1_next_78 ?_
              refine lv_aload_n hx hb dX1_next_79 rfl (lv_at hl 2 rfl) ?_
              refine va_get (D := D) (ci := 1) (v := .ref (bd 2)) (C := RX1) (T := TX1) (N := 9) hx hb hts hin hown hK hP 0 rfl rfl 1 (by decide) f14 (fun _ h9 => h9) rfl dX1_next_80 ?_
              refine lv_iload_n hx hb dX1_next_83 rfl (lv_at hl 0 rfl) ?_
              refine px_iald (n := 200) (i := b) hx hb hK hP 2 0 rfl rfl (by omega) (by decide) dX1_next_84 ?_
              refine px_top (y := nI (cst b)) (hC _ (by omega)) ?_
              refine lv_aload_n hx hb dX1_next_85 rfl (lv_at hl 2 rfl) ?_
              refine lv_iload_n hx hb dX1_next_86 rfl (lv_at hl 1 rfl) ?_
              refine px_rd (ci := 1) (q := (RX1, TX1, 9)) (v := nI (pm_lf J n inn i)) (rest := [.int (nI (cst b)), .int (nI ((cst i) * (pm_lf J n inn b)))]) S hP hK (tX1_left J hJ inn hn hI i (by omega)) (cwV 1 hts gX1_next_X1_left rfl rfl rfl (by decide +kernel) ⟨by decide, by decide⟩) rfl rfl rfl hl.1 rfl (Nat.le_of_ble_eq_true rfl) dX1_next_87 ⟨Nat.zero_le _, Nat.zero_le _⟩ ?_
              refine px_mul hx hb dX1_next_90 ?_
              refine px_ge (tgt := 96) hx hb dX1_next_91 (by decide) (by omega) (by omega) (fun h91 => ?_) (fun h91 => ?_)
              · refine lv_iinc (v := nI (i + 1)) (lv' := [(2, .int (nI (i + 1))), (1, .int (nI b)), (0, .ref (bd 0))]) hx hb dX1_next_96 hl (k := 1) rfl (px_inc1 _) (by decide) rfl (fun ls hl => ?_)
                refine lv_goto (tgt := 43) hx hb dX1_next_99 (by decide) ?_
                have e : pm_bs J n cst inn (i + 1) = some b := by simp [pm_bs, h57, hB, Nat.not_lt.mpr h91]
                exact ih (i + 1) (by omega) (by omega) ls (by rw [e]; exact lv_sub hl [1, 0, 2] rfl)
              · refine lv_iload_n hx hb dX1_next_94 rfl (lv_at hl 1 rfl) ?_
                refine lv_istore_n (lv' := [(1, .int (nI i)), (2, .int (nI i)), (0, .ref (bd 0))]) hx hb dX1_next_95 rfl hl (by decide) rfl (fun ls hl => ?_)
                refine lv_iinc (v := nI (i + 1)) (lv' := [(2, .int (nI (i + 1))), (1, .int (nI i)), (0, .ref (bd 0))]) hx hb dX1_next_96 hl (k := 1) rfl (px_inc1 _) (by decide) rfl (fun ls hl => ?_)
                refine lv_goto (tgt := 43) hx hb dX1_next_99 (by decide) ?_
                have e : pm_bs J n cst inn (i + 1) = some i := by simp [pm_bs, h57, hB, h91]
                exact ih (i + 1) (by omega) (by omega) ls (by rw [e]; exact lv_sub hl [1, 0, 2] rfl)
          · refine lv_goto (tgt := 96) hx hb dX1_next_60 (by decide) ?_
            refine lv_iinc (v := nI (i + 1)) (lv' := [(2, .int (nI (i + 1))), (1, .int (pm_o (pm_bs J n cst inn i))), (0, .ref (bd 0))]) hx hb dX1_next_96 hl (k := 1) rfl (px_inc1 _) (by decide) rfl (fun ls hl => ?_)
            refine lv_goto (tgt := 43) hx hb dX1_next_99 (by decide) ?_
            have e : pm_bs J n cst inn (i + 1) = pm_bs J n cst inn i := by simp [pm_bs, h57]
            exact ih (i + 1) (by omega) (by omega) ls (by rw [e]; exact lv_sub hl [1, 0, 2] rfl)
    intro ls hl
    refine lv_iconst (v := -1) hx hb dX1_next_39 (by decide +kernel) ?_
    refine lv_istore_n (lv' := [(1, .int (-1)), (0, .ref (bd 0))]) hx hb dX1_next_40 rfl hl (by decide) rfl (fun ls hl => ?_)
    refine lv_iconst (v := nI 0) hx hb dX1_next_41 (by decide +kernel) ?_
    refine lv_istore_n (lv' := [(2, .int (nI 0)), (1, .int (-1)), (0, .ref (bd 0))]) hx hb dX1_next_42 rfl hl (by decide) rfl (fun ls hl => ?_)
    exact loop (n + 1) 0 (by omega) (by omega) ls (lv_sub hl [1, 0, 2] rfl)
  have loop : ∀ (f i : Nat), n + 1 ≤ i + f → i ≤ n → pm_ft (pm_lo J n k inn) i = none → ∀ ls : Array Slot, lv_has ls 3 [(1, .int (nI i)), (0, .ref (bd 0))] → W p l e (rmd 1) s m ([.ref (bd 0)] : List Value).toArray below meth c s.heap [] 0 0 (MQ below (vp_Si (fun r => r = pm_o (pm_nx J n k cst inn))) ([.ref (bd 0)] : List Value).toArray s 0 0 (fun _ => False)) (F0 m 2 ls []) := by
    intro f
    induction f with
    | zero => intro i h1 h2; exact absurd h1 (by omega)
    | succ f ih =>
      intro i h1 h2 hft ls hl
      refine lv_iload_n hx hb dX1_next_2 rfl (lv_at hl 0 rfl) ?_
      refine lv_aload_n hx hb dX1_next_3 rfl (lv_at hl 1 rfl) ?_
      refine va_get (D := D) (ci := 1) (v := .int (nI n)) (C := RX1) (T := TX1) (N := 9) hx hb hts hin hown hK hP 0 rfl rfl 6 (by decide) f34 (fun _ h9 => h9) rfl dX1_next_4 ?_
      refine px_ge (tgt := 39) hx hb dX1_next_7 (by decide) (by omega) (by omega) (fun h7 => ?_) (fun h7 => ?_)
      · obtain rfl : i = n := by omega
        exact last hft ls (lv_sub hl [1] rfl)
      · refine lv_aload_n hx hb dX1_next_10 rfl (lv_at hl 1 rfl) ?_
        refine va_get (D := D) (ci := 1) (v := .ref (bd 6)) (C := RX1) (T := TX1) (N := 9) hx hb hts hin hown hK hP 0 rfl rfl 5 (by decide) f27 (fun _ h9 => h9) rfl dX1_next_11 ?_
        refine lv_iload_n hx hb dX1_next_14 rfl (lv_at hl 0 rfl) ?_
        refine px_zald (n := 200) (i := i) hx hb hK hP 6 2 rfl rfl (by omega) (by decide) dX1_next_15 ?_
        refine px_top (y := px_b (inn i)) (hI _ (by omega)) ?_
        refine px_eqb (tgt := 33) hx hb dX1_next_16 (by decide) (fun h16 => ?_) (fun h16 => ?_)
        · refine lv_iinc (v := nI (i + 1)) (lv' := [(1, .int (nI (i + 1))), (0, .ref (bd 0))]) hx hb dX1_next_33 hl (k := 0) rfl (px_inc1 _) (by decide) rfl (fun ls hl => ?_)
          refine lv_goto (tgt := 2) hx hb dX1_next_36 (by decide) ?_
          have hlo : pm_lo J n k inn i = false := by simp [pm_lo, h16]
          exact ih (i + 1) (by omega) (by omega) (pm_ft_none hft hlo) ls (lv_sub hl [0, 1] rfl)
        · refine lv_aload_n hx hb dX1_next_19 rfl (lv_at hl 1 rfl) ?_
          refine lv_iload_n hx hb dX1_next_20 rfl (lv_at hl 0 rfl) ?_
          refine px_rd (ci := 1) (q := (RX1, TX1, 9)) (v := nI (pm_lf J n inn i)) (rest := []) S hP hK (tX1_left J hJ inn hn hI i (by omega)) (cwV 1 hts gX1_next_X1_left rfl rfl rfl (by decide +kernel) ⟨by decide, by decide⟩) rfl rfl rfl hl.1 rfl (Nat.le_of_ble_eq_true rfl) dX1_next_21 ⟨Nat.zero_le _, Nat.zero_le _⟩ ?_
          have hlf := pm_lf_le J n inn i
          refine lv_aload_n hx hb dX1_next_24 rfl (lv_at hl 1 rfl) ?_
          refine va_get (D := D) (ci := 1) (v := .int (nI k)) (C := RX1) (T := TX1) (N := 9) hx hb hts hin hown hK hP 0 rfl rfl 7 (by decide) f38 (fun _ h9 => h9) rfl dX1_next_25 ?_
          refine px_ge (tgt := 33) hx hb dX1_next_28 (by decide) (by omega) (by omega) (fun h28 => ?_) (fun h28 => ?_)
          · refine lv_iinc (v := nI (i + 1)) (lv' := [(1, .int (nI (i + 1))), (0, .ref (bd 0))]) hx hb dX1_next_33 hl (k := 0) rfl (px_inc1 _) (by decide) rfl (fun ls hl => ?_)
            refine lv_goto (tgt := 2) hx hb dX1_next_36 (by decide) ?_
            have hlo : pm_lo J n k inn i = false := by simp [pm_lo, h16]; exact h28
            exact ih (i + 1) (by omega) (by omega) (pm_ft_none hft hlo) ls (lv_sub hl [0, 1] rfl)
          · refine lv_iload_n hx hb dX1_next_31 rfl (lv_at hl 0 rfl) ?_
            exact px_ri hx hb hr hlk (by rw [pm_nx, pm_ft_here hft (by simp [pm_lo, h16, h28]) (by omega)]; rfl) dX1_next_32
  refine lv_iconst (v := nI 0) hx hb dX1_next_0 (by decide +kernel) ?_
  refine lv_istore_n (lv' := [(1, .int (nI 0)), (0, .ref (bd 0))]) hx hb dX1_next_1 rfl hl (by decide) rfl (fun ls hl => ?_)
  exact loop (n + 1) 0 (by omega) (by omega) rfl ls (lv_sub hl [0, 1] rfl)
set_option maxHeartbeats 4000000 in
set_option maxRecDepth 100000 in
theorem tX1_isFree {l : Launch} {D : va_G} {cI cJ cZ : ClassId} {bd : Nat → Nat} {n k : Nat} {gv : Int32} {PA C Wi CO RW IN : Nat → Int32} (J : Nat → Nat → Bool) (hJ : ∀ a b, a < 200 → b < 200 → PA (200 * a + b) = px_b (J a b)) (hn : n ≤ 200) (a : Nat) (ha : a < n) (x : Int32) : RdI l yX1_isFree wsX1_isFree (rmd 0) D (tyq cI cJ cZ) [.ref (bd 0), .int (nI a), .int x] (w1 cI cZ bd (nI n) (nI k) gv PA C Wi CO RW IN) (px_b (pm_fr J CO a x n)) := by
  refine px_met (cc := cX1_isFree) (maxL := 4) (ret := (some .boolean)) (lv := [(0, .ref (bd 0)), (1, .int (nI a)), (2, .int x)]) (by decide +kernel) rfl (Nat.le_of_ble_eq_true rfl) rfl ?_
  intro p e s m below meth c ls S hr hlk hnm hv hl
  obtain ⟨hx, hb, hml, hown, hts⟩ := id S
  obtain ⟨hP, hK⟩ := hv
  have hin : ∀ w ∈ wsX10, w ∈ wsX1_isFree := fun w h => List.mem_cons_of_mem _ (List.mem_append_right _ h)
  have f34 := hts (.fieldLink RX1 34 "PointColoursModel" "n" "I") (by decide +kernel)
  have f10 := hts (.fieldLink RX1 10 "PointColoursModel" "pairs" "[Z") (by decide +kernel)
  have f21 := hts (.fieldLink RX1 21 "PointColoursModel" "colours" "[I") (by decide +kernel)
  have loop : ∀ (f i : Nat), n + 1 ≤ i + f → i ≤ n → pm_fr J CO a x i = true → ∀ ls : Array Slot, lv_has ls 4 [(3, .int (nI i)), (2, .int x), (1, .int (nI a)), (0, .ref (bd 0))] → W p l e (rmd 0) s m ([.ref (bd 0), .int (nI a), .int x] : List Value).toArray below meth c s.heap [] 0 0 (MQ below (vp_Si (fun r => r = px_b (pm_fr J CO a x n))) ([.ref (bd 0), .int (nI a), .int x] : List Value).toArray s 0 0 (fun _ => False)) (F0 m 2 ls []) := by
    intro f
    induction f with
    | zero => intro i h1 h2; exact absurd h1 (by omega)
    | succ f ih =>
      intro i h1 h2 hfr ls hl
      refine lv_iload_n hx hb dX1_isFree_2 rfl (lv_at hl 0 rfl) ?_
      refine lv_aload_n hx hb dX1_isFree_3 rfl (lv_at hl 3 rfl) ?_
      refine va_get (D := D) (ci := 1) (v := .int (nI n)) (C := RX1) (T := TX1) (N := 9) hx hb hts hin hown hK hP 0 rfl rfl 6 (by decide) f34 (fun _ h9 => h9) rfl dX1_isFree_4 ?_
      refine px_ge (tgt := 43) hx hb dX1_isFree_7 (by decide) (by omega) (by omega) (fun h7 => ?_) (fun h7 => ?_)
      · refine lv_iconst (v := px_b true) hx hb dX1_isFree_43 (by decide +kernel) ?_
        obtain rfl : i = n := by omega
        exact px_rz hx hb hr hlk (by rw [hfr]) dX1_isFree_44
      · refine lv_aload_n hx hb dX1_isFree_10 rfl (lv_at hl 3 rfl) ?_
        refine va_get (D := D) (ci := 1) (v := .ref (bd 1)) (C := RX1) (T := TX1) (N := 9) hx hb hts hin hown hK hP 0 rfl rfl 0 (by decide) f10 (fun _ h9 => h9) rfl dX1_isFree_11 ?_
        refine lv_sipush (v := nI 200) hx hb dX1_isFree_14 (by decide +kernel) ?_
        refine lv_iload_n hx hb dX1_isFree_17 rfl (lv_at hl 2 rfl) ?_
        refine px_mul hx hb dX1_isFree_18 ?_
        refine lv_iload_n hx hb dX1_isFree_19 rfl (lv_at hl 0 rfl) ?_
        refine px_add hx hb dX1_isFree_20 ?_
        refine px_zald (n := 40000) (i := ((200 * a) + i)) hx hb hK hP 1 2 rfl rfl (by omega) (by decide) dX1_isFree_21 ?_
        refine px_top (y := px_b (J a i)) (hJ _ _ (by omega) (by omega)) ?_
        refine px_eqb (tgt := 37) hx hb dX1_isFree_22 (by decide) (fun h22 => ?_) (fun h22 => ?_)
        · refine lv_iinc (v := nI (i + 1)) (lv' := [(3, .int (nI (i + 1))), (2, .int x), (1, .int (nI a)), (0, .ref (bd 0))]) hx hb dX1_isFree_37 hl (k := 0) rfl (px_inc1 _) (by decide) rfl (fun ls hl => ?_)
          refine lv_goto (tgt := 2) hx hb dX1_isFree_40 (by decide) ?_
          exact ih (i + 1) (by omega) (by omega) (pm_fr_step hfr (by simp [h22])) ls (lv_sub hl [0, 1, 2, 3] rfl)
        · refine lv_aload_n hx hb dX1_isFree_25 rfl (lv_at hl 3 rfl) ?_
          refine va_get (D := D) (ci := 1) (v := .ref (bd 4)) (C := RX1) (T := TX1) (N := 9) hx hb hts hin hown hK hP 0 rfl rfl 3 (by decide) f21 (fun _ h9 => h9) rfl dX1_isFree_26 ?_
          refine lv_iload_n hx hb dX1_isFree_29 rfl (lv_at hl 0 rfl) ?_
          refine px_iald (n := 200) (i := i) hx hb hK hP 4 0 rfl rfl (by omega) (by decide) dX1_isFree_30 ?_
          refine lv_iload_n hx hb dX1_isFree_31 rfl (lv_at hl 1 rfl) ?_
          refine lv_icmp_ne (tgt := 37) hx hb dX1_isFree_32 (by decide) (fun h32 => ?_) (fun h32 => ?_)
          · refine lv_iinc (v := nI (i + 1)) (lv' := [(3, .int (nI (i + 1))), (2, .int x), (1, .int (nI a)), (0, .ref (bd 0))]) hx hb dX1_isFree_37 hl (k := 0) rfl (px_inc1 _) (by decide) rfl (fun ls hl => ?_)
            refine lv_goto (tgt := 2) hx hb dX1_isFree_40 (by decide) ?_
            exact ih (i + 1) (by omega) (by omega) (pm_fr_step hfr (by simp [h32])) ls (lv_sub hl [0, 1, 2, 3] rfl)
          · refine lv_iconst (v := px_b false) hx hb dX1_isFree_35 (by decide +kernel) ?_
            exact px_rz hx hb hr hlk (by rw [pm_fr_no h22 (by first | exact h32 | exact Decidable.not_not.mp h32) (by omega)]) dX1_isFree_36
  refine lv_iconst (v := nI 0) hx hb dX1_isFree_0 (by decide +kernel) ?_
  refine lv_istore_n (lv' := [(3, .int (nI 0)), (0, .ref (bd 0)), (1, .int (nI a)), (2, .int x)]) hx hb dX1_isFree_1 rfl hl (by decide) rfl (fun ls hl => ?_)
  exact loop (n + 1) 0 (by omega) (by omega) rfl ls (lv_sub hl [0, 3, 2, 1] rfl)
set_option maxHeartbeats 4000000 in
set_option maxRecDepth 100000 in
theorem tX1_colourFor {l : Launch} {D : va_G} {cI cJ cZ : ClassId} {bd : Nat → Nat} {n k : Nat} {gv : Int32} {PA C Wi CO RW IN : Nat → Int32} (J : Nat → Nat → Bool) (hJ : ∀ a b, a < 200 → b < 200 → PA (200 * a + b) = px_b (J a b)) (ws : Nat → Nat) (hn : n ≤ 200) (hk : k ≤ 30) (a : Nat) (ha : a < n) (hwn : ws a < n) (hW : Wi a = nI (ws a)) : RdI l yX1_colourFor wsX1_colourFor (rmd 1) D (tyq cI cJ cZ) [.ref (bd 0), .int (nI a)] (w1 cI cZ bd (nI n) (nI k) gv PA C Wi CO RW IN) (pm_ch J n k ws CO a) := by
  refine px_met (cc := cX1_colourFor) (maxL := 4) (ret := (some .int)) (lv := [(0, .ref (bd 0)), (1, .int (nI a))]) (by decide +kernel) rfl (Nat.le_of_ble_eq_true rfl) rfl ?_
  intro p e s m below meth c ls S hr hlk hnm hv hl
  obtain ⟨hx, hb, hml, hown, hts⟩ := id S
  obtain ⟨hP, hK⟩ := hv
  have hin : ∀ w ∈ wsX10, w ∈ wsX1_colourFor := fun w h => List.mem_cons_of_mem _ (List.mem_append_right _ h)
  have f18 := hts (.fieldLink RX1 18 "PointColoursModel" "wishes" "[I") (by decide +kernel)
  have f21 := hts (.fieldLink RX1 21 "PointColoursModel" "colours" "[I") (by decide +kernel)
  have f38 := hts (.fieldLink RX1 38 "PointColoursModel" "k" "I") (by decide +kernel)
  have loop : ∀ (f i : Nat), ¬ (ws a ≠ a ∧ ¬ CO (ws a) < 0 ∧ pm_fr J CO a (CO (ws a)) n = true) → k + 1 ≤ i + f → i ≤ k → pm_ft (fun c => pm_fr J CO a (nI c) n) i = none → ∀ ls : Array Slot, lv_has ls 4 [(3, .int (nI i)), (1, .int (nI a)), (0, .ref (bd 0))] → W p l e (rmd 1) s m ([.ref (bd 0), .int (nI a)] : List Value).toArray below meth c s.heap [] 0 0 (MQ below (vp_Si (fun r => r = pm_ch J n k ws CO a)) ([.ref (bd 0), .int (nI a)] : List Value).toArray s 0 0 (fun _ => False)) (F0 m 44 ls []) := by
    intro f
    induction f with
    | zero => intro i _ h1 h2; exact absurd h1 (by omega)
    | succ f ih =>
      intro i hno h1 h2 hft ls hl
      have ih := fun i => ih i hno
      refine lv_iload_n hx hb dX1_colourFor_44 rfl (lv_at hl 0 rfl) ?_
      refine lv_aload_n hx hb dX1_colourFor_45 rfl (lv_at hl 2 rfl) ?_
      refine va_get (D := D) (ci := 1) (v := .int (nI k)) (C := RX1) (T := TX1) (N := 9) hx hb hts hin hown hK hP 0 rfl rfl 7 (by decide) f38 (fun _ h9 => h9) rfl dX1_colourFor_46 ?_
      refine px_ge (tgt := 69) hx hb dX1_colourFor_49 (by decide) (by omega) (by omega) (fun h49 => ?_) (fun h49 => ?_)
      · refine lv_iconst (v := -1) hx hb dX1_colourFor_69 (by decide +kernel) ?_
        obtain rfl : i = k := by omega
        exact px_ri hx hb hr hlk (by rw [pm_ch, if_neg hno, hft]; rfl) dX1_colourFor_70
      · refine lv_aload_n hx hb dX1_colourFor_52 rfl (lv_at hl 2 rfl) ?_
        refine lv_iload_n hx hb dX1_colourFor_53 rfl (lv_at hl 1 rfl) ?_
        refine lv_iload_n hx hb dX1_colourFor_54 rfl (lv_at hl 0 rfl) ?_
        refine px_rd (ci := 1) (q := (RX1, TX1, 9)) (v := px_b (pm_fr J CO a (nI i) n)) (rest := []) S hP hK (tX1_isFree J hJ hn a ha (nI i)) (cwV 2 hts gX1_colourFor_X1_isFree rfl rfl rfl (by decide +kernel) ⟨by decide, by decide⟩) rfl rfl rfl hl.1 rfl (Nat.le_of_ble_eq_true rfl) dX1_colourFor_55 ⟨Nat.zero_le _, Nat.zero_le _⟩ ?_
        refine px_eqb (tgt := 63) hx hb dX1_colourFor_58 (by decide) (fun h58 => ?_) (fun h58 => ?_)
        · refine lv_iinc (v := nI (i + 1)) (lv' := [(3, .int (nI (i + 1))), (1, .int (nI a)), (0, .ref (bd 0))]) hx hb dX1_colourFor_63 hl (k := 0) rfl (px_inc1 _) (by decide) rfl (fun ls hl => ?_)
          refine lv_goto (tgt := 44) hx hb dX1_colourFor_66 (by decide) ?_
          exact ih (i + 1) (by omega) (by omega) (pm_ft_none hft h58) ls (lv_sub hl [0, 1, 2] rfl)
        · refine lv_iload_n hx hb dX1_colourFor_61 rfl (lv_at hl 0 rfl) ?_
          exact px_ri hx hb hr hlk (by rw [pm_ch, if_neg hno, pm_ft_here (f := (fun c => pm_fr J CO a (nI c) n)) hft h58 (by omega)]; rfl) dX1_colourFor_62
  refine lv_aload_n hx hb dX1_colourFor_0 rfl (lv_at hl 0 rfl) ?_
  refine va_get (D := D) (ci := 1) (v := .ref (bd 3)) (C := RX1) (T := TX1) (N := 9) hx hb hts hin hown hK hP 0 rfl rfl 2 (by decide) f18 (fun _ h9 => h9) rfl dX1_colourFor_1 ?_
  refine lv_iload_n hx hb dX1_colourFor_4 rfl (lv_at hl 1 rfl) ?_
  refine px_iald (n := 200) (i := a) hx hb hK hP 3 0 rfl rfl (by omega) (by decide) dX1_colourFor_5 ?_
  refine px_top (y := nI (ws a)) (hW) ?_
  refine lv_istore_n (lv' := [(2, .int (nI (ws a))), (0, .ref (bd 0)), (1, .int (nI a))]) hx hb dX1_colourFor_6 rfl hl (by decide) rfl (fun ls hl => ?_)
  refine lv_iload_n hx hb dX1_colourFor_7 rfl (lv_at hl 0 rfl) ?_
  refine lv_iload_n hx hb dX1_colourFor_8 rfl (lv_at hl 2 rfl) ?_
  refine px_eq (tgt := 42) hx hb dX1_colourFor_9 (by decide) (by omega) (by omega) (fun h9 => ?_) (fun h9 => ?_)
  · refine lv_iconst (v := nI 0) hx hb dX1_colourFor_42 (by decide +kernel) ?_
    refine lv_istore_n (lv' := [(3, .int (nI 0)), (2, .int (nI (ws a))), (0, .ref (bd 0)), (1, .int (nI a))]) hx hb dX1_colourFor_43 rfl hl (by decide) rfl (fun ls hl => ?_)
    exact loop (k + 1) 0 (fun hh => by exact hh.1 h9) (by omega) (by omega) rfl ls (lv_sub hl [0, 3, 2] rfl)
  · refine lv_aload_n hx hb dX1_colourFor_12 rfl (lv_at hl 1 rfl) ?_
    refine va_get (D := D) (ci := 1) (v := .ref (bd 4)) (C := RX1) (T := TX1) (N := 9) hx hb hts hin hown hK hP 0 rfl rfl 3 (by decide) f21 (fun _ h9 => h9) rfl dX1_colourFor_13 ?_
    refine lv_iload_n hx hb dX1_colourFor_16 rfl (lv_at hl 0 rfl) ?_
    refine px_iald (n := 200) (i := (ws a)) hx hb hK hP 4 0 rfl rfl (by omega) (by decide) dX1_colourFor_17 ?_
    refine lv_if_lt (tgt := 42) hx hb dX1_colourFor_18 (by decide) (fun h18 => ?_) (fun h18 => ?_)
    · refine lv_iconst (v := nI 0) hx hb dX1_colourFor_42 (by decide +kernel) ?_
      refine lv_istore_n (lv' := [(3, .int (nI 0)), (2, .int (nI (ws a))), (0, .ref (bd 0)), (1, .int (nI a))]) hx hb dX1_colourFor_43 rfl hl (by decide) rfl (fun ls hl => ?_)
      exact loop (k + 1) 0 (fun hh => by exact hh.2.1 h18) (by omega) (by omega) rfl ls (lv_sub hl [0, 3, 2] rfl)
    · refine lv_aload_n hx hb dX1_colourFor_21 rfl (lv_at hl 1 rfl) ?_
      refine lv_iload_n hx hb dX1_colourFor_22 rfl (lv_at hl 2 rfl) ?_
      refine lv_aload_n hx hb dX1_colourFor_23 rfl (lv_at hl 1 rfl) ?_
      refine va_get (D := D) (ci := 1) (v := .ref (bd 4)) (C := RX1) (T := TX1) (N := 9) hx hb hts hin hown hK hP 0 rfl rfl 3 (by decide) f21 (fun _ h9 => h9) rfl dX1_colourFor_24 ?_
      refine lv_iload_n hx hb dX1_colourFor_27 rfl (lv_at hl 0 rfl) ?_
      refine px_iald (n := 200) (i := (ws a)) hx hb hK hP 4 0 rfl rfl (by omega) (by decide) dX1_colourFor_28 ?_
      refine px_rd (ci := 1) (q := (RX1, TX1, 9)) (v := px_b (pm_fr J CO a (CO (ws a)) n)) (rest := []) S hP hK (tX1_isFree J hJ hn a ha (CO (ws a))) (cwV 2 hts gX1_colourFor_X1_isFree rfl rfl rfl (by decide +kernel) ⟨by decide, by decide⟩) rfl rfl rfl hl.1 rfl (Nat.le_of_ble_eq_true rfl) dX1_colourFor_29 ⟨Nat.zero_le _, Nat.zero_le _⟩ ?_
      refine px_eqb (tgt := 42) hx hb dX1_colourFor_32 (by decide) (fun h32 => ?_) (fun h32 => ?_)
      · refine lv_iconst (v := nI 0) hx hb dX1_colourFor_42 (by decide +kernel) ?_
        refine lv_istore_n (lv' := [(3, .int (nI 0)), (2, .int (nI (ws a))), (0, .ref (bd 0)), (1, .int (nI a))]) hx hb dX1_colourFor_43 rfl hl (by decide) rfl (fun ls hl => ?_)
        exact loop (k + 1) 0 (fun hh => by rw [hh.2.2] at h32; cases h32) (by omega) (by omega) rfl ls (lv_sub hl [0, 3, 2] rfl)
      · refine lv_aload_n hx hb dX1_colourFor_35 rfl (lv_at hl 1 rfl) ?_
        refine va_get (D := D) (ci := 1) (v := .ref (bd 4)) (C := RX1) (T := TX1) (N := 9) hx hb hts hin hown hK hP 0 rfl rfl 3 (by decide) f21 (fun _ h9 => h9) rfl dX1_colourFor_36 ?_
        refine lv_iload_n hx hb dX1_colourFor_39 rfl (lv_at hl 0 rfl) ?_
        refine px_iald (n := 200) (i := (ws a)) hx hb hK hP 4 0 rfl rfl (by omega) (by decide) dX1_colourFor_40 ?_
        exact px_ri hx hb hr hlk (by rw [pm_ch, if_pos ⟨h9, h18, h32⟩]) dX1_colourFor_41
set_option maxHeartbeats 4000000 in
set_option maxRecDepth 100000 in
theorem tX1_degree {l : Launch} {D : va_G} {cI cJ cZ : ClassId} {bd : Nat → Nat} {n k : Nat} {gv : Int32} {PA C Wi CO RW IN : Nat → Int32} (J : Nat → Nat → Bool) (hJ : ∀ a b, a < 200 → b < 200 → PA (200 * a + b) = px_b (J a b)) (hn : n ≤ 200) (a : Int32) : RdI l yX1_degree wsX1_degree (rmd 1) D (tyq cI cJ cZ) [.ref (bd 0), .int a] (w1 cI cZ bd (nI n) (nI k) gv PA C Wi CO RW IN) (pm_rd true n (fun a => nI (pm_cn (J a) n)) a) := by
  refine px_met (cc := cX1_degree) (maxL := 4) (ret := (some .int)) (lv := [(0, .ref (bd 0)), (1, .int a)]) (by decide +kernel) rfl (Nat.le_of_ble_eq_true rfl) rfl ?_
  intro p e s m below meth c ls S hr hlk hnm hv hl
  obtain ⟨hx, hb, hml, hown, hts⟩ := id S
  obtain ⟨hP, hK⟩ := hv
  have hin : ∀ w ∈ wsX10, w ∈ wsX1_degree := fun w h => List.mem_cons_of_mem _ (List.mem_append_right _ h)
  have f34 := hts (.fieldLink RX1 34 "PointColoursModel" "n" "I") (by decide +kernel)
  have f10 := hts (.fieldLink RX1 10 "PointColoursModel" "pairs" "[Z") (by decide +kernel)
  refine lv_aload_n hx hb dX1_degree_0 rfl (lv_at hl 0 rfl) ?_
  refine lv_iload_n hx hb dX1_degree_1 rfl (lv_at hl 1 rfl) ?_
  refine px_rd (ci := 1) (q := (RX1, TX1, 9)) (v := px_b (pm_pt n a)) (rest := []) S hP hK (tX1_isPoint (by omega) a) (cwV 1 hts gX1_degree_X1_isPoint rfl rfl rfl (by decide +kernel) ⟨by decide, by decide⟩) rfl rfl rfl hl.1 rfl (Nat.le_of_ble_eq_true rfl) dX1_degree_2 ⟨Nat.zero_le _, Nat.zero_le _⟩ ?_
  refine px_neb (tgt := 10) hx hb dX1_degree_5 (by decide) (fun h5 => ?_) (fun h5 => ?_)
  · obtain ⟨j, hj, rfl⟩ := pm_pt_of (by omega) h5
    have loop : ∀ (f i : Nat), n + 1 ≤ i + f → i ≤ n → ∀ ls : Array Slot, lv_has ls 4 [(2, .int (nI (pm_cn (J j) i))), (3, .int (nI i)), (1, .int (nI j)), (0, .ref (bd 0))] → W p l e (rmd 1) s m ([.ref (bd 0), .int (nI j)] : List Value).toArray below meth c s.heap [] 0 0 (MQ below (vp_Si (fun r => r = pm_rd true n (fun a => nI (pm_cn (J a) n)) (nI j))) ([.ref (bd 0), .int (nI j)] : List Value).toArray s 0 0 (fun _ => False)) (F0 m 14 ls []) := by
      intro f
      induction f with
      | zero => intro i h1 h2; exact absurd h1 (by omega)
      | succ f ih =>
        intro i h1 h2 ls hl
        refine lv_iload_n hx hb dX1_degree_14 rfl (lv_at hl 1 rfl) ?_
        refine lv_aload_n hx hb dX1_degree_15 rfl (lv_at hl 3 rfl) ?_
        refine va_get (D := D) (ci := 1) (v := .int (nI n)) (C := RX1) (T := TX1) (N := 9) hx hb hts hin hown hK hP 0 rfl rfl 6 (by decide) f34 (fun _ h9 => h9) rfl dX1_degree_16 ?_
        refine px_ge (tgt := 46) hx hb dX1_degree_19 (by decide) (by omega) (by omega) (fun h19 => ?_) (fun h19 => ?_)
        · refine lv_iload_n hx hb dX1_degree_46 rfl (lv_at hl 0 rfl) ?_
          obtain rfl : i = n := by omega
          exact px_ri hx hb hr hlk (by rw [pm_rd_t (by omega) hj]) dX1_degree_47
        · refine lv_aload_n hx hb dX1_degree_22 rfl (lv_at hl 3 rfl) ?_
          refine va_get (D := D) (ci := 1) (v := .ref (bd 1)) (C := RX1) (T := TX1) (N := 9) hx hb hts hin hown hK hP 0 rfl rfl 0 (by decide) f10 (fun _ h9 => h9) rfl dX1_degree_23 ?_
          refine lv_sipush (v := nI 200) hx hb dX1_degree_26 (by decide +kernel) ?_
          refine lv_iload_n hx hb dX1_degree_29 rfl (lv_at hl 2 rfl) ?_
          refine px_mul hx hb dX1_degree_30 ?_
          refine lv_iload_n hx hb dX1_degree_31 rfl (lv_at hl 1 rfl) ?_
          refine px_add hx hb dX1_degree_32 ?_
          refine px_zald (n := 40000) (i := ((200 * j) + i)) hx hb hK hP 1 2 rfl rfl (by omega) (by decide) dX1_degree_33 ?_
          refine px_top (y := px_b (J j i)) (hJ _ _ (by omega) (by omega)) ?_
          refine px_eqb (tgt := 40) hx hb dX1_degree_34 (by decide) (fun h34 => ?_) (fun h34 => ?_)
          · refine lv_iinc (v := nI (i + 1)) (lv' := [(3, .int (nI (i + 1))), (2, .int (nI (pm_cn (J j) i))), (1, .int (nI j)), (0, .ref (bd 0))]) hx hb dX1_degree_40 hl (k := 1) rfl (px_inc1 _) (by decide) rfl (fun ls hl => ?_)
            refine lv_goto (tgt := 14) hx hb dX1_degree_43 (by decide) ?_
            exact ih (i + 1) (by omega) (by omega) ls (by rw [pm_cn_0 (f := J j) h34]; exact lv_sub hl [1, 0, 2, 3] rfl)
          · refine lv_iinc (v := nI (pm_cn (J j) i + 1)) (lv' := [(2, .int (nI (pm_cn (J j) i + 1))), (3, .int (nI i)), (1, .int (nI j)), (0, .ref (bd 0))]) hx hb dX1_degree_37 hl (k := 0) rfl (px_inc1 _) (by decide) rfl (fun ls hl => ?_)
            refine lv_iinc (v := nI (i + 1)) (lv' := [(3, .int (nI (i + 1))), (2, .int (nI (pm_cn (J j) i + 1))), (1, .int (nI j)), (0, .ref (bd 0))]) hx hb dX1_degree_40 hl (k := 1) rfl (px_inc1 _) (by decide) rfl (fun ls hl => ?_)
            refine lv_goto (tgt := 14) hx hb dX1_degree_43 (by decide) ?_
            exact ih (i + 1) (by omega) (by omega) ls (by rw [pm_cn_1 (f := J j) h34]; exact lv_sub hl [1, 0, 2, 3] rfl)
    refine lv_iconst (v := nI 0) hx hb dX1_degree_10 (by decide +kernel) ?_
    refine lv_istore_n (lv' := [(2, .int (nI 0)), (0, .ref (bd 0)), (1, .int (nI j))]) hx hb dX1_degree_11 rfl hl (by decide) rfl (fun ls hl => ?_)
    refine lv_iconst (v := nI 0) hx hb dX1_degree_12 (by decide +kernel) ?_
    refine lv_istore_n (lv' := [(3, .int (nI 0)), (2, .int (nI 0)), (0, .ref (bd 0)), (1, .int (nI j))]) hx hb dX1_degree_13 rfl hl (by decide) rfl (fun ls hl => ?_)
    exact loop (n + 1) 0 (by omega) (by omega) ls (lv_sub hl [1, 0, 3, 2] rfl)
  · refine lv_iconst (v := -1) hx hb dX1_degree_8 (by decide +kernel) ?_
    exact px_ri hx hb hr hlk (by rw [pm_rd_n h5]) dX1_degree_9
