theorem pm_ok_lt {k : Nat} {x : Int32} (hk : k ≤ 30) (h : pm_ok k x) : x < 0 ↔ x = -1 := by
  rcases h with rfl | ⟨c, hc, rfl⟩
  · decide +kernel
  · exact ⟨fun q => absurd q (nI_pos (by omega)), fun q => absurd q (pm_m1 (by omega))⟩
set_option maxHeartbeats 4000000 in
set_option maxRecDepth 100000 in
theorem tX0_strays {l : Launch} {D : va_G} {cI cJ cZ : ClassId} {ad : Nat → Nat} {n k : Nat} {g : Bool} {E : Nat → Int64} {G C Wi O IO NI CF : Nat → Int32} (J : Nat → Nat → Bool) (hJ : ∀ a b, a < 200 → b < 200 → pm_ed E a b = J a b) (hn : n ≤ 200) : RdI l yX0_strays wsX0_strays (rmd 2) D (tyq cI cJ cZ) [.ref (ad 0)] (w0 cI cJ cZ ad (nI n) (nI k) (px_b g) E G C Wi O IO NI CF) (nI (if g = true then pm_st J CF n else 0)) := by
  cases g
  · refine px_met (cc := cX0_strays) (maxL := 4) (ret := (some .int)) (lv := [(0, .ref (ad 0))]) (by decide +kernel) rfl (Nat.le_of_ble_eq_true rfl) rfl ?_
    intro p e s m below meth c ls S hr hlk hnm hv hl
    obtain ⟨hx, hb, hml, hown, hts⟩ := id S
    obtain ⟨hP, hK⟩ := hv
    have hin : ∀ w ∈ wsX00, w ∈ wsX0_strays := fun w h => List.mem_cons_of_mem _ (List.mem_append_right _ h)
    have f51 := hts (.fieldLink RX0 51 "PointColours" "given" "Z") (by decide +kernel)
    have f66 := hts (.fieldLink RX0 66 "PointColours" "points" "I") (by decide +kernel)
    have f33 := hts (.fieldLink RX0 33 "PointColours" "colourOf" "[I") (by decide +kernel)
    refine lv_aload_n hx hb dX0_strays_0 rfl (lv_at hl 0 rfl) ?_
    refine va_get (D := D) (ci := 0) (v := .int (px_b false)) (C := RX0) (T := TX0) (N := 11) hx hb hts hin hown hK hP 0 rfl rfl 2 (by decide) f51 (fun _ h9 => h9) rfl dX0_strays_1 ?_
    refine px_neb (tgt := 9) hx hb dX0_strays_4 (by decide) (fun h4 => ?_) (fun h4 => ?_)
    · cases h4
    refine lv_iconst (v := nI 0) hx hb dX0_strays_7 (by decide +kernel) ?_
    exact px_ri hx hb hr hlk rfl dX0_strays_8
  · refine px_met (cc := cX0_strays) (maxL := 4) (ret := (some .int)) (lv := [(0, .ref (ad 0))]) (by decide +kernel) rfl (Nat.le_of_ble_eq_true rfl) rfl ?_
    intro p e s m below meth c ls S hr hlk hnm hv hl
    obtain ⟨hx, hb, hml, hown, hts⟩ := id S
    obtain ⟨hP, hK⟩ := hv
    have hin : ∀ w ∈ wsX00, w ∈ wsX0_strays := fun w h => List.mem_cons_of_mem _ (List.mem_append_right _ h)
    have f51 := hts (.fieldLink RX0 51 "PointColours" "given" "Z") (by decide +kernel)
    have f66 := hts (.fieldLink RX0 66 "PointColours" "points" "I") (by decide +kernel)
    have f33 := hts (.fieldLink RX0 33 "PointColours" "colourOf" "[I") (by decide +kernel)
    have outer : ∀ (f a : Nat), n + 1 ≤ a + f → a ≤ n → ∀ ls : Array Slot, lv_has ls 4 [(1, .int (nI (pm_sm (fun a => pm_cn (pm_sy J CF a) n) a))), (2, .int (nI a)), (0, .ref (ad 0))] → W p l e (rmd 2) s m ([.ref (ad 0)] : List Value).toArray below meth c s.heap [] 0 0 (MQ below (vp_Si (fun r => r = nI (if true = true then pm_st J CF n else 0))) ([.ref (ad 0)] : List Value).toArray s 0 0 (fun _ => False)) (F0 m 13 ls []) := by
      intro f
      induction f with
      | zero => intro a h1 h2; exact absurd h1 (by omega)
      | succ f iho =>
        intro a h1 h2 ls hl
        refine lv_iload_n hx hb dX0_strays_13 rfl (lv_at hl 1 rfl) ?_
        refine lv_aload_n hx hb dX0_strays_14 rfl (lv_at hl 2 rfl) ?_
        refine va_get (D := D) (ci := 0) (v := .int (nI n)) (C := RX0) (T := TX0) (N := 11) hx hb hts hin hown hK hP 0 rfl rfl 0 (by decide) f66 (fun _ h9 => h9) rfl dX0_strays_15 ?_
        refine px_ge (tgt := 82) hx hb dX0_strays_18 (by decide) (by omega) (by omega) (fun h18 => ?_) (fun h18 => ?_)
        · refine lv_iload_n hx hb dX0_strays_82 rfl (lv_at hl 0 rfl) ?_
          obtain rfl : a = n := by omega
          exact px_ri hx hb hr hlk rfl dX0_strays_83
        · refine lv_iload_n hx hb dX0_strays_21 rfl (lv_at hl 1 rfl) ?_
          refine lv_iconst (v := nI 1) hx hb dX0_strays_22 (by decide +kernel) ?_
          refine px_add hx hb dX0_strays_23 ?_
          refine lv_istore_n (lv' := [(3, .int (nI (a + 1))), (1, .int (nI (pm_sm (fun a => pm_cn (pm_sy J CF a) n) a))), (2, .int (nI a)), (0, .ref (ad 0))]) hx hb dX0_strays_24 rfl hl (by decide) rfl (fun ls hl => ?_)
          have inner : ∀ (f b : Nat), n + 1 ≤ b + f → a + 1 ≤ b → b ≤ n → ∀ ls : Array Slot, lv_has ls 4 [(1, .int (nI (pm_sm (fun a => pm_cn (pm_sy J CF a) n) a + pm_cn (pm_sy J CF a) b))), (3, .int (nI b)), (2, .int (nI a)), (0, .ref (ad 0))] → W p l e (rmd 2) s m ([.ref (ad 0)] : List Value).toArray below meth c s.heap [] 0 0 (MQ below (vp_Si (fun r => r = nI (if true = true then pm_st J CF n else 0))) ([.ref (ad 0)] : List Value).toArray s 0 0 (fun _ => False)) (F0 m 25 ls []) := by
            intro f
            induction f with
            | zero => intro b h1 h2 h3; exact absurd h1 (by omega)
            | succ f ihi =>
              intro b h1 h2 h3 ls hl
              refine lv_iload_n hx hb dX0_strays_25 rfl (lv_at hl 1 rfl) ?_
              refine lv_aload_n hx hb dX0_strays_26 rfl (lv_at hl 3 rfl) ?_
              refine va_get (D := D) (ci := 0) (v := .int (nI n)) (C := RX0) (T := TX0) (N := 11) hx hb hts hin hown hK hP 0 rfl rfl 0 (by decide) f66 (fun _ h9 => h9) rfl dX0_strays_27 ?_
              refine px_ge (tgt := 76) hx hb dX0_strays_30 (by decide) (by omega) (by omega) (fun h30 => ?_) (fun h30 => ?_)
              · refine lv_iinc (v := nI (a + 1)) (lv' := [(2, .int (nI (a + 1))), (1, .int (nI (pm_sm (fun a => pm_cn (pm_sy J CF a) n) a + pm_cn (pm_sy J CF a) b))), (3, .int (nI b)), (0, .ref (ad 0))]) hx hb dX0_strays_76 hl (k := 2) rfl (px_inc1 _) (by decide) rfl (fun ls hl => ?_)
                refine lv_goto (tgt := 13) hx hb dX0_strays_79 (by decide) ?_
                obtain rfl : b = n := by omega
                exact iho (a + 1) (by omega) (by omega) ls (lv_sub hl [1, 0, 3] rfl)
              · refine lv_aload_n hx hb dX0_strays_33 rfl (lv_at hl 3 rfl) ?_
                refine va_get (D := D) (ci := 0) (v := .ref (ad 8)) (C := RX0) (T := TX0) (N := 11) hx hb hts hin hown hK hP 0 rfl rfl 10 (by decide) f33 (fun _ h9 => h9) rfl dX0_strays_34 ?_
                refine lv_iload_n hx hb dX0_strays_37 rfl (lv_at hl 2 rfl) ?_
                refine px_iald (n := 200) (i := a) hx hb hK hP 8 0 rfl rfl (by omega) (by decide) dX0_strays_38 ?_
                refine lv_iconst (v := -1) hx hb dX0_strays_39 (by decide +kernel) ?_
                refine lv_icmp_eq (tgt := 70) hx hb dX0_strays_40 (by decide) (fun h40 => ?_) (fun h40 => ?_)
                · refine lv_iinc (v := nI (b + 1)) (lv' := [(3, .int (nI (b + 1))), (1, .int (nI (pm_sm (fun a => pm_cn (pm_sy J CF a) n) a + pm_cn (pm_sy J CF a) b))), (2, .int (nI a)), (0, .ref (ad 0))]) hx hb dX0_strays_70 hl (k := 1) rfl (px_inc1 _) (by decide) rfl (fun ls hl => ?_)
                  refine lv_goto (tgt := 25) hx hb dX0_strays_73 (by decide) ?_
                  have hs : pm_sy J CF a b = false := by simp [pm_sy, h40]
                  exact ihi (b + 1) (by omega) (by omega) (by omega) ls (by rw [← pm_sy2 hs]; exact lv_sub hl [1, 0, 2, 3] rfl)
                · refine lv_aload_n hx hb dX0_strays_43 rfl (lv_at hl 3 rfl) ?_
                  refine va_get (D := D) (ci := 0) (v := .ref (ad 8)) (C := RX0) (T := TX0) (N := 11) hx hb hts hin hown hK hP 0 rfl rfl 10 (by decide) f33 (fun _ h9 => h9) rfl dX0_strays_44 ?_
                  refine lv_iload_n hx hb dX0_strays_47 rfl (lv_at hl 2 rfl) ?_
                  refine px_iald (n := 200) (i := a) hx hb hK hP 8 0 rfl rfl (by omega) (by decide) dX0_strays_48 ?_
                  refine lv_aload_n hx hb dX0_strays_49 rfl (lv_at hl 3 rfl) ?_
                  refine va_get (D := D) (ci := 0) (v := .ref (ad 8)) (C := RX0) (T := TX0) (N := 11) hx hb hts hin hown hK hP 0 rfl rfl 10 (by decide) f33 (fun _ h9 => h9) rfl dX0_strays_50 ?_
                  refine lv_iload_n hx hb dX0_strays_53 rfl (lv_at hl 1 rfl) ?_
                  refine px_iald (n := 200) (i := b) hx hb hK hP 8 0 rfl rfl (by omega) (by decide) dX0_strays_54 ?_
                  refine lv_icmp_ne (tgt := 70) hx hb dX0_strays_55 (by decide) (fun h55 => ?_) (fun h55 => ?_)
                  · refine lv_iinc (v := nI (b + 1)) (lv' := [(3, .int (nI (b + 1))), (1, .int (nI (pm_sm (fun a => pm_cn (pm_sy J CF a) n) a + pm_cn (pm_sy J CF a) b))), (2, .int (nI a)), (0, .ref (ad 0))]) hx hb dX0_strays_70 hl (k := 1) rfl (px_inc1 _) (by decide) rfl (fun ls hl => ?_)
                    refine lv_goto (tgt := 25) hx hb dX0_strays_73 (by decide) ?_
                    have hs : pm_sy J CF a b = false := by simp [pm_sy, h55]
                    exact ihi (b + 1) (by omega) (by omega) (by omega) ls (by rw [← pm_sy2 hs]; exact lv_sub hl [1, 0, 2, 3] rfl)
                  · refine lv_aload_n hx hb dX0_strays_58 rfl (lv_at hl 3 rfl) ?_
                    refine lv_iload_n hx hb dX0_strays_59 rfl (lv_at hl 2 rfl) ?_
                    refine lv_iload_n hx hb dX0_strays_60 rfl (lv_at hl 1 rfl) ?_
                    refine px_rd (ci := 0) (q := (RX0, TX0, 11)) (v := px_b (J a b)) (rest := []) S hP hK (tX0_hasEdge J hJ a b (by omega) (by omega)) (cwV 2 hts gX0_strays_X0_hasEdge rfl rfl rfl (by decide +kernel) ⟨by decide, by decide⟩) rfl rfl rfl hl.1 rfl (Nat.le_of_ble_eq_true rfl) dX0_strays_61 ⟨Nat.zero_le _, Nat.zero_le _⟩ ?_
                    refine px_eqb (tgt := 70) hx hb dX0_strays_64 (by decide) (fun h64 => ?_) (fun h64 => ?_)
                    · refine lv_iinc (v := nI (b + 1)) (lv' := [(3, .int (nI (b + 1))), (1, .int (nI (pm_sm (fun a => pm_cn (pm_sy J CF a) n) a + pm_cn (pm_sy J CF a) b))), (2, .int (nI a)), (0, .ref (ad 0))]) hx hb dX0_strays_70 hl (k := 1) rfl (px_inc1 _) (by decide) rfl (fun ls hl => ?_)
                      refine lv_goto (tgt := 25) hx hb dX0_strays_73 (by decide) ?_
                      have hs : pm_sy J CF a b = false := by simp [pm_sy, h64]
                      exact ihi (b + 1) (by omega) (by omega) (by omega) ls (by rw [← pm_sy2 hs]; exact lv_sub hl [1, 0, 2, 3] rfl)
                    · refine lv_iinc (v := nI (pm_sm (fun a => pm_cn (pm_sy J CF a) n) a + pm_cn (pm_sy J CF a) b + 1)) (lv' := [(1, .int (nI (pm_sm (fun a => pm_cn (pm_sy J CF a) n) a + pm_cn (pm_sy J CF a) b + 1))), (3, .int (nI b)), (2, .int (nI a)), (0, .ref (ad 0))]) hx hb dX0_strays_67 hl (k := 0) rfl (px_inc1 _) (by decide) rfl (fun ls hl => ?_)
                      refine lv_iinc (v := nI (b + 1)) (lv' := [(3, .int (nI (b + 1))), (1, .int (nI (pm_sm (fun a => pm_cn (pm_sy J CF a) n) a + pm_cn (pm_sy J CF a) b + 1))), (2, .int (nI a)), (0, .ref (ad 0))]) hx hb dX0_strays_70 hl (k := 1) rfl (px_inc1 _) (by decide) rfl (fun ls hl => ?_)
                      refine lv_goto (tgt := 25) hx hb dX0_strays_73 (by decide) ?_
                      have hs : pm_sy J CF a b = true := by simp only [pm_sy, h64, Bool.true_and, Bool.and_eq_true, Bool.not_eq_true', decide_eq_true_eq, decide_eq_false_iff_not]; exact ⟨by omega, h40, by first | exact h55 | exact Decidable.not_not.mp h55⟩
                      exact ihi (b + 1) (by omega) (by omega) (by omega) ls (by rw [← pm_sy1 hs]; exact lv_sub hl [1, 0, 2, 3] rfl)
          exact inner (n + 1) (a + 1) (by omega) (by omega) (by omega) ls (by rw [pm_sy0 J CF a (a + 1) (by omega), Nat.add_zero]; exact lv_sub hl [1, 0, 2, 3] rfl)
    refine lv_aload_n hx hb dX0_strays_0 rfl (lv_at hl 0 rfl) ?_
    refine va_get (D := D) (ci := 0) (v := .int (px_b true)) (C := RX0) (T := TX0) (N := 11) hx hb hts hin hown hK hP 0 rfl rfl 2 (by decide) f51 (fun _ h9 => h9) rfl dX0_strays_1 ?_
    refine px_neb (tgt := 9) hx hb dX0_strays_4 (by decide) (fun h4 => ?_) (fun h4 => ?_)
    rotate_left
    · cases h4
    refine lv_iconst (v := nI 0) hx hb dX0_strays_9 (by decide +kernel) ?_
    refine lv_istore_n (lv' := [(1, .int (nI 0)), (0, .ref (ad 0))]) hx hb dX0_strays_10 rfl hl (by decide) rfl (fun ls hl => ?_)
    refine lv_iconst (v := nI 0) hx hb dX0_strays_11 (by decide +kernel) ?_
    refine lv_istore_n (lv' := [(2, .int (nI 0)), (1, .int (nI 0)), (0, .ref (ad 0))]) hx hb dX0_strays_12 rfl hl (by decide) rfl (fun ls hl => ?_)
    exact outer (n + 1) 0 (by omega) (by omega) ls (lv_sub hl [1, 0, 2] rfl)
set_option maxHeartbeats 4000000 in
set_option maxRecDepth 100000 in
theorem tX1_strays {l : Launch} {D : va_G} {cI cJ cZ : ClassId} {bd : Nat → Nat} {n k : Nat} {g : Bool} {PA C Wi CO RW IN : Nat → Int32} (J : Nat → Nat → Bool) (hJ : ∀ a b, a < 200 → b < 200 → PA (200 * a + b) = px_b (J a b)) (hn : n ≤ 200) (hn0 : 0 < n) (hk : k ≤ 30) (hok : g = true → ∀ a, a < n → pm_ok k (CO a)) : RdI l yX1_strays wsX1_strays (rmd 0) D (tyq cI cJ cZ) [.ref (bd 0)] (w1 cI cZ bd (nI n) (nI k) (px_b g) PA C Wi CO RW IN) (nI (if g = true then pm_st J CO n else 0)) := by
  cases g
  · refine px_met (cc := cX1_strays) (maxL := 4) (ret := (some .int)) (lv := [(0, .ref (bd 0))]) (by decide +kernel) rfl (Nat.le_of_ble_eq_true rfl) rfl ?_
    intro p e s m below meth c ls S hr hlk hnm hv hl
    obtain ⟨hx, hb, hml, hown, hts⟩ := id S
    obtain ⟨hP, hK⟩ := hv
    have hin : ∀ w ∈ wsX10, w ∈ wsX1_strays := fun w h => List.mem_cons_of_mem _ (List.mem_append_right _ h)
    have f34 := hts (.fieldLink RX1 34 "PointColoursModel" "n" "I") (by decide +kernel)
    have f41 := hts (.fieldLink RX1 41 "PointColoursModel" "given" "Z") (by decide +kernel)
    have f10 := hts (.fieldLink RX1 10 "PointColoursModel" "pairs" "[Z") (by decide +kernel)
    have f21 := hts (.fieldLink RX1 21 "PointColoursModel" "colours" "[I") (by decide +kernel)
    refine lv_iconst (v := nI 0) hx hb dX1_strays_0 (by decide +kernel) ?_
    refine lv_istore_n (lv' := [(1, .int (nI 0)), (0, .ref (bd 0))]) hx hb dX1_strays_1 rfl hl (by decide) rfl (fun ls hl => ?_)
    refine lv_iconst (v := nI 0) hx hb dX1_strays_2 (by decide +kernel) ?_
    refine lv_istore_n (lv' := [(2, .int (nI 0)), (1, .int (nI 0)), (0, .ref (bd 0))]) hx hb dX1_strays_3 rfl hl (by decide) rfl (fun ls hl => ?_)
    refine lv_iload_n hx hb dX1_strays_4 rfl (lv_at hl 0 rfl) ?_
    refine lv_aload_n hx hb dX1_strays_5 rfl (lv_at hl 2 rfl) ?_
    refine va_get (D := D) (ci := 1) (v := .int (nI n)) (C := RX1) (T := TX1) (N := 9) hx hb hts hin hown hK hP 0 rfl rfl 6 (by decide) f34 (fun _ h9 => h9) rfl dX1_strays_6 ?_
    refine px_ge (tgt := 85) hx hb dX1_strays_9 (by decide) (by omega) (by omega) (fun h9 => ?_) (fun h9 => ?_)
    · exact absurd h9 (by omega)
    refine lv_aload_n hx hb dX1_strays_12 rfl (lv_at hl 2 rfl) ?_
    refine va_get (D := D) (ci := 1) (v := .int (px_b false)) (C := RX1) (T := TX1) (N := 9) hx hb hts hin hown hK hP 0 rfl rfl 8 (by decide) f41 (fun _ h9 => h9) rfl dX1_strays_13 ?_
    refine px_eqb (tgt := 85) hx hb dX1_strays_16 (by decide) (fun h16 => ?_) (fun h16 => ?_)
    rotate_left
    · cases h16
    refine lv_iload_n hx hb dX1_strays_85 rfl (lv_at hl 1 rfl) ?_
    exact px_ri hx hb hr hlk rfl dX1_strays_86
  · refine px_met (cc := cX1_strays) (maxL := 4) (ret := (some .int)) (lv := [(0, .ref (bd 0))]) (by decide +kernel) rfl (Nat.le_of_ble_eq_true rfl) rfl ?_
    intro p e s m below meth c ls S hr hlk hnm hv hl
    obtain ⟨hx, hb, hml, hown, hts⟩ := id S
    obtain ⟨hP, hK⟩ := hv
    have hin : ∀ w ∈ wsX10, w ∈ wsX1_strays := fun w h => List.mem_cons_of_mem _ (List.mem_append_right _ h)
    have f34 := hts (.fieldLink RX1 34 "PointColoursModel" "n" "I") (by decide +kernel)
    have f41 := hts (.fieldLink RX1 41 "PointColoursModel" "given" "Z") (by decide +kernel)
    have f10 := hts (.fieldLink RX1 10 "PointColoursModel" "pairs" "[Z") (by decide +kernel)
    have f21 := hts (.fieldLink RX1 21 "PointColoursModel" "colours" "[I") (by decide +kernel)
    have outer : ∀ (f a : Nat), n + 1 ≤ a + f → a ≤ n → ∀ ls : Array Slot, lv_has ls 4 [(1, .int (nI (pm_sm (fun a => pm_cn (pm_sy J CO a) n) a))), (2, .int (nI a)), (0, .ref (bd 0))] → W p l e (rmd 0) s m ([.ref (bd 0)] : List Value).toArray below meth c s.heap [] 0 0 (MQ below (vp_Si (fun r => r = nI (if true = true then pm_st J CO n else 0))) ([.ref (bd 0)] : List Value).toArray s 0 0 (fun _ => False)) (F0 m 4 ls []) := by
      intro f
      induction f with
      | zero => intro a h1 h2; exact absurd h1 (by omega)
      | succ f iho =>
        intro a h1 h2 ls hl
        refine lv_iload_n hx hb dX1_strays_4 rfl (lv_at hl 1 rfl) ?_
        refine lv_aload_n hx hb dX1_strays_5 rfl (lv_at hl 2 rfl) ?_
        refine va_get (D := D) (ci := 1) (v := .int (nI n)) (C := RX1) (T := TX1) (N := 9) hx hb hts hin hown hK hP 0 rfl rfl 6 (by decide) f34 (fun _ h9 => h9) rfl dX1_strays_6 ?_
        refine px_ge (tgt := 85) hx hb dX1_strays_9 (by decide) (by omega) (by omega) (fun h9 => ?_) (fun h9 => ?_)
        · refine lv_iload_n hx hb dX1_strays_85 rfl (lv_at hl 0 rfl) ?_
          obtain rfl : a = n := by omega
          exact px_ri hx hb hr hlk rfl dX1_strays_86
        · refine lv_aload_n hx hb dX1_strays_12 rfl (lv_at hl 2 rfl) ?_
          refine va_get (D := D) (ci := 1) (v := .int (px_b true)) (C := RX1) (T := TX1) (N := 9) hx hb hts hin hown hK hP 0 rfl rfl 8 (by decide) f41 (fun _ h9 => h9) rfl dX1_strays_13 ?_
          refine px_eqb (tgt := 85) hx hb dX1_strays_16 (by decide) (fun h16 => ?_) (fun h16 => ?_)
          · cases h16
          refine lv_iload_n hx hb dX1_strays_19 rfl (lv_at hl 1 rfl) ?_
          refine lv_iconst (v := nI 1) hx hb dX1_strays_20 (by decide +kernel) ?_
          refine px_add hx hb dX1_strays_21 ?_
          refine lv_istore_n (lv' := [(3, .int (nI (a + 1))), (1, .int (nI (pm_sm (fun a => pm_cn (pm_sy J CO a) n) a))), (2, .int (nI a)), (0, .ref (bd 0))]) hx hb dX1_strays_22 rfl hl (by decide) rfl (fun ls hl => ?_)
          have inner : ∀ (f b : Nat), n + 1 ≤ b + f → a + 1 ≤ b → b ≤ n → ∀ ls : Array Slot, lv_has ls 4 [(1, .int (nI (pm_sm (fun a => pm_cn (pm_sy J CO a) n) a + pm_cn (pm_sy J CO a) b))), (3, .int (nI b)), (2, .int (nI a)), (0, .ref (bd 0))] → W p l e (rmd 0) s m ([.ref (bd 0)] : List Value).toArray below meth c s.heap [] 0 0 (MQ below (vp_Si (fun r => r = nI (if true = true then pm_st J CO n else 0))) ([.ref (bd 0)] : List Value).toArray s 0 0 (fun _ => False)) (F0 m 23 ls []) := by
            intro f
            induction f with
            | zero => intro b h1 h2 h3; exact absurd h1 (by omega)
            | succ f ihi =>
              intro b h1 h2 h3 ls hl
              refine lv_iload_n hx hb dX1_strays_23 rfl (lv_at hl 1 rfl) ?_
              refine lv_aload_n hx hb dX1_strays_24 rfl (lv_at hl 3 rfl) ?_
              refine va_get (D := D) (ci := 1) (v := .int (nI n)) (C := RX1) (T := TX1) (N := 9) hx hb hts hin hown hK hP 0 rfl rfl 6 (by decide) f34 (fun _ h9 => h9) rfl dX1_strays_25 ?_
              refine px_ge (tgt := 79) hx hb dX1_strays_28 (by decide) (by omega) (by omega) (fun h28 => ?_) (fun h28 => ?_)
              · refine lv_iinc (v := nI (a + 1)) (lv' := [(2, .int (nI (a + 1))), (1, .int (nI (pm_sm (fun a => pm_cn (pm_sy J CO a) n) a + pm_cn (pm_sy J CO a) b))), (3, .int (nI b)), (0, .ref (bd 0))]) hx hb dX1_strays_79 hl (k := 2) rfl (px_inc1 _) (by decide) rfl (fun ls hl => ?_)
                refine lv_goto (tgt := 4) hx hb dX1_strays_82 (by decide) ?_
                obtain rfl : b = n := by omega
                exact iho (a + 1) (by omega) (by omega) ls (lv_sub hl [1, 0, 3] rfl)
              · refine lv_aload_n hx hb dX1_strays_31 rfl (lv_at hl 3 rfl) ?_
                refine va_get (D := D) (ci := 1) (v := .ref (bd 1)) (C := RX1) (T := TX1) (N := 9) hx hb hts hin hown hK hP 0 rfl rfl 0 (by decide) f10 (fun _ h9 => h9) rfl dX1_strays_32 ?_
                refine lv_sipush (v := nI 200) hx hb dX1_strays_35 (by decide +kernel) ?_
                refine lv_iload_n hx hb dX1_strays_38 rfl (lv_at hl 2 rfl) ?_
                refine px_mul hx hb dX1_strays_39 ?_
                refine lv_iload_n hx hb dX1_strays_40 rfl (lv_at hl 1 rfl) ?_
                refine px_add hx hb dX1_strays_41 ?_
                refine px_zald (n := 40000) (i := ((200 * a) + b)) hx hb hK hP 1 2 rfl rfl (by omega) (by decide) dX1_strays_42 ?_
                refine px_top (y := px_b (J a b)) (hJ _ _ (by omega) (by omega)) ?_
                refine px_eqb (tgt := 73) hx hb dX1_strays_43 (by decide) (fun h43 => ?_) (fun h43 => ?_)
                · refine lv_iinc (v := nI (b + 1)) (lv' := [(3, .int (nI (b + 1))), (1, .int (nI (pm_sm (fun a => pm_cn (pm_sy J CO a) n) a + pm_cn (pm_sy J CO a) b))), (2, .int (nI a)), (0, .ref (bd 0))]) hx hb dX1_strays_73 hl (k := 1) rfl (px_inc1 _) (by decide) rfl (fun ls hl => ?_)
                  refine lv_goto (tgt := 23) hx hb dX1_strays_76 (by decide) ?_
                  have hs : pm_sy J CO a b = false := by simp [pm_sy, h43]
                  exact ihi (b + 1) (by omega) (by omega) (by omega) ls (by rw [← pm_sy2 hs]; exact lv_sub hl [1, 0, 2, 3] rfl)
                · refine lv_aload_n hx hb dX1_strays_46 rfl (lv_at hl 3 rfl) ?_
                  refine va_get (D := D) (ci := 1) (v := .ref (bd 4)) (C := RX1) (T := TX1) (N := 9) hx hb hts hin hown hK hP 0 rfl rfl 3 (by decide) f21 (fun _ h9 => h9) rfl dX1_strays_47 ?_
                  refine lv_iload_n hx hb dX1_strays_50 rfl (lv_at hl 2 rfl) ?_
                  refine px_iald (n := 200) (i := a) hx hb hK hP 4 0 rfl rfl (by omega) (by decide) dX1_strays_51 ?_
                  refine lv_if_lt (tgt := 73) hx hb dX1_strays_52 (by decide) (fun h52 => ?_) (fun h52 => ?_)
                  · refine lv_iinc (v := nI (b + 1)) (lv' := [(3, .int (nI (b + 1))), (1, .int (nI (pm_sm (fun a => pm_cn (pm_sy J CO a) n) a + pm_cn (pm_sy J CO a) b))), (2, .int (nI a)), (0, .ref (bd 0))]) hx hb dX1_strays_73 hl (k := 1) rfl (px_inc1 _) (by decide) rfl (fun ls hl => ?_)
                    refine lv_goto (tgt := 23) hx hb dX1_strays_76 (by decide) ?_
                    have hs : pm_sy J CO a b = false := by simp [pm_sy, (pm_ok_lt hk (hok rfl a (by omega))).mp h52]
                    exact ihi (b + 1) (by omega) (by omega) (by omega) ls (by rw [← pm_sy2 hs]; exact lv_sub hl [1, 0, 2, 3] rfl)
                  · refine lv_aload_n hx hb dX1_strays_55 rfl (lv_at hl 3 rfl) ?_
                    refine va_get (D := D) (ci := 1) (v := .ref (bd 4)) (C := RX1) (T := TX1) (N := 9) hx hb hts hin hown hK hP 0 rfl rfl 3 (by decide) f21 (fun _ h9 => h9) rfl dX1_strays_56 ?_
                    refine lv_iload_n hx hb dX1_strays_59 rfl (lv_at hl 2 rfl) ?_
                    refine px_iald (n := 200) (i := a) hx hb hK hP 4 0 rfl rfl (by omega) (by decide) dX1_strays_60 ?_
                    refine lv_aload_n hx hb dX1_strays_61 rfl (lv_at hl 3 rfl) ?_
                    refine va_get (D := D) (ci := 1) (v := .ref (bd 4)) (C := RX1) (T := TX1) (N := 9) hx hb hts hin hown hK hP 0 rfl rfl 3 (by decide) f21 (fun _ h9 => h9) rfl dX1_strays_62 ?_
                    refine lv_iload_n hx hb dX1_strays_65 rfl (lv_at hl 1 rfl) ?_
                    refine px_iald (n := 200) (i := b) hx hb hK hP 4 0 rfl rfl (by omega) (by decide) dX1_strays_66 ?_
                    refine lv_icmp_ne (tgt := 73) hx hb dX1_strays_67 (by decide) (fun h67 => ?_) (fun h67 => ?_)
                    · refine lv_iinc (v := nI (b + 1)) (lv' := [(3, .int (nI (b + 1))), (1, .int (nI (pm_sm (fun a => pm_cn (pm_sy J CO a) n) a + pm_cn (pm_sy J CO a) b))), (2, .int (nI a)), (0, .ref (bd 0))]) hx hb dX1_strays_73 hl (k := 1) rfl (px_inc1 _) (by decide) rfl (fun ls hl => ?_)
                      refine lv_goto (tgt := 23) hx hb dX1_strays_76 (by decide) ?_
                      have hs : pm_sy J CO a b = false := by simp [pm_sy, h67]
                      exact ihi (b + 1) (by omega) (by omega) (by omega) ls (by rw [← pm_sy2 hs]; exact lv_sub hl [1, 0, 2, 3] rfl)
                    · refine lv_iinc (v := nI (pm_sm (fun a => pm_cn (pm_sy J CO a) n) a + pm_cn (pm_sy J CO a) b + 1)) (lv' := [(1, .int (nI (pm_sm (fun a => pm_cn (pm_sy J CO a) n) a + pm_cn (pm_sy J CO a) b + 1))), (3, .int (nI b)), (2, .int (nI a)), (0, .ref (bd 0))]) hx hb dX1_strays_70 hl (k := 0) rfl (px_inc1 _) (by decide) rfl (fun ls hl => ?_)
                      refine lv_iinc (v := nI (b + 1)) (lv' := [(3, .int (nI (b + 1))), (1, .int (nI (pm_sm (fun a => pm_cn (pm_sy J CO a) n) a + pm_cn (pm_sy J CO a) b + 1))), (2, .int (nI a)), (0, .ref (bd 0))]) hx hb dX1_strays_73 hl (k := 1) rfl (px_inc1 _) (by decide) rfl (fun ls hl => ?_)
                      refine lv_goto (tgt := 23) hx hb dX1_strays_76 (by decide) ?_
                      have hs : pm_sy J CO a b = true := by simp only [pm_sy, h43, Bool.true_and, Bool.and_eq_true, Bool.not_eq_true', decide_eq_true_eq, decide_eq_false_iff_not]; exact ⟨by omega, fun q => h52 ((pm_ok_lt hk (hok rfl a (by omega))).mpr q), by first | exact h67 | exact Decidable.not_not.mp h67⟩
                      exact ihi (b + 1) (by omega) (by omega) (by omega) ls (by rw [← pm_sy1 hs]; exact lv_sub hl [1, 0, 2, 3] rfl)
          exact inner (n + 1) (a + 1) (by omega) (by omega) (by omega) ls (by rw [pm_sy0 J CO a (a + 1) (by omega), Nat.add_zero]; exact lv_sub hl [1, 0, 2, 3] rfl)
    refine lv_iconst (v := nI 0) hx hb dX1_strays_0 (by decide +kernel) ?_
    refine lv_istore_n (lv' := [(1, .int (nI 0)), (0, .ref (bd 0))]) hx hb dX1_strays_1 rfl hl (by decide) rfl (fun ls hl => ?_)
    refine lv_iconst (v := nI 0) hx hb dX1_strays_2 (by decide +kernel) ?_
    refine lv_istore_n (lv' := [(2, .int (nI 0)), (1, .int (nI 0)), (0, .ref (bd 0))]) hx hb dX1_strays_3 rfl hl (by decide) rfl (fun ls hl => ?_)
    exact outer (n + 1) 0 (by omega) (by omega) ls (lv_sub hl [1, 0, 2] rfl)
