set_option maxHeartbeats 4000000 in
set_option maxRecDepth 100000 in
theorem tX0_takeOut {l : Launch} {D : va_G} {cI cJ cZ : ClassId} {ad : Nat → Nat} {n k : Nat} {gv : Int32} {E : Nat → Int64} {G C Wi O IO NI CF : Nat → Int32} (J : Nat → Nat → Bool) (hJ : ∀ a b, a < 200 → b < 200 → pm_ed E a b = J a b) (hn : n ≤ 200) (a : Nat) (ha : a < n) : WrV l yX0_takeOut wsX0_takeOut (rmd 2) D (tyq cI cJ cZ) [.ref (ad 0), .int (nI a)] (w0 cI cJ cZ ad (nI n) (nI k) gv E G C Wi O IO NI CF) (S := (Nat → Int32)) (fun N => ∀ q, q < n → N q = if J a q = true then NI q - nI 1 else NI q) (fun N => w0 cI cJ cZ ad (nI n) (nI k) gv E G C Wi O (upd IO a (px_b true)) N CF) := by
  refine px_met (cc := cX0_takeOut) (maxL := 3) (ret := none) (lv := [(0, .ref (ad 0)), (1, .int (nI a))]) (by decide +kernel) rfl (Nat.le_of_ble_eq_true rfl) rfl ?_
  intro p e s m below meth c ls S hr hlk hnm hv hl
  obtain ⟨hx, hb, hml, hown, hts⟩ := id S
  obtain ⟨hP, hK, hD⟩ := hv
  have hin : ∀ w ∈ wsX00, w ∈ wsX0_takeOut := fun w h => List.mem_cons_of_mem _ (List.mem_append_right _ h)
  have f26 := hts (.fieldLink RX0 26 "PointColours" "isOut" "[Z") (by decide +kernel)
  have f66 := hts (.fieldLink RX0 66 "PointColours" "points" "I") (by decide +kernel)
  have f30 := hts (.fieldLink RX0 30 "PointColours" "neighboursIn" "[I") (by decide +kernel)
  have hS : va_S (px_B (w0 cI cJ cZ ad (nI n) (nI k) gv E G C Wi O IO NI CF)) s.heap s.heap [] := va_S.rf
  generalize hA : px_B (w0 cI cJ cZ ad (nI n) (nI k) gv E G C Wi O IO NI CF) = A at hD hS ⊢
  have loop : ∀ (f i : Nat) (N : Nat → Int32) (H : Heap) (locs : List Loc), n + 1 ≤ i + f → i ≤ n → (∀ q, q < i → N q = if J a q = true then NI q - nI 1 else NI q) → (∀ q, i ≤ q → N q = NI q) → va_P D vwCl (w0 cI cJ cZ ad (nI n) (nI k) gv E G C Wi O (upd IO a (px_b true)) N CF) H → va_D A (w0 cI cJ cZ ad (nI n) (nI k) gv E G C Wi O (upd IO a (px_b true)) N CF) → va_S A s.heap H locs → ∀ ls : Array Slot, lv_has ls 3 [(2, .int (nI i)), (1, .int (nI a)), (0, .ref (ad 0))] → W p l e (rmd 2) s m ([.ref (ad 0), .int (nI a)] : List Value).toArray below meth c H locs 0 0 (MQ below (va_Qv (S := (Nat → Int32)) (fun N => ∀ q, q < n → N q = if J a q = true then NI q - nI 1 else NI q) (fun u t => va_P D vwCl ((fun N => w0 cI cJ cZ ad (nI n) (nI k) gv E G C Wi O (upd IO a (px_b true)) N CF) u) t.heap) A) ([.ref (ad 0), .int (nI a)] : List Value).toArray s 0 0 A) (F0 m 18 ls []) := by
    intro f
    induction f with
    | zero => intro i N H locs h1 h2; exact absurd h1 (by omega)
    | succ f ih =>
      intro i N H locs h1 h2 ha2 hb2 hP hD hS ls hl
      refine lv_iload_n hx hb dX0_takeOut_18 rfl (lv_at hl 0 rfl) ?_
      refine lv_aload_n hx hb dX0_takeOut_19 rfl (lv_at hl 2 rfl) ?_
      refine va_get (D := D) (ci := 0) (v := .int (nI n)) (C := RX0) (T := TX0) (N := 11) hx hb hts hin hown hK hP 0 rfl rfl 0 (by decide) f66 (fun _ h9 => h9) rfl dX0_takeOut_20 ?_
      refine px_ge (tgt := 51) hx hb dX0_takeOut_23 (by decide) (by omega) (by omega) (fun h23 => ?_) (fun h23 => ?_)
      · exact px_ev (post := fun N => ∀ q, q < n → N q = if J a q = true then NI q - nI 1 else NI q) (wf := fun N => w0 cI cJ cZ ad (nI n) (nI k) gv E G C Wi O (upd IO a (px_b true)) N CF) hx hb hr hlk hS N (fun q hq => ha2 q (by omega)) hP dX0_takeOut_51
      · refine lv_aload_n hx hb dX0_takeOut_26 rfl (lv_at hl 2 rfl) ?_
        refine lv_iload_n hx hb dX0_takeOut_27 rfl (lv_at hl 1 rfl) ?_
        refine lv_iload_n hx hb dX0_takeOut_28 rfl (lv_at hl 0 rfl) ?_
        refine px_rd (ci := 0) (q := (RX0, TX0, 11)) (v := px_b (J a i)) (rest := []) S hP hK (tX0_hasEdge J hJ a i (by omega) (by omega)) (cwV 2 hts gX0_takeOut_X0_hasEdge rfl rfl rfl (by decide +kernel) ⟨by decide, by decide⟩) rfl rfl rfl hl.1 rfl (Nat.le_of_ble_eq_true rfl) dX0_takeOut_29 ⟨Nat.zero_le _, Nat.zero_le _⟩ ?_
        refine px_eqb (tgt := 45) hx hb dX0_takeOut_32 (by decide) (fun h32 => ?_) (fun h32 => ?_)
        · refine lv_iinc (v := nI (i + 1)) (lv' := [(2, .int (nI (i + 1))), (1, .int (nI a)), (0, .ref (ad 0))]) hx hb dX0_takeOut_45 hl (k := 0) rfl (px_inc1 _) (by decide) rfl (fun ls hl => ?_)
          refine lv_goto (tgt := 18) hx hb dX0_takeOut_48 (by decide) ?_
          exact ih (i + 1) N H locs (by omega) (by omega) (fun q hq => by
            by_cases z : q = i
            · rw [z, if_neg (by rw [h32]; decide), hb2 i (by omega)]
            · exact ha2 q (by omega)) (fun q hq => hb2 q (by omega)) hP hD hS ls (lv_sub hl [0, 1, 2] rfl)
        · refine lv_aload_n hx hb dX0_takeOut_35 rfl (lv_at hl 2 rfl) ?_
          refine va_get (D := D) (ci := 0) (v := .ref (ad 7)) (C := RX0) (T := TX0) (N := 11) hx hb hts hin hown hK hP 0 rfl rfl 9 (by decide) f30 (fun _ h9 => h9) rfl dX0_takeOut_36 ?_
          refine lv_iload_n hx hb dX0_takeOut_39 rfl (lv_at hl 0 rfl) ?_
          refine lv_dup2_11 hx hb dX0_takeOut_40 rfl rfl ?_
          refine px_iald (n := 200) (i := i) hx hb hK hP 7 0 rfl rfl (by omega) (by decide) dX0_takeOut_41 ?_
          refine lv_iconst (v := nI 1) hx hb dX0_takeOut_42 (by decide +kernel) ?_
          refine lv_isub hx hb dX0_takeOut_43 ?_
          refine px_iast (n := 200) (i := i) (ws' := w0 cI cJ cZ ad (nI n) (nI k) gv E G C Wi O (upd IO a (px_b true)) (upd N i ((N i) - (nI 1))) CF) hx hb hK hP hD hS 7 0 rfl rfl (by omega) (by decide) rfl dX0_takeOut_44 (fun H locs hP hD hS => ?_)
          refine lv_iinc (v := nI (i + 1)) (lv' := [(2, .int (nI (i + 1))), (1, .int (nI a)), (0, .ref (ad 0))]) hx hb dX0_takeOut_45 hl (k := 0) rfl (px_inc1 _) (by decide) rfl (fun ls hl => ?_)
          refine lv_goto (tgt := 18) hx hb dX0_takeOut_48 (by decide) ?_
          exact ih (i + 1) _ H locs (by omega) (by omega) (fun q hq => by
            by_cases z : q = i
            · rw [z, pk_us, if_pos h32, hb2 i (by omega)]
            · rw [pk_un z]; exact ha2 q (by omega)) (fun q hq => by rw [pk_un (by omega)]; exact hb2 q (by omega)) hP hD hS ls (lv_sub hl [0, 1, 2] rfl)
  refine lv_aload_n hx hb dX0_takeOut_0 rfl (lv_at hl 0 rfl) ?_
  refine lv_iload_n hx hb dX0_takeOut_1 rfl (lv_at hl 1 rfl) ?_
  refine px_rd (ci := 0) (q := (RX0, TX0, 11)) (v := px_b (pm_pt n (nI a))) (rest := []) S hP hK (tX0_isPoint (by omega) (nI a)) (cwV 1 hts gX0_takeOut_X0_isPoint rfl rfl rfl (by decide +kernel) ⟨by decide, by decide⟩) rfl rfl rfl hl.1 rfl (Nat.le_of_ble_eq_true rfl) dX0_takeOut_2 ⟨Nat.zero_le _, Nat.zero_le _⟩ ?_
  refine px_neb (tgt := 9) hx hb dX0_takeOut_5 (by decide) (fun h5 => ?_) (fun h5 => ?_)
  rotate_left
  · exact absurd h5 (by rw [pm_pt_nI (by omega)]; simp; omega)
  refine lv_aload_n hx hb dX0_takeOut_9 rfl (lv_at hl 0 rfl) ?_
  refine va_get (D := D) (ci := 0) (v := .ref (ad 6)) (C := RX0) (T := TX0) (N := 11) hx hb hts hin hown hK hP 0 rfl rfl 8 (by decide) f26 (fun _ h9 => h9) rfl dX0_takeOut_10 ?_
  refine lv_iload_n hx hb dX0_takeOut_13 rfl (lv_at hl 1 rfl) ?_
  refine lv_iconst (v := px_b true) hx hb dX0_takeOut_14 (by decide +kernel) ?_
  refine px_zast (x := true) (n := 200) (i := a) (ws' := w0 cI cJ cZ ad (nI n) (nI k) gv E G C Wi O (upd IO a (px_b true)) NI CF) hx hb hK hP hD hS 6 2 rfl rfl (by omega) (by decide) rfl dX0_takeOut_15 (fun H locs hP hD hS => ?_)
  refine lv_iconst (v := nI 0) hx hb dX0_takeOut_16 (by decide +kernel) ?_
  refine lv_istore_n (lv' := [(2, .int (nI 0)), (0, .ref (ad 0)), (1, .int (nI a))]) hx hb dX0_takeOut_17 rfl hl (by decide) rfl (fun ls hl => ?_)
  exact loop (n + 1) 0 NI H locs (by omega) (by omega) (fun q hq => absurd hq (by omega)) (fun q _ => rfl) hP hD hS ls (lv_sub hl [0, 2, 1] rfl)
set_option maxHeartbeats 4000000 in
set_option maxRecDepth 100000 in
theorem tX0_takeAllOut {l : Launch} {D : va_G} {cI cJ cZ : ClassId} {ad : Nat → Nat} {n k : Nat} {gv : Int32} {E : Nat → Int64} {G C Wi O IO NI CF : Nat → Int32} (J : Nat → Nat → Bool) (hJ : ∀ a b, a < 200 → b < 200 → pm_ed E a b = J a b) (hsym : ∀ a b, J a b = J b a) (cst : Nat → Nat) (hn : n ≤ 200) (hk : k ≤ 30) (hG : ∀ a, a < n → G a = nI (pm_cn (J a) n)) (hC : ∀ a, a < 200 → C a = nI (cst a)) (hc1 : ∀ a, cst a ≤ 1000000) : WrV l yX0_takeAllOut wsX0_takeAllOut (rmd 3) D (tyq cI cJ cZ) [.ref (ad 0)] (w0 cI cJ cZ ad (nI n) (nI k) gv E G C Wi O IO NI CF) (S := (Nat → Int32) × (Nat → Int32) × (Nat → Int32)) (fun u => ∀ i, i < n → u.1 i = nI (pm_od J n k cst i)) (fun u => w0 cI cJ cZ ad (nI n) (nI k) gv E G C Wi u.1 u.2.1 u.2.2 CF) := by
  refine px_met (cc := cX0_takeAllOut) (maxL := 2) (ret := none) (lv := [(0, .ref (ad 0))]) (by decide +kernel) rfl (Nat.le_of_ble_eq_true rfl) rfl ?_
  intro p e s m below meth c ls S hr hlk hnm hv hl
  obtain ⟨hx, hb, hml, hown, hts⟩ := id S
  obtain ⟨hP, hK, hD⟩ := hv
  have hin : ∀ w ∈ wsX00, w ∈ wsX0_takeAllOut := fun w h => List.mem_cons_of_mem _ (List.mem_append_right _ h)
  have f66 := hts (.fieldLink RX0 66 "PointColours" "points" "I") (by decide +kernel)
  have f26 := hts (.fieldLink RX0 26 "PointColours" "isOut" "[Z") (by decide +kernel)
  have f30 := hts (.fieldLink RX0 30 "PointColours" "neighboursIn" "[I") (by decide +kernel)
  have f13 := hts (.fieldLink RX0 13 "PointColours" "degrees" "[I") (by decide +kernel)
  have f23 := hts (.fieldLink RX0 23 "PointColours" "order" "[I") (by decide +kernel)
  have hS : va_S (px_B (w0 cI cJ cZ ad (nI n) (nI k) gv E G C Wi O IO NI CF)) s.heap s.heap [] := va_S.rf
  generalize hA : px_B (w0 cI cJ cZ ad (nI n) (nI k) gv E G C Wi O IO NI CF) = A at hD hS ⊢
  have second : ∀ (f i : Nat) (P B N : Nat → Int32) (H : Heap) (locs : List Loc), n + 1 ≤ i + f → i ≤ n → (∀ j, j < i → P j = nI (pm_od J n k cst j)) → (∀ a, a < n → B a = px_b (!pm_in J n k cst i a)) → (∀ a, a < n → N a = nI (pm_lf J n (pm_in J n k cst i) a)) → va_P D vwCl (w0 cI cJ cZ ad (nI n) (nI k) gv E G C Wi P B N CF) H → va_D A (w0 cI cJ cZ ad (nI n) (nI k) gv E G C Wi P B N CF) → va_S A s.heap H locs → ∀ ls : Array Slot, lv_has ls 2 [(1, .int (nI i)), (0, .ref (ad 0))] → W p l e (rmd 3) s m ([.ref (ad 0)] : List Value).toArray below meth c H locs 0 0 (MQ below (va_Qv (S := (Nat → Int32) × (Nat → Int32) × (Nat → Int32)) (fun u => ∀ i, i < n → u.1 i = nI (pm_od J n k cst i)) (fun u t => va_P D vwCl ((fun u => w0 cI cJ cZ ad (nI n) (nI k) gv E G C Wi u.1 u.2.1 u.2.2 CF) u) t.heap) A) ([.ref (ad 0)] : List Value).toArray s 0 0 A) (F0 m 37 ls []) := by
    intro f
    induction f with
    | zero => intro i P B N H locs h1 h2; exact absurd h1 (by omega)
    | succ f ih =>
      intro i P B N H locs h1 h2 hO hB hN hP hD hS ls hl
      refine lv_iload_n hx hb dX0_takeAllOut_37 rfl (lv_at hl 0 rfl) ?_
      refine lv_aload_n hx hb dX0_takeAllOut_38 rfl (lv_at hl 1 rfl) ?_
      refine va_get (D := D) (ci := 0) (v := .int (nI n)) (C := RX0) (T := TX0) (N := 11) hx hb hts hin hown hK hP 0 rfl rfl 0 (by decide) f66 (fun _ h9 => h9) rfl dX0_takeAllOut_39 ?_
      refine px_ge (tgt := 71) hx hb dX0_takeAllOut_42 (by decide) (by omega) (by omega) (fun h42 => ?_) (fun h42 => ?_)
      · exact px_ev (σ := (Nat → Int32) × (Nat → Int32) × (Nat → Int32)) (post := fun u => ∀ i, i < n → u.1 i = nI (pm_od J n k cst i)) (wf := fun u => w0 cI cJ cZ ad (nI n) (nI k) gv E G C Wi u.1 u.2.1 u.2.2 CF) hx hb hr hlk hS (P, B, N) (fun j hj => hO j (by omega)) hP dX0_takeAllOut_71
      · obtain ⟨ho1, ho2, ho3⟩ := pm_od_ok (J := J) (k := k) (cst := cst) h42
        refine lv_aload_n hx hb dX0_takeAllOut_45 rfl (lv_at hl 1 rfl) ?_
        refine va_get (D := D) (ci := 0) (v := .ref (ad 5)) (C := RX0) (T := TX0) (N := 11) hx hb hts hin hown hK hP 0 rfl rfl 7 (by decide) f23 (fun _ h9 => h9) rfl dX0_takeAllOut_46 ?_
        refine lv_iload_n hx hb dX0_takeAllOut_49 rfl (lv_at hl 0 rfl) ?_
        refine lv_aload_n hx hb dX0_takeAllOut_50 rfl (lv_at hl 1 rfl) ?_
        refine px_rd (ci := 0) (q := (RX0, TX0, 11)) (v := pm_o (pm_nx J n k cst (pm_in J n k cst i))) (rest := [.int (nI i), .ref (ad 5)]) S hP hK (tX0_nextOut J cst (pm_in J n k cst i) hn hk hB hN hC hc1) (cwV 0 hts gX0_takeAllOut_X0_nextOut rfl rfl rfl (by decide +kernel) ⟨by decide, by decide⟩) rfl rfl rfl hl.1 rfl (Nat.le_of_ble_eq_true rfl) dX0_takeAllOut_51 ⟨Nat.zero_le _, Nat.zero_le _⟩ ?_
        refine px_top (y := nI (pm_od J n k cst i)) (by rw [ho1]; rfl) ?_
        refine px_iast (n := 200) (i := i) (ws' := w0 cI cJ cZ ad (nI n) (nI k) gv E G C Wi (upd P i (nI (pm_od J n k cst i))) B N CF) hx hb hK hP hD hS 5 0 rfl rfl (by omega) (by decide) rfl dX0_takeAllOut_54 (fun H locs hP hD hS => ?_)
        refine lv_aload_n hx hb dX0_takeAllOut_55 rfl (lv_at hl 1 rfl) ?_
        refine lv_aload_n hx hb dX0_takeAllOut_56 rfl (lv_at hl 1 rfl) ?_
        refine va_get (D := D) (ci := 0) (v := .ref (ad 5)) (C := RX0) (T := TX0) (N := 11) hx hb hts hin hown hK hP 0 rfl rfl 7 (by decide) f23 (fun _ h9 => h9) rfl dX0_takeAllOut_57 ?_
        refine lv_iload_n hx hb dX0_takeAllOut_60 rfl (lv_at hl 0 rfl) ?_
        refine px_iald (n := 200) (i := i) hx hb hK hP 5 0 rfl rfl (by omega) (by decide) dX0_takeAllOut_61 ?_
        refine px_top (y := nI (pm_od J n k cst i)) (pk_us) ?_
        refine px_wv (ci := 0) (q := (RX0, TX0, 11)) (rest := []) S hP hK hD hS (tX0_takeOut J hJ hn (pm_od J n k cst i) ho2) (fun _ => w0_same) (cwV 1 hts gX0_takeAllOut_X0_takeOut rfl rfl rfl (by decide +kernel) ⟨by decide, by decide⟩) rfl rfl rfl hl.1 rfl (Nat.le_of_ble_eq_true rfl) dX0_takeAllOut_62 ⟨Nat.zero_le _, Nat.zero_le _⟩ (fun N2 H locs hN2 hP hD hS _ => ?_)
        have hP : va_P D vwCl (w0 cI cJ cZ ad (nI n) (nI k) gv E G C Wi (upd P i (nI (pm_od J n k cst i))) (upd B (pm_od J n k cst i) (px_b true)) N2 CF) H := hP
        have hD : va_D A (w0 cI cJ cZ ad (nI n) (nI k) gv E G C Wi (upd P i (nI (pm_od J n k cst i))) (upd B (pm_od J n k cst i) (px_b true)) N2 CF) := hD
        refine lv_iinc (v := nI (i + 1)) (lv' := [(1, .int (nI (i + 1))), (0, .ref (ad 0))]) hx hb dX0_takeAllOut_65 hl (k := 0) rfl (px_inc1 _) (by decide) rfl (fun ls hl => ?_)
        refine lv_goto (tgt := 37) hx hb dX0_takeAllOut_68 (by decide) ?_
        exact ih (i + 1) _ _ _ H locs (by omega) (by omega) (fun j hj => by
          by_cases z : j = i
          · rw [z, pk_us]
          · rw [pk_un z]; exact hO j (by omega)) (fun a ha => by
          rw [pm_in_s h42]
          by_cases z : a = pm_od J n k cst i
          · rw [z, pk_us]; simp
          · rw [pk_un z, hB a ha]; simp [z]) (fun a ha => by rw [pm_lf_s hsym h42, ← hN a ha]; exact hN2 a ha) hP hD hS ls (lv_sub hl [0, 1] rfl)
  have first : ∀ (f i : Nat) (B N : Nat → Int32) (H : Heap) (locs : List Loc), n + 1 ≤ i + f → i ≤ n → (∀ j, j < i → B j = px_b false ∧ N j = G j) → va_P D vwCl (w0 cI cJ cZ ad (nI n) (nI k) gv E G C Wi O B N CF) H → va_D A (w0 cI cJ cZ ad (nI n) (nI k) gv E G C Wi O B N CF) → va_S A s.heap H locs → ∀ ls : Array Slot, lv_has ls 2 [(1, .int (nI i)), (0, .ref (ad 0))] → W p l e (rmd 3) s m ([.ref (ad 0)] : List Value).toArray below meth c H locs 0 0 (MQ below (va_Qv (S := (Nat → Int32) × (Nat → Int32) × (Nat → Int32)) (fun u => ∀ i, i < n → u.1 i = nI (pm_od J n k cst i)) (fun u t => va_P D vwCl ((fun u => w0 cI cJ cZ ad (nI n) (nI k) gv E G C Wi u.1 u.2.1 u.2.2 CF) u) t.heap) A) ([.ref (ad 0)] : List Value).toArray s 0 0 A) (F0 m 2 ls []) := by
    intro f
    induction f with
    | zero => intro i B N H locs h1 h2; exact absurd h1 (by omega)
    | succ f ih =>
      intro i B N H locs h1 h2 hI hP hD hS ls hl
      refine lv_iload_n hx hb dX0_takeAllOut_2 rfl (lv_at hl 0 rfl) ?_
      refine lv_aload_n hx hb dX0_takeAllOut_3 rfl (lv_at hl 1 rfl) ?_
      refine va_get (D := D) (ci := 0) (v := .int (nI n)) (C := RX0) (T := TX0) (N := 11) hx hb hts hin hown hK hP 0 rfl rfl 0 (by decide) f66 (fun _ h9 => h9) rfl dX0_takeAllOut_4 ?_
      refine px_ge (tgt := 35) hx hb dX0_takeAllOut_7 (by decide) (by omega) (by omega) (fun h7 => ?_) (fun h7 => ?_)
      · refine lv_iconst (v := nI 0) hx hb dX0_takeAllOut_35 (by decide +kernel) ?_
        refine lv_istore_n (lv' := [(1, .int (nI 0)), (0, .ref (ad 0))]) hx hb dX0_takeAllOut_36 rfl hl (by decide) rfl (fun ls hl => ?_)
        obtain rfl : i = n := by omega
        exact second (i + 1) 0 O B N H locs (by omega) (by omega) (fun j hj => absurd hj (by omega)) (fun a ha => (hI a ha).1) (fun a ha => by rw [(hI a ha).2, hG a ha]; rfl) hP hD hS ls (lv_sub hl [0, 1] rfl)
      · refine lv_aload_n hx hb dX0_takeAllOut_10 rfl (lv_at hl 1 rfl) ?_
        refine va_get (D := D) (ci := 0) (v := .ref (ad 6)) (C := RX0) (T := TX0) (N := 11) hx hb hts hin hown hK hP 0 rfl rfl 8 (by decide) f26 (fun _ h9 => h9) rfl dX0_takeAllOut_11 ?_
        refine lv_iload_n hx hb dX0_takeAllOut_14 rfl (lv_at hl 0 rfl) ?_
        refine lv_iconst (v := px_b false) hx hb dX0_takeAllOut_15 (by decide +kernel) ?_
        refine px_zast (x := false) (n := 200) (i := i) (ws' := w0 cI cJ cZ ad (nI n) (nI k) gv E G C Wi O (upd B i (px_b false)) N CF) hx hb hK hP hD hS 6 2 rfl rfl (by omega) (by decide) rfl dX0_takeAllOut_16 (fun H locs hP hD hS => ?_)
        refine lv_aload_n hx hb dX0_takeAllOut_17 rfl (lv_at hl 1 rfl) ?_
        refine va_get (D := D) (ci := 0) (v := .ref (ad 7)) (C := RX0) (T := TX0) (N := 11) hx hb hts hin hown hK hP 0 rfl rfl 9 (by decide) f30 (fun _ h9 => h9) rfl dX0_takeAllOut_18 ?_
        refine lv_iload_n hx hb dX0_takeAllOut_21 rfl (lv_at hl 0 rfl) ?_
        refine lv_aload_n hx hb dX0_takeAllOut_22 rfl (lv_at hl 1 rfl) ?_
        refine va_get (D := D) (ci := 0) (v := .ref (ad 2)) (C := RX0) (T := TX0) (N := 11) hx hb hts hin hown hK hP 0 rfl rfl 4 (by decide) f13 (fun _ h9 => h9) rfl dX0_takeAllOut_23 ?_
        refine lv_iload_n hx hb dX0_takeAllOut_26 rfl (lv_at hl 0 rfl) ?_
        refine px_iald (n := 200) (i := i) hx hb hK hP 2 0 rfl rfl (by omega) (by decide) dX0_takeAllOut_27 ?_
        refine px_iast (n := 200) (i := i) (ws' := w0 cI cJ cZ ad (nI n) (nI k) gv E G C Wi O (upd B i (px_b false)) (upd N i (G i)) CF) hx hb hK hP hD hS 7 0 rfl rfl (by omega) (by decide) rfl dX0_takeAllOut_28 (fun H locs hP hD hS => ?_)
        refine lv_iinc (v := nI (i + 1)) (lv' := [(1, .int (nI (i + 1))), (0, .ref (ad 0))]) hx hb dX0_takeAllOut_29 hl (k := 0) rfl (px_inc1 _) (by decide) rfl (fun ls hl => ?_)
        refine lv_goto (tgt := 2) hx hb dX0_takeAllOut_32 (by decide) ?_
        exact ih (i + 1) _ _ H locs (by omega) (by omega) (fun j hj => by
          by_cases z : j = i
          · subst z; exact ⟨pk_us, pk_us⟩
          · rw [pk_un z, pk_un z]; exact hI j (by omega)) hP hD hS ls (lv_sub hl [0, 1] rfl)
  refine lv_iconst (v := nI 0) hx hb dX0_takeAllOut_0 (by decide +kernel) ?_
  refine lv_istore_n (lv' := [(1, .int (nI 0)), (0, .ref (ad 0))]) hx hb dX0_takeAllOut_1 rfl hl (by decide) rfl (fun ls hl => ?_)
  exact first (n + 1) 0 IO NI s.heap [] (by omega) (by omega) (fun j hj => absurd hj (by omega)) hP hD hS ls (lv_sub hl [0, 1] rfl)
set_option maxHeartbeats 4000000 in
set_option maxRecDepth 100000 in
theorem tX0_putAllBack {l : Launch} {D : va_G} {cI cJ cZ : ClassId} {ad : Nat → Nat} {n k : Nat} {gv : Int32} {E : Nat → Int64} {G C Wi O IO NI CF : Nat → Int32} (J : Nat → Nat → Bool) (hJ : ∀ a b, a < 200 → b < 200 → pm_ed E a b = J a b) (cst ws : Nat → Nat) (hn : n ≤ 200) (hk : k ≤ 30) (hwn : ∀ a, a < n → ws a < n) (hW : ∀ a, a < n → Wi a = if ws a = a then -1 else nI (ws a)) (hO : ∀ i, i < n → O i = nI (pm_od J n k cst i)) : WrV l yX0_putAllBack wsX0_putAllBack (rmd 4) D (tyq cI cJ cZ) [.ref (ad 0)] (w0 cI cJ cZ ad (nI n) (nI k) gv E G C Wi O IO NI CF) (S := Unit) (fun _ => True) (fun _ => w0 cI cJ cZ ad (nI n) (nI k) gv E G C Wi O IO NI (pm_cs J n k cst ws n)) := by
  refine px_met (cc := cX0_putAllBack) (maxL := 3) (ret := none) (lv := [(0, .ref (ad 0))]) (by decide +kernel) rfl (Nat.le_of_ble_eq_true rfl) rfl ?_
  intro p e s m below meth c ls S hr hlk hnm hv hl
  obtain ⟨hx, hb, hml, hown, hts⟩ := id S
  obtain ⟨hP, hK, hD⟩ := hv
  have hin : ∀ w ∈ wsX00, w ∈ wsX0_putAllBack := fun w h => List.mem_cons_of_mem _ (List.mem_append_right _ h)
  have f33 := hts (.fieldLink RX0 33 "PointColours" "colourOf" "[I") (by decide +kernel)
  have f66 := hts (.fieldLink RX0 66 "PointColours" "points" "I") (by decide +kernel)
  have f23 := hts (.fieldLink RX0 23 "PointColours" "order" "[I") (by decide +kernel)
  have hS : va_S (px_B (w0 cI cJ cZ ad (nI n) (nI k) gv E G C Wi O IO NI CF)) s.heap s.heap [] := va_S.rf
  generalize hA : px_B (w0 cI cJ cZ ad (nI n) (nI k) gv E G C Wi O IO NI CF) = A at hD hS ⊢
  have loop : ∀ (j : Nat), j ≤ n → ∀ (H : Heap) (locs : List Loc), va_P D vwCl (w0 cI cJ cZ ad (nI n) (nI k) gv E G C Wi O IO NI (pm_cs J n k cst ws (n - j))) H → va_D A (w0 cI cJ cZ ad (nI n) (nI k) gv E G C Wi O IO NI (pm_cs J n k cst ws (n - j))) → va_S A s.heap H locs → ∀ ls : Array Slot, lv_has ls 3 [(1, .int (nI j - 1)), (0, .ref (ad 0))] → W p l e (rmd 4) s m ([.ref (ad 0)] : List Value).toArray below meth c H locs 0 0 (MQ below (va_Qv (S := Unit) (fun _ => True) (fun u t => va_P D vwCl ((fun _ => w0 cI cJ cZ ad (nI n) (nI k) gv E G C Wi O IO NI (pm_cs J n k cst ws n)) u) t.heap) A) ([.ref (ad 0)] : List Value).toArray s 0 0 A) (F0 m 15 ls []) := by
    intro j
    induction j with
    | zero =>
      intro h1 H locs hP hD hS ls hl
      refine lv_iload_n hx hb dX0_putAllBack_15 rfl (lv_at hl 0 rfl) ?_
      refine lv_if_lt (tgt := 51) hx hb dX0_putAllBack_16 (by decide) (fun h16 => ?_) (fun h16 => ?_)
      rotate_left
      · exact absurd (by decide +kernel) h16
      exact px_ev (σ := Unit) (post := fun _ => True) (wf := fun _ => w0 cI cJ cZ ad (nI n) (nI k) gv E G C Wi O IO NI (pm_cs J n k cst ws n)) hx hb hr hlk hS () trivial hP dX0_putAllBack_51
    | succ i ih =>
      intro h1 H locs hP hD hS ls hl
      have hl : lv_has ls 3 [(1, .int (nI i)), (0, .ref (ad 0))] := by rw [nI_pred] at hl; exact hl
      obtain ⟨ho1, ho2, ho3⟩ := pm_od_ok (J := J) (k := k) (cst := cst) (show i < n by omega)
      refine lv_iload_n hx hb dX0_putAllBack_15 rfl (lv_at hl 0 rfl) ?_
      refine lv_if_lt (tgt := 51) hx hb dX0_putAllBack_16 (by decide) (fun h16 => ?_) (fun h16 => ?_)
      · exact absurd h16 (nI_pos (by omega))
      refine lv_aload_n hx hb dX0_putAllBack_19 rfl (lv_at hl 1 rfl) ?_
      refine va_get (D := D) (ci := 0) (v := .ref (ad 5)) (C := RX0) (T := TX0) (N := 11) hx hb hts hin hown hK hP 0 rfl rfl 7 (by decide) f23 (fun _ h9 => h9) rfl dX0_putAllBack_20 ?_
      refine lv_iload_n hx hb dX0_putAllBack_23 rfl (lv_at hl 0 rfl) ?_
      refine px_iald (n := 200) (i := i) hx hb hK hP 5 0 rfl rfl (by omega) (by decide) dX0_putAllBack_24 ?_
      refine px_top (y := nI (pm_od J n k cst i)) (hO i (by omega)) ?_
      refine lv_istore_n (lv' := [(2, .int (nI (pm_od J n k cst i))), (1, .int (nI i)), (0, .ref (ad 0))]) hx hb dX0_putAllBack_25 rfl hl (by decide) rfl (fun ls hl => ?_)
      refine lv_aload_n hx hb dX0_putAllBack_26 rfl (lv_at hl 2 rfl) ?_
      refine lv_iload_n hx hb dX0_putAllBack_27 rfl (lv_at hl 0 rfl) ?_
      refine px_rd (ci := 0) (q := (RX0, TX0, 11)) (v := px_b (pm_pt n (nI (pm_od J n k cst i)))) (rest := []) S hP hK (tX0_isPoint (by omega) (nI (pm_od J n k cst i))) (cwV 1 hts gX0_putAllBack_X0_isPoint rfl rfl rfl (by decide +kernel) ⟨by decide, by decide⟩) rfl rfl rfl hl.1 rfl (Nat.le_of_ble_eq_true rfl) dX0_putAllBack_28 ⟨Nat.zero_le _, Nat.zero_le _⟩ ?_
      refine px_eqb (tgt := 45) hx hb dX0_putAllBack_31 (by decide) (fun h31 => ?_) (fun h31 => ?_)
      · exact absurd h31 (by rw [pm_pt_nI (by omega)]; simp; omega)
      refine lv_aload_n hx hb dX0_putAllBack_34 rfl (lv_at hl 2 rfl) ?_
      refine va_get (D := D) (ci := 0) (v := .ref (ad 8)) (C := RX0) (T := TX0) (N := 11) hx hb hts hin hown hK hP 0 rfl rfl 10 (by decide) f33 (fun _ h9 => h9) rfl dX0_putAllBack_35 ?_
      refine lv_iload_n hx hb dX0_putAllBack_38 rfl (lv_at hl 0 rfl) ?_
      refine lv_aload_n hx hb dX0_putAllBack_39 rfl (lv_at hl 2 rfl) ?_
      refine lv_iload_n hx hb dX0_putAllBack_40 rfl (lv_at hl 0 rfl) ?_
      refine px_rd (ci := 0) (q := (RX0, TX0, 11)) (v := pm_ch J n k ws (pm_cs J n k cst ws (n - (i + 1))) (pm_od J n k cst i)) (rest := [.int (nI (pm_od J n k cst i)), .ref (ad 8)]) S hP hK (tX0_chooseColour J hJ ws hn hk (pm_od J n k cst i) ho2 (hwn _ ho2) (hW _ ho2) (fun b _ => pm_cs_ok J n k cst ws _ b)) (cwV 1 hts gX0_putAllBack_X0_chooseColour rfl rfl rfl (by decide +kernel) ⟨by decide, by decide⟩) rfl rfl rfl hl.1 rfl (Nat.le_of_ble_eq_true rfl) dX0_putAllBack_41 ⟨Nat.zero_le _, Nat.zero_le _⟩ ?_
      refine px_iast (n := 200) (i := (pm_od J n k cst i)) (ws' := w0 cI cJ cZ ad (nI n) (nI k) gv E G C Wi O IO NI (upd (pm_cs J n k cst ws (n - (i + 1))) (pm_od J n k cst i) (pm_ch J n k ws (pm_cs J n k cst ws (n - (i + 1))) (pm_od J n k cst i)))) hx hb hK hP hD hS 8 0 rfl rfl (by omega) (by decide) rfl dX0_putAllBack_44 (fun H locs hP hD hS => ?_)
      refine lv_iinc (v := nI i - 1) (lv' := [(1, .int (nI i - 1)), (2, .int (nI (pm_od J n k cst i))), (0, .ref (ad 0))]) hx hb dX0_putAllBack_45 hl (k := 1) rfl (px_dec _) (by decide) rfl (fun ls hl => ?_)
      refine lv_goto (tgt := 15) hx hb dX0_putAllBack_48 (by decide) ?_
      exact ih (by omega) H locs (by rw [pm_cs_s (by omega)]; exact hP) (px_Dm hD w0_same) hS ls (lv_sub hl [0, 2] rfl)
  refine lv_aload_n hx hb dX0_putAllBack_0 rfl (lv_at hl 0 rfl) ?_
  refine va_get (D := D) (ci := 0) (v := .ref (ad 8)) (C := RX0) (T := TX0) (N := 11) hx hb hts hin hown hK hP 0 rfl rfl 10 (by decide) f33 (fun _ h9 => h9) rfl dX0_putAllBack_1 ?_
  refine lv_iconst (v := -1) hx hb dX0_putAllBack_4 (by decide +kernel) ?_
  refine px_ws (ws' := w0 cI cJ cZ ad (nI n) (nI k) gv E G C Wi O IO NI (fun _ => -1)) (rest := []) S hP hK hD hS 8 rfl (tJ7_fillI (by decide)) (va_cwS 2 hts gX0_putAllBack_J7_fill_53178 rfl rfl rfl (by decide +kernel) ⟨by decide, by decide⟩) rfl hl.1 rfl (Nat.le_of_ble_eq_true rfl) dX0_putAllBack_5 ⟨Nat.zero_le _, Nat.zero_le _⟩ rfl (fun H locs hP hD hS => ?_)
  refine lv_aload_n hx hb dX0_putAllBack_8 rfl (lv_at hl 0 rfl) ?_
  refine va_get (D := D) (ci := 0) (v := .int (nI n)) (C := RX0) (T := TX0) (N := 11) hx hb hts hin hown hK hP 0 rfl rfl 0 (by decide) f66 (fun _ h9 => h9) rfl dX0_putAllBack_9 ?_
  refine lv_iconst (v := nI 1) hx hb dX0_putAllBack_12 (by decide +kernel) ?_
  refine lv_isub hx hb dX0_putAllBack_13 ?_
  refine lv_istore_n (lv' := [(1, .int ((nI n) - (nI 1))), (0, .ref (ad 0))]) hx hb dX0_putAllBack_14 rfl hl (by decide) rfl (fun ls hl => ?_)
  exact loop n (by omega) H locs (by rw [Nat.sub_self]; exact hP) (px_Dm hD w0_same) hS ls (lv_sub hl [0, 1] rfl)
set_option maxHeartbeats 4000000 in
set_option maxRecDepth 100000 in
theorem tX0_give {l : Launch} {D : va_G} {cI cJ cZ : ClassId} {ad : Nat → Nat} {n k : Nat} {gv : Int32} {E : Nat → Int64} {G C Wi O IO NI CF : Nat → Int32} (J : Nat → Nat → Bool) (hJ : ∀ a b, a < 200 → b < 200 → pm_ed E a b = J a b) (hsym : ∀ a b, J a b = J b a) (cst ws : Nat → Nat) (hn : n ≤ 200) (hk : k ≤ 30) (hG : ∀ a, a < n → G a = nI (pm_cn (J a) n)) (hC : ∀ a, a < 200 → C a = nI (cst a)) (hc1 : ∀ a, cst a ≤ 1000000) (hwn : ∀ a, a < n → ws a < n) (hW : ∀ a, a < n → Wi a = if ws a = a then -1 else nI (ws a)) : WrI l yX0_give wsX0_give (rmd 5) D (tyq cI cJ cZ) [.ref (ad 0)] (w0 cI cJ cZ ad (nI n) (nI k) gv E G C Wi O IO NI CF) (S := (Nat → Int32) × (Nat → Int32) × (Nat → Int32)) (fun r u => r = nI (pm_cn (fun q => decide (pm_cs J n k cst ws n q = -1)) n) ∧ ∀ i, i < n → u.1 i = nI (pm_od J n k cst i)) (fun u => w0 cI cJ cZ ad (nI n) (nI k) (px_b true) E G C Wi u.1 u.2.1 u.2.2 (pm_cs J n k cst ws n)) := by
  refine px_met (cc := cX0_give) (maxL := 1) (ret := (some .int)) (lv := [(0, .ref (ad 0))]) (by decide +kernel) rfl (Nat.le_of_ble_eq_true rfl) rfl ?_
  intro p e s m below meth c ls S hr hlk hnm hv hl
  obtain ⟨hx, hb, hml, hown, hts⟩ := id S
  obtain ⟨hP, hK, hD⟩ := hv
  have hin : ∀ w ∈ wsX00, w ∈ wsX0_give := fun w h => List.mem_cons_of_mem _ (List.mem_append_right _ h)
  have f51 := hts (.fieldLink RX0 51 "PointColours" "given" "Z") (by decide +kernel)
  have hS : va_S (px_B (w0 cI cJ cZ ad (nI n) (nI k) gv E G C Wi O IO NI CF)) s.heap s.heap [] := va_S.rf
  generalize hA : px_B (w0 cI cJ cZ ad (nI n) (nI k) gv E G C Wi O IO NI CF) = A at hD hS ⊢
  refine lv_aload_n hx hb dX0_give_0 rfl (lv_at hl 0 rfl) ?_
  refine px_wv (ci := 0) (q := (RX0, TX0, 11)) (rest := []) S hP hK hD hS (tX0_takeAllOut J hJ hsym cst hn hk hG hC hc1) (fun _ => w0_same) (cwV 0 hts gX0_give_X0_takeAllOut rfl rfl rfl (by decide +kernel) ⟨by decide, by decide⟩) rfl rfl rfl hl.1 rfl (Nat.le_of_ble_eq_true rfl) dX0_give_1 ⟨Nat.zero_le _, Nat.zero_le _⟩ (fun u H locs hO hP hD hS _ => ?_)
  have hP : va_P D vwCl (w0 cI cJ cZ ad (nI n) (nI k) gv E G C Wi u.1 u.2.1 u.2.2 CF) H := hP
  have hD : va_D A (w0 cI cJ cZ ad (nI n) (nI k) gv E G C Wi u.1 u.2.1 u.2.2 CF) := hD
  refine lv_aload_n hx hb dX0_give_4 rfl (lv_at hl 0 rfl) ?_
  refine px_wv (ci := 0) (q := (RX0, TX0, 11)) (rest := []) S hP hK hD hS (tX0_putAllBack J hJ cst ws hn hk hwn hW hO) (fun _ => w0_same) (cwV 0 hts gX0_give_X0_putAllBack rfl rfl rfl (by decide +kernel) ⟨by decide, by decide⟩) rfl rfl rfl hl.1 rfl (Nat.le_of_ble_eq_true rfl) dX0_give_5 ⟨Nat.zero_le _, Nat.zero_le _⟩ (fun _ H locs _ hP hD hS _ => ?_)
  have hP : va_P D vwCl (w0 cI cJ cZ ad (nI n) (nI k) gv E G C Wi u.1 u.2.1 u.2.2 (pm_cs J n k cst ws n)) H := hP
  have hD : va_D A (w0 cI cJ cZ ad (nI n) (nI k) gv E G C Wi u.1 u.2.1 u.2.2 (pm_cs J n k cst ws n)) := hD
  refine lv_aload_n hx hb dX0_give_8 rfl (lv_at hl 0 rfl) ?_
  refine lv_iconst (v := px_b true) hx hb dX0_give_9 (by decide +kernel) ?_
  refine px_put (ty := .boolean) (ws' := w0 cI cJ cZ ad (nI n) (nI k) (px_b true) E G C Wi u.1 u.2.1 u.2.2 (pm_cs J n k cst ws n)) hx hb hts hin tyX0 tyX0_ok nmX0 hown hK hP hD hS 0 rfl rfl 2 (by decide) f51 (fun _ h9 => h9) rfl (by decide +kernel) (px_b_nar _) (px_b_fit _) (Nat.le_of_ble_eq_true rfl) rfl dX0_give_10 (fun H locs hP hD hS => ?_)
  refine lv_aload_n hx hb dX0_give_13 rfl (lv_at hl 0 rfl) ?_
  refine px_rd (ci := 0) (q := (RX0, TX0, 11)) (v := nI (pm_cn (fun q => decide (pm_cs J n k cst ws n q = -1)) n)) (rest := []) S hP hK (tX0_countColourless hn) (cwV 0 hts gX0_give_X0_countColourless rfl rfl rfl (by decide +kernel) ⟨by decide, by decide⟩) rfl rfl rfl hl.1 rfl (Nat.le_of_ble_eq_true rfl) dX0_give_14 ⟨Nat.zero_le _, Nat.zero_le _⟩ ?_
  exact px_ei (σ := (Nat → Int32) × (Nat → Int32) × (Nat → Int32)) (post := fun r u => r = nI (pm_cn (fun q => decide (pm_cs J n k cst ws n q = -1)) n) ∧ ∀ i, i < n → u.1 i = nI (pm_od J n k cst i)) (wf := fun u => w0 cI cJ cZ ad (nI n) (nI k) (px_b true) E G C Wi u.1 u.2.1 u.2.2 (pm_cs J n k cst ws n)) hx hb hr hlk hS u ⟨rfl, hO⟩ hP dX0_give_17
