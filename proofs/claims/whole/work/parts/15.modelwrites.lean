set_option maxHeartbeats 4000000 in
set_option maxRecDepth 100000 in
theorem tX1_begin_no {l : Launch} {D : va_G} {cI cJ cZ : ClassId} {bd : Nat → Nat} {n k gv : Int32} {PA C Wi CO RW IN : Nat → Int32} {x y : Int32} (hno : pm_bg x y = false) : RdI l yX1_begin wsX1_begin (rmd 0) D (tyq cI cJ cZ) [.ref (bd 0), .int x, .int y] (w1 cI cZ bd n k gv PA C Wi CO RW IN) (px_b false) := by
  refine px_met (cc := cX1_begin) (maxL := 5) (ret := (some .boolean)) (lv := [(0, .ref (bd 0)), (1, .int x), (2, .int y)]) (by decide +kernel) rfl (Nat.le_of_ble_eq_true rfl) rfl ?_
  intro p e s m below meth c ls S hr hlk hnm hv hl
  obtain ⟨hx, hb, hml, hown, hts⟩ := id S
  obtain ⟨hP, hK⟩ := hv
  have hin : ∀ w ∈ wsX10, w ∈ wsX1_begin := fun w h => List.mem_cons_of_mem _ (List.mem_append_right _ h)
  have f34 := hts (.fieldLink RX1 34 "PointColoursModel" "n" "I") (by decide +kernel)
  have f38 := hts (.fieldLink RX1 38 "PointColoursModel" "k" "I") (by decide +kernel)
  have f41 := hts (.fieldLink RX1 41 "PointColoursModel" "given" "Z") (by decide +kernel)
  have f14 := hts (.fieldLink RX1 14 "PointColoursModel" "costs" "[I") (by decide +kernel)
  have f18 := hts (.fieldLink RX1 18 "PointColoursModel" "wishes" "[I") (by decide +kernel)
  have f10 := hts (.fieldLink RX1 10 "PointColoursModel" "pairs" "[Z") (by decide +kernel)
  refine lv_iload_n hx hb dX1_begin_0 rfl (lv_at hl 1 rfl) ?_
  refine lv_iconst (v := nI 1) hx hb dX1_begin_1 (by decide +kernel) ?_
  refine lv_icmp_lt (tgt := 23) hx hb dX1_begin_2 (by decide) (fun h2 => ?_) (fun h2 => ?_)
  · refine lv_iconst (v := px_b false) hx hb dX1_begin_23 (by decide +kernel) ?_
    exact px_rz hx hb hr hlk rfl dX1_begin_24
  · refine lv_iload_n hx hb dX1_begin_5 rfl (lv_at hl 1 rfl) ?_
    refine lv_sipush (v := nI 200) hx hb dX1_begin_6 (by decide +kernel) ?_
    refine lv_icmp_gt (tgt := 23) hx hb dX1_begin_9 (by decide) (fun h9 => ?_) (fun h9 => ?_)
    · refine lv_iconst (v := px_b false) hx hb dX1_begin_23 (by decide +kernel) ?_
      exact px_rz hx hb hr hlk rfl dX1_begin_24
    · refine lv_iload_n hx hb dX1_begin_12 rfl (lv_at hl 2 rfl) ?_
      refine lv_iconst (v := nI 1) hx hb dX1_begin_13 (by decide +kernel) ?_
      refine lv_icmp_lt (tgt := 23) hx hb dX1_begin_14 (by decide) (fun h14 => ?_) (fun h14 => ?_)
      · refine lv_iconst (v := px_b false) hx hb dX1_begin_23 (by decide +kernel) ?_
        exact px_rz hx hb hr hlk rfl dX1_begin_24
      · refine lv_iload_n hx hb dX1_begin_17 rfl (lv_at hl 2 rfl) ?_
        refine lv_bipush (v := nI 30) hx hb dX1_begin_18 (by decide +kernel) ?_
        refine lv_icmp_le (tgt := 25) hx hb dX1_begin_20 (by decide) (fun h20 => ?_) (fun h20 => ?_)
        · rw [pm_bg_t h2 h9 h14 h20] at hno
          cases hno
        · refine lv_iconst (v := px_b false) hx hb dX1_begin_23 (by decide +kernel) ?_
          exact px_rz hx hb hr hlk rfl dX1_begin_24
theorem px_w1 {D : va_G} {cI cZ : ClassId} {bd : Nat → Nat} {n k gv : Int32} {PA C Wi PA' C' Wi' CO RW IN : Nat → Int32} {H : Heap} (h1 : ∀ q, q < 40000 → PA q = PA' q) (h2 : ∀ q, q < 200 → C q = C' q) (h3 : ∀ q, q < 200 → Wi q = Wi' q) (hP : va_P D vwCl (w1 cI cZ bd n k gv PA C Wi CO RW IN) H) : va_P D vwCl (w1 cI cZ bd n k gv PA' C' Wi' CO RW IN) H := by
  intro j q hq
  match j, hq with
  | 0, hq => cases hq; exact hP 0 _ rfl
  | 1, hq =>
    cases hq
    have h : H[bd 1]? = some (vp_cell cZ (40000, .inl PA)) := hP 1 _ rfl
    show H[bd 1]? = some (vp_cell cZ (40000, .inl PA'))
    rw [h, px_cell h1]
  | 2, hq =>
    cases hq
    have h : H[bd 2]? = some (vp_cell cI (200, .inl C)) := hP 2 _ rfl
    show H[bd 2]? = some (vp_cell cI (200, .inl C'))
    rw [h, px_cell h2]
  | 3, hq =>
    cases hq
    have h : H[bd 3]? = some (vp_cell cI (200, .inl Wi)) := hP 3 _ rfl
    show H[bd 3]? = some (vp_cell cI (200, .inl Wi'))
    rw [h, px_cell h3]
  | 4, hq => cases hq; exact hP 4 _ rfl
  | 5, hq => cases hq; exact hP 5 _ rfl
  | 6, hq => cases hq; exact hP 6 _ rfl
  | j + 7, hq => simp at hq
set_option maxHeartbeats 4000000 in
set_option maxRecDepth 100000 in
theorem tX1_begin_ok {l : Launch} {D : va_G} {cI cJ cZ : ClassId} {bd : Nat → Nat} {n k gv : Int32} {PA C Wi CO RW IN : Nat → Int32} {i j : Nat} (g1 : 1 ≤ i) (g2 : i ≤ 200) (g3 : 1 ≤ j) (g4 : j ≤ 30) : WrI l yX1_begin wsX1_begin (rmd 0) D (tyq cI cJ cZ) [.ref (bd 0), .int (nI i), .int (nI j)] (w1 cI cZ bd n k gv PA C Wi CO RW IN) (S := Unit) (fun r _ => r = px_b true) (fun _ => w1 cI cZ bd (nI i) (nI j) (px_b false) (fun _ => px_b false) (fun _ => nI 0) (fun a => nI a) CO RW IN) := by
  refine px_met (cc := cX1_begin) (maxL := 5) (ret := (some .boolean)) (lv := [(0, .ref (bd 0)), (1, .int (nI i)), (2, .int (nI j))]) (by decide +kernel) rfl (Nat.le_of_ble_eq_true rfl) rfl ?_
  intro p e s m below meth c ls S hr hlk hnm hv hl
  obtain ⟨hx, hb, hml, hown, hts⟩ := id S
  obtain ⟨hP, hK, hD⟩ := hv
  have hin : ∀ w ∈ wsX10, w ∈ wsX1_begin := fun w h => List.mem_cons_of_mem _ (List.mem_append_right _ h)
  have f34 := hts (.fieldLink RX1 34 "PointColoursModel" "n" "I") (by decide +kernel)
  have f38 := hts (.fieldLink RX1 38 "PointColoursModel" "k" "I") (by decide +kernel)
  have f41 := hts (.fieldLink RX1 41 "PointColoursModel" "given" "Z") (by decide +kernel)
  have f14 := hts (.fieldLink RX1 14 "PointColoursModel" "costs" "[I") (by decide +kernel)
  have f18 := hts (.fieldLink RX1 18 "PointColoursModel" "wishes" "[I") (by decide +kernel)
  have f10 := hts (.fieldLink RX1 10 "PointColoursModel" "pairs" "[Z") (by decide +kernel)
  have hS : va_S (px_B (w1 cI cZ bd n k gv PA C Wi CO RW IN)) s.heap s.heap [] := va_S.rf
  generalize hA : px_B (w1 cI cZ bd n k gv PA C Wi CO RW IN) = A at hD hS ⊢
  have outer : ∀ (f a : Nat) (PA2 C2 Wi2 : Nat → Int32) (H : Heap) (locs : List Loc), 201 ≤ a + f → a ≤ 200 → (∀ q, q < a → C2 q = nI 0) → (∀ q, q < a → Wi2 q = nI q) → (∀ x, x < 200 * a → PA2 x = px_b false) → va_P D vwCl (w1 cI cZ bd (nI i) (nI j) (px_b false) PA2 C2 Wi2 CO RW IN) H → va_D A (w1 cI cZ bd (nI i) (nI j) (px_b false) PA2 C2 Wi2 CO RW IN) → va_S A s.heap H locs → ∀ ls : Array Slot, lv_has ls 5 [(3, .int (nI a)), (0, .ref (bd 0)), (1, .int (nI i)), (2, .int (nI j))] → W p l e (rmd 0) s m ([.ref (bd 0), .int (nI i), .int (nI j)] : List Value).toArray below meth c H locs 0 0 (MQ below (va_Qi (S := Unit) (fun r _ => r = px_b true) (fun u t => va_P D vwCl ((fun _ => w1 cI cZ bd (nI i) (nI j) (px_b false) (fun _ => px_b false) (fun _ => nI 0) (fun a => nI a) CO RW IN) u) t.heap) A) ([.ref (bd 0), .int (nI i), .int (nI j)] : List Value).toArray s 0 0 A) (F0 m 42 ls []) := by
    intro f
    induction f with
    | zero => intro a PA2 C2 Wi2 H locs h1 h2; exact absurd h1 (by omega)
    | succ f iho =>
      intro a PA2 C2 Wi2 H locs h1 h2 hc2 hw2 hp2 hP hD hS ls hl
      refine lv_iload_n hx hb dX1_begin_42 rfl (lv_at hl 0 rfl) ?_
      refine lv_sipush (v := nI 200) hx hb dX1_begin_43 (by decide +kernel) ?_
      refine px_ge (tgt := 100) hx hb dX1_begin_46 (by decide) (by omega) (by omega) (fun h46 => ?_) (fun h46 => ?_)
      · refine lv_iconst (v := px_b true) hx hb dX1_begin_100 (by decide +kernel) ?_
        refine px_ez (σ := Unit) (post := fun r _ => r = px_b true) (wf := fun _ => w1 cI cZ bd (nI i) (nI j) (px_b false) (fun _ => px_b false) (fun _ => nI 0) (fun a => nI a) CO RW IN) hx hb hr hlk hS () rfl ?_ dX1_begin_101
        refine px_w1 (fun q hq => hp2 q (by omega)) (fun q hq => hc2 q (by omega)) (fun q hq => hw2 q (by omega)) hP
      · refine lv_aload_n hx hb dX1_begin_49 rfl (lv_at hl 1 rfl) ?_
        refine va_get (D := D) (ci := 1) (v := .ref (bd 2)) (C := RX1) (T := TX1) (N := 9) hx hb hts hin hown hK hP 0 rfl rfl 1 (by decide) f14 (fun _ h9 => h9) rfl dX1_begin_50 ?_
        refine lv_iload_n hx hb dX1_begin_53 rfl (lv_at hl 0 rfl) ?_
        refine lv_iconst (v := nI 0) hx hb dX1_begin_54 (by decide +kernel) ?_
        refine px_iast (n := 200) (i := a) (ws' := w1 cI cZ bd (nI i) (nI j) (px_b false) PA2 (upd C2 a (nI 0)) Wi2 CO RW IN) hx hb hK hP hD hS 2 0 rfl rfl (by omega) (by decide) rfl dX1_begin_55 (fun H locs hP hD hS => ?_)
        refine lv_aload_n hx hb dX1_begin_56 rfl (lv_at hl 1 rfl) ?_
        refine va_get (D := D) (ci := 1) (v := .ref (bd 3)) (C := RX1) (T := TX1) (N := 9) hx hb hts hin hown hK hP 0 rfl rfl 2 (by decide) f18 (fun _ h9 => h9) rfl dX1_begin_57 ?_
        refine lv_iload_n hx hb dX1_begin_60 rfl (lv_at hl 0 rfl) ?_
        refine lv_iload_n hx hb dX1_begin_61 rfl (lv_at hl 0 rfl) ?_
        refine px_iast (n := 200) (i := a) (ws' := w1 cI cZ bd (nI i) (nI j) (px_b false) PA2 (upd C2 a (nI 0)) (upd Wi2 a (nI a)) CO RW IN) hx hb hK hP hD hS 3 0 rfl rfl (by omega) (by decide) rfl dX1_begin_62 (fun H locs hP hD hS => ?_)
        refine lv_iconst (v := nI 0) hx hb dX1_begin_63 (by decide +kernel) ?_
        refine lv_istore (lv' := [(4, .int (nI 0)), (3, .int (nI a)), (0, .ref (bd 0)), (1, .int (nI i)), (2, .int (nI j))]) hx hb dX1_begin_64 hl (by decide) rfl (fun ls hl => ?_)
        generalize hC3 : upd C2 a (nI 0) = C3 at hP hD
        generalize hW3 : upd Wi2 a (nI a) = Wi3 at hP hD
        have hc2 : ∀ q, q < a + 1 → C3 q = nI 0 := fun q hq => by
          rw [← hC3]
          by_cases z : q = a
          · rw [z, pk_us]
          · rw [pk_un z]; exact hc2 q (by omega)
        have hw2 : ∀ q, q < a + 1 → Wi3 q = nI q := fun q hq => by
          rw [← hW3]
          by_cases z : q = a
          · rw [z, pk_us]
          · rw [pk_un z]; exact hw2 q (by omega)
        have inner : ∀ (f b : Nat) (PA2 : Nat → Int32) (H : Heap) (locs : List Loc), 201 ≤ b + f → b ≤ 200 → (∀ x, x < 200 * a + b → PA2 x = px_b false) → va_P D vwCl (w1 cI cZ bd (nI i) (nI j) (px_b false) PA2 C3 Wi3 CO RW IN) H → va_D A (w1 cI cZ bd (nI i) (nI j) (px_b false) PA2 C3 Wi3 CO RW IN) → va_S A s.heap H locs → ∀ ls : Array Slot, lv_has ls 5 [(4, .int (nI b)), (3, .int (nI a)), (0, .ref (bd 0)), (1, .int (nI i)), (2, .int (nI j))] → W p l e (rmd 0) s m ([.ref (bd 0), .int (nI i), .int (nI j)] : List Value).toArray below meth c H locs 0 0 (MQ below (va_Qi (S := Unit) (fun r _ => r = px_b true) (fun u t => va_P D vwCl ((fun _ => w1 cI cZ bd (nI i) (nI j) (px_b false) (fun _ => px_b false) (fun _ => nI 0) (fun a => nI a) CO RW IN) u) t.heap) A) ([.ref (bd 0), .int (nI i), .int (nI j)] : List Value).toArray s 0 0 A) (F0 m 66 ls []) := by
          intro f
          induction f with
          | zero => intro b PA2 H locs h1 h2; exact absurd h1 (by omega)
          | succ f ihi =>
            intro b PA2 H locs h1 h2 hp2 hP hD hS ls hl
            refine lv_iload hx hb dX1_begin_66 (lv_at hl 0 rfl) ?_
            refine lv_sipush (v := nI 200) hx hb dX1_begin_68 (by decide +kernel) ?_
            refine px_ge (tgt := 94) hx hb dX1_begin_71 (by decide) (by omega) (by omega) (fun h71 => ?_) (fun h71 => ?_)
            · refine lv_iinc (v := nI (a + 1)) (lv' := [(3, .int (nI (a + 1))), (4, .int (nI b)), (0, .ref (bd 0)), (1, .int (nI i)), (2, .int (nI j))]) hx hb dX1_begin_94 hl (k := 1) rfl (px_inc1 _) (by decide) rfl (fun ls hl => ?_)
              refine lv_goto (tgt := 42) hx hb dX1_begin_97 (by decide) ?_
              exact iho (a + 1) _ _ _ H locs (by omega) (by omega) hc2 hw2 (fun x hx => hp2 x (by omega)) hP hD hS ls (lv_sub hl [0, 2, 3, 4] rfl)
            · refine lv_aload_n hx hb dX1_begin_74 rfl (lv_at hl 2 rfl) ?_
              refine va_get (D := D) (ci := 1) (v := .ref (bd 1)) (C := RX1) (T := TX1) (N := 9) hx hb hts hin hown hK hP 0 rfl rfl 0 (by decide) f10 (fun _ h9 => h9) rfl dX1_begin_75 ?_
              refine lv_sipush (v := nI 200) hx hb dX1_begin_78 (by decide +kernel) ?_
              refine lv_iload_n hx hb dX1_begin_81 rfl (lv_at hl 1 rfl) ?_
              refine px_mul hx hb dX1_begin_82 ?_
              refine lv_iload hx hb dX1_begin_83 (lv_at hl 0 rfl) ?_
              refine px_add hx hb dX1_begin_85 ?_
              refine lv_iconst (v := px_b false) hx hb dX1_begin_86 (by decide +kernel) ?_
              refine px_zast (x := false) (n := 40000) (i := ((200 * a) + b)) (ws' := w1 cI cZ bd (nI i) (nI j) (px_b false) (upd PA2 ((200 * a) + b) (px_b false)) C3 Wi3 CO RW IN) hx hb hK hP hD hS 1 2 rfl rfl (by omega) (by decide) rfl dX1_begin_87 (fun H locs hP hD hS => ?_)
              refine lv_iinc (v := nI (b + 1)) (lv' := [(4, .int (nI (b + 1))), (3, .int (nI a)), (0, .ref (bd 0)), (1, .int (nI i)), (2, .int (nI j))]) hx hb dX1_begin_88 hl (k := 0) rfl (px_inc1 _) (by decide) rfl (fun ls hl => ?_)
              refine lv_goto (tgt := 66) hx hb dX1_begin_91 (by decide) ?_
              exact ihi (b + 1) _ H locs (by omega) (by omega) (fun x hx => by
                by_cases z : x = 200 * a + b
                · rw [z, pk_us]
                · rw [pk_un z]; exact hp2 x (by omega)) hP hD hS ls (lv_sub hl [0, 1, 2, 3, 4] rfl)
        exact inner 201 0 PA2 H locs (by omega) (by omega) hp2 hP hD hS ls (lv_sub hl [0, 1, 2, 3, 4] rfl)
  refine lv_iload_n hx hb dX1_begin_0 rfl (lv_at hl 1 rfl) ?_
  refine lv_iconst (v := nI 1) hx hb dX1_begin_1 (by decide +kernel) ?_
  refine px_lt (tgt := 23) hx hb dX1_begin_2 (by decide) (by omega) (by omega) (fun h2 => ?_) (fun h2 => ?_)
  · exact absurd h2 (by omega)
  refine lv_iload_n hx hb dX1_begin_5 rfl (lv_at hl 1 rfl) ?_
  refine lv_sipush (v := nI 200) hx hb dX1_begin_6 (by decide +kernel) ?_
  refine px_gt (tgt := 23) hx hb dX1_begin_9 (by decide) (by omega) (by omega) (fun h9 => ?_) (fun h9 => ?_)
  · exact absurd h9 (by omega)
  refine lv_iload_n hx hb dX1_begin_12 rfl (lv_at hl 2 rfl) ?_
  refine lv_iconst (v := nI 1) hx hb dX1_begin_13 (by decide +kernel) ?_
  refine px_lt (tgt := 23) hx hb dX1_begin_14 (by decide) (by omega) (by omega) (fun h14 => ?_) (fun h14 => ?_)
  · exact absurd h14 (by omega)
  refine lv_iload_n hx hb dX1_begin_17 rfl (lv_at hl 2 rfl) ?_
  refine lv_bipush (v := nI 30) hx hb dX1_begin_18 (by decide +kernel) ?_
  refine px_le (tgt := 25) hx hb dX1_begin_20 (by decide) (by omega) (by omega) (fun h20 => ?_) (fun h20 => ?_)
  rotate_left
  · exact absurd h20 (by omega)
  refine lv_aload_n hx hb dX1_begin_25 rfl (lv_at hl 0 rfl) ?_
  refine lv_iload_n hx hb dX1_begin_26 rfl (lv_at hl 1 rfl) ?_
  refine px_put (ty := .int) (ws' := w1 cI cZ bd (nI i) k gv PA C Wi CO RW IN) hx hb hts hin tyX1 tyX1_ok nmX1 hown hK hP hD hS 0 rfl rfl 6 (by decide) f34 (fun _ h9 => h9) rfl (by decide +kernel) rfl rfl (Nat.le_of_ble_eq_true rfl) rfl dX1_begin_27 (fun H locs hP hD hS => ?_)
  refine lv_aload_n hx hb dX1_begin_30 rfl (lv_at hl 0 rfl) ?_
  refine lv_iload_n hx hb dX1_begin_31 rfl (lv_at hl 2 rfl) ?_
  refine px_put (ty := .int) (ws' := w1 cI cZ bd (nI i) (nI j) gv PA C Wi CO RW IN) hx hb hts hin tyX1 tyX1_ok nmX1 hown hK hP hD hS 0 rfl rfl 7 (by decide) f38 (fun _ h9 => h9) rfl (by decide +kernel) rfl rfl (Nat.le_of_ble_eq_true rfl) rfl dX1_begin_32 (fun H locs hP hD hS => ?_)
  refine lv_aload_n hx hb dX1_begin_35 rfl (lv_at hl 0 rfl) ?_
  refine lv_iconst (v := px_b false) hx hb dX1_begin_36 (by decide +kernel) ?_
  refine px_put (ty := .boolean) (ws' := w1 cI cZ bd (nI i) (nI j) (px_b false) PA C Wi CO RW IN) hx hb hts hin tyX1 tyX1_ok nmX1 hown hK hP hD hS 0 rfl rfl 8 (by decide) f41 (fun _ h9 => h9) rfl (by decide +kernel) (px_b_nar _) (px_b_fit _) (Nat.le_of_ble_eq_true rfl) rfl dX1_begin_37 (fun H locs hP hD hS => ?_)
  refine lv_iconst (v := nI 0) hx hb dX1_begin_40 (by decide +kernel) ?_
  refine lv_istore_n (lv' := [(3, .int (nI 0)), (0, .ref (bd 0)), (1, .int (nI i)), (2, .int (nI j))]) hx hb dX1_begin_41 rfl hl (by decide) rfl (fun ls hl => ?_)
  exact outer 201 0 PA C Wi H locs (by omega) (by omega) (fun q hq => absurd hq (by omega)) (fun q hq => absurd hq (by omega)) (fun q hq => absurd hq (by omega)) hP hD hS ls (lv_sub hl [0, 1, 2, 3] rfl)
set_option maxHeartbeats 4000000 in
set_option maxRecDepth 100000 in
theorem tX1_join_ok {l : Launch} {D : va_G} {cI cJ cZ : ClassId} {bd : Nat → Nat} {n k : Nat} {gv : Int32} {PA C Wi CO RW IN : Nat → Int32} (J : Nat → Nat → Bool) (hJ : ∀ a b, a < 200 → b < 200 → PA (200 * a + b) = px_b (J a b)) (hn : n ≤ 200) (a b : Nat) (ha : a < n) (hb2 : b < n) (hab : a ≠ b) (hnJ : J a b = false) : WrI l yX1_join wsX1_join (rmd 1) D (tyq cI cJ cZ) [.ref (bd 0), .int (nI a), .int (nI b)] (w1 cI cZ bd (nI n) (nI k) gv PA C Wi CO RW IN) (S := Unit) (fun r _ => r = px_b true) (fun _ => w1 cI cZ bd (nI n) (nI k) (px_b false) (upd (upd PA (200 * a + b) (px_b true)) (200 * b + a) (px_b true)) C Wi CO RW IN) := by
  refine px_met (cc := cX1_join) (maxL := 3) (ret := (some .boolean)) (lv := [(0, .ref (bd 0)), (1, .int (nI a)), (2, .int (nI b))]) (by decide +kernel) rfl (Nat.le_of_ble_eq_true rfl) rfl ?_
  intro p e s m below meth c ls S hr hlk hnm hv hl
  obtain ⟨hx, hb, hml, hown, hts⟩ := id S
  obtain ⟨hP, hK, hD⟩ := hv
  have hin : ∀ w ∈ wsX10, w ∈ wsX1_join := fun w h => List.mem_cons_of_mem _ (List.mem_append_right _ h)
  have f10 := hts (.fieldLink RX1 10 "PointColoursModel" "pairs" "[Z") (by decide +kernel)
  have f41 := hts (.fieldLink RX1 41 "PointColoursModel" "given" "Z") (by decide +kernel)
  have hS : va_S (px_B (w1 cI cZ bd (nI n) (nI k) gv PA C Wi CO RW IN)) s.heap s.heap [] := va_S.rf
  generalize hA : px_B (w1 cI cZ bd (nI n) (nI k) gv PA C Wi CO RW IN) = A at hD hS ⊢
  refine lv_aload_n hx hb dX1_join_0 rfl (lv_at hl 0 rfl) ?_
  refine lv_iload_n hx hb dX1_join_1 rfl (lv_at hl 1 rfl) ?_
  refine px_rd (ci := 1) (q := (RX1, TX1, 9)) (v := px_b (pm_pt n (nI a))) (rest := []) S hP hK (tX1_isPoint (by omega) (nI a)) (cwV 1 hts gX1_join_X1_isPoint rfl rfl rfl (by decide +kernel) ⟨by decide, by decide⟩) rfl rfl rfl hl.1 rfl (Nat.le_of_ble_eq_true rfl) dX1_join_2 ⟨Nat.zero_le _, Nat.zero_le _⟩ ?_
  refine px_eqb (tgt := 36) hx hb dX1_join_5 (by decide) (fun h5 => ?_) (fun h5 => ?_)
  · exact absurd h5 (by rw [pm_pt_nI (by omega)]; simp; omega)
  refine lv_aload_n hx hb dX1_join_8 rfl (lv_at hl 0 rfl) ?_
  refine lv_iload_n hx hb dX1_join_9 rfl (lv_at hl 2 rfl) ?_
  refine px_rd (ci := 1) (q := (RX1, TX1, 9)) (v := px_b (pm_pt n (nI b))) (rest := []) S hP hK (tX1_isPoint (by omega) (nI b)) (cwV 1 hts gX1_join_X1_isPoint rfl rfl rfl (by decide +kernel) ⟨by decide, by decide⟩) rfl rfl rfl hl.1 rfl (Nat.le_of_ble_eq_true rfl) dX1_join_10 ⟨Nat.zero_le _, Nat.zero_le _⟩ ?_
  refine px_eqb (tgt := 36) hx hb dX1_join_13 (by decide) (fun h13 => ?_) (fun h13 => ?_)
  · exact absurd h13 (by rw [pm_pt_nI (by omega)]; simp; omega)
  refine lv_iload_n hx hb dX1_join_16 rfl (lv_at hl 1 rfl) ?_
  refine lv_iload_n hx hb dX1_join_17 rfl (lv_at hl 2 rfl) ?_
  refine px_eq (tgt := 36) hx hb dX1_join_18 (by decide) (by omega) (by omega) (fun h18 => ?_) (fun h18 => ?_)
  · exact absurd h18 hab
  refine lv_aload_n hx hb dX1_join_21 rfl (lv_at hl 0 rfl) ?_
  refine va_get (D := D) (ci := 1) (v := .ref (bd 1)) (C := RX1) (T := TX1) (N := 9) hx hb hts hin hown hK hP 0 rfl rfl 0 (by decide) f10 (fun _ h9 => h9) rfl dX1_join_22 ?_
  refine lv_sipush (v := nI 200) hx hb dX1_join_25 (by decide +kernel) ?_
  refine lv_iload_n hx hb dX1_join_28 rfl (lv_at hl 1 rfl) ?_
  refine px_mul hx hb dX1_join_29 ?_
  refine lv_iload_n hx hb dX1_join_30 rfl (lv_at hl 2 rfl) ?_
  refine px_add hx hb dX1_join_31 ?_
  refine px_zald (n := 40000) (i := ((200 * a) + b)) hx hb hK hP 1 2 rfl rfl (by omega) (by decide) dX1_join_32 ?_
  refine px_top (y := px_b (J a b)) (hJ _ _ (by omega) (by omega)) ?_
  refine px_eqb (tgt := 38) hx hb dX1_join_33 (by decide) (fun h33 => ?_) (fun h33 => ?_)
  rotate_left
  · exact absurd h33 (by rw [hnJ]; decide)
  refine lv_aload_n hx hb dX1_join_38 rfl (lv_at hl 0 rfl) ?_
  refine va_get (D := D) (ci := 1) (v := .ref (bd 1)) (C := RX1) (T := TX1) (N := 9) hx hb hts hin hown hK hP 0 rfl rfl 0 (by decide) f10 (fun _ h9 => h9) rfl dX1_join_39 ?_
  refine lv_sipush (v := nI 200) hx hb dX1_join_42 (by decide +kernel) ?_
  refine lv_iload_n hx hb dX1_join_45 rfl (lv_at hl 1 rfl) ?_
  refine px_mul hx hb dX1_join_46 ?_
  refine lv_iload_n hx hb dX1_join_47 rfl (lv_at hl 2 rfl) ?_
  refine px_add hx hb dX1_join_48 ?_
  refine lv_iconst (v := px_b true) hx hb dX1_join_49 (by decide +kernel) ?_
  refine px_zast (x := true) (n := 40000) (i := ((200 * a) + b)) (ws' := w1 cI cZ bd (nI n) (nI k) gv (upd PA ((200 * a) + b) (px_b true)) C Wi CO RW IN) hx hb hK hP hD hS 1 2 rfl rfl (by omega) (by decide) rfl dX1_join_50 (fun H locs hP hD hS => ?_)
  refine lv_aload_n hx hb dX1_join_51 rfl (lv_at hl 0 rfl) ?_
  refine va_get (D := D) (ci := 1) (v := .ref (bd 1)) (C := RX1) (T := TX1) (N := 9) hx hb hts hin hown hK hP 0 rfl rfl 0 (by decide) f10 (fun _ h9 => h9) rfl dX1_join_52 ?_
  refine lv_sipush (v := nI 200) hx hb dX1_join_55 (by decide +kernel) ?_
  refine lv_iload_n hx hb dX1_join_58 rfl (lv_at hl 2 rfl) ?_
  refine px_mul hx hb dX1_join_59 ?_
  refine lv_iload_n hx hb dX1_join_60 rfl (lv_at hl 1 rfl) ?_
  refine px_add hx hb dX1_join_61 ?_
  refine lv_iconst (v := px_b true) hx hb dX1_join_62 (by decide +kernel) ?_
  refine px_zast (x := true) (n := 40000) (i := ((200 * b) + a)) (ws' := w1 cI cZ bd (nI n) (nI k) gv (upd (upd PA ((200 * a) + b) (px_b true)) ((200 * b) + a) (px_b true)) C Wi CO RW IN) hx hb hK hP hD hS 1 2 rfl rfl (by omega) (by decide) rfl dX1_join_63 (fun H locs hP hD hS => ?_)
  refine lv_aload_n hx hb dX1_join_64 rfl (lv_at hl 0 rfl) ?_
  refine lv_iconst (v := px_b false) hx hb dX1_join_65 (by decide +kernel) ?_
  refine px_put (ty := .boolean) (ws' := w1 cI cZ bd (nI n) (nI k) (px_b false) (upd (upd PA ((200 * a) + b) (px_b true)) ((200 * b) + a) (px_b true)) C Wi CO RW IN) hx hb hts hin tyX1 tyX1_ok nmX1 hown hK hP hD hS 0 rfl rfl 8 (by decide) f41 (fun _ h9 => h9) rfl (by decide +kernel) (px_b_nar _) (px_b_fit _) (Nat.le_of_ble_eq_true rfl) rfl dX1_join_66 (fun H locs hP hD hS => ?_)
  refine lv_iconst (v := px_b true) hx hb dX1_join_69 (by decide +kernel) ?_
  exact px_ez (post := fun r (_ : Unit) => r = px_b true) (wf := fun _ : Unit => w1 cI cZ bd (nI n) (nI k) (px_b false) (upd (upd PA (200 * a + b) (px_b true)) (200 * b + a) (px_b true)) C Wi CO RW IN) hx hb hr hlk hS () rfl hP dX1_join_70
set_option maxHeartbeats 4000000 in
set_option maxRecDepth 100000 in
theorem tX1_join_no {l : Launch} {D : va_G} {cI cJ cZ : ClassId} {bd : Nat → Nat} {n k : Nat} {gv : Int32} {PA C Wi CO RW IN : Nat → Int32} (J : Nat → Nat → Bool) (hJ : ∀ a b, a < 200 → b < 200 → PA (200 * a + b) = px_b (J a b)) (hn : n ≤ 200) {a b : Int32} (hno : pm_jn n J a b = false) : RdI l yX1_join wsX1_join (rmd 1) D (tyq cI cJ cZ) [.ref (bd 0), .int a, .int b] (w1 cI cZ bd (nI n) (nI k) gv PA C Wi CO RW IN) (px_b false) := by
  refine px_met (cc := cX1_join) (maxL := 3) (ret := (some .boolean)) (lv := [(0, .ref (bd 0)), (1, .int a), (2, .int b)]) (by decide +kernel) rfl (Nat.le_of_ble_eq_true rfl) rfl ?_
  intro p e s m below meth c ls S hr hlk hnm hv hl
  obtain ⟨hx, hb, hml, hown, hts⟩ := id S
  obtain ⟨hP, hK⟩ := hv
  have hin : ∀ w ∈ wsX10, w ∈ wsX1_join := fun w h => List.mem_cons_of_mem _ (List.mem_append_right _ h)
  have f10 := hts (.fieldLink RX1 10 "PointColoursModel" "pairs" "[Z") (by decide +kernel)
  have f41 := hts (.fieldLink RX1 41 "PointColoursModel" "given" "Z") (by decide +kernel)
  refine lv_aload_n hx hb dX1_join_0 rfl (lv_at hl 0 rfl) ?_
  refine lv_iload_n hx hb dX1_join_1 rfl (lv_at hl 1 rfl) ?_
  refine px_rd (ci := 1) (q := (RX1, TX1, 9)) (v := px_b (pm_pt n a)) (rest := []) S hP hK (tX1_isPoint (by omega) a) (cwV 1 hts gX1_join_X1_isPoint rfl rfl rfl (by decide +kernel) ⟨by decide, by decide⟩) rfl rfl rfl hl.1 rfl (Nat.le_of_ble_eq_true rfl) dX1_join_2 ⟨Nat.zero_le _, Nat.zero_le _⟩ ?_
  refine px_eqb (tgt := 36) hx hb dX1_join_5 (by decide) (fun h5 => ?_) (fun h5 => ?_)
  · refine lv_iconst (v := px_b false) hx hb dX1_join_36 (by decide +kernel) ?_
    exact px_rz hx hb hr hlk rfl dX1_join_37
  · refine lv_aload_n hx hb dX1_join_8 rfl (lv_at hl 0 rfl) ?_
    refine lv_iload_n hx hb dX1_join_9 rfl (lv_at hl 2 rfl) ?_
    refine px_rd (ci := 1) (q := (RX1, TX1, 9)) (v := px_b (pm_pt n b)) (rest := []) S hP hK (tX1_isPoint (by omega) b) (cwV 1 hts gX1_join_X1_isPoint rfl rfl rfl (by decide +kernel) ⟨by decide, by decide⟩) rfl rfl rfl hl.1 rfl (Nat.le_of_ble_eq_true rfl) dX1_join_10 ⟨Nat.zero_le _, Nat.zero_le _⟩ ?_
    refine px_eqb (tgt := 36) hx hb dX1_join_13 (by decide) (fun h13 => ?_) (fun h13 => ?_)
    · refine lv_iconst (v := px_b false) hx hb dX1_join_36 (by decide +kernel) ?_
      exact px_rz hx hb hr hlk rfl dX1_join_37
    · obtain ⟨i, hi, rfl⟩ := pm_pt_of (by omega) h5
      obtain ⟨j, hj, rfl⟩ := pm_pt_of (by omega) h13
      refine lv_iload_n hx hb dX1_join_16 rfl (lv_at hl 1 rfl) ?_
      refine lv_iload_n hx hb dX1_join_17 rfl (lv_at hl 2 rfl) ?_
      refine px_eq (tgt := 36) hx hb dX1_join_18 (by decide) (by omega) (by omega) (fun h18 => ?_) (fun h18 => ?_)
      · refine lv_iconst (v := px_b false) hx hb dX1_join_36 (by decide +kernel) ?_
        exact px_rz hx hb hr hlk rfl dX1_join_37
      · refine lv_aload_n hx hb dX1_join_21 rfl (lv_at hl 0 rfl) ?_
        refine va_get (D := D) (ci := 1) (v := .ref (bd 1)) (C := RX1) (T := TX1) (N := 9) hx hb hts hin hown hK hP 0 rfl rfl 0 (by decide) f10 (fun _ h9 => h9) rfl dX1_join_22 ?_
        refine lv_sipush (v := nI 200) hx hb dX1_join_25 (by decide +kernel) ?_
        refine lv_iload_n hx hb dX1_join_28 rfl (lv_at hl 1 rfl) ?_
        refine px_mul hx hb dX1_join_29 ?_
        refine lv_iload_n hx hb dX1_join_30 rfl (lv_at hl 2 rfl) ?_
        refine px_add hx hb dX1_join_31 ?_
        refine px_zald (n := 40000) (i := ((200 * i) + j)) hx hb hK hP 1 2 rfl rfl (by omega) (by decide) dX1_join_32 ?_
        refine px_top (y := px_b (J i j)) (hJ _ _ (by omega) (by omega)) ?_
        refine px_eqb (tgt := 38) hx hb dX1_join_33 (by decide) (fun h33 => ?_) (fun h33 => ?_)
        · exact absurd hno (by simp [pm_jn, pm_pt_nI (show i < 2 ^ 31 by omega), pm_pt_nI (show j < 2 ^ 31 by omega), hi, hj, nI_eq (show i < 2 ^ 31 by omega) (show j < 2 ^ 31 by omega), h18, nI_clamp (show i < 2 ^ 31 by omega), nI_clamp (show j < 2 ^ 31 by omega), h33])
        · refine lv_iconst (v := px_b false) hx hb dX1_join_36 (by decide +kernel) ?_
          exact px_rz hx hb hr hlk rfl dX1_join_37
set_option maxHeartbeats 4000000 in
set_option maxRecDepth 100000 in
theorem tX1_give {l : Launch} {D : va_G} {cI cJ cZ : ClassId} {bd : Nat → Nat} {n k : Nat} {gv : Int32} {PA C Wi CO RW IN : Nat → Int32} (J : Nat → Nat → Bool) (hJ : ∀ a b, a < 200 → b < 200 → PA (200 * a + b) = px_b (J a b)) (cst ws : Nat → Nat) (hn : n ≤ 200) (hk : k ≤ 30) (hC : ∀ a, a < 200 → C a = nI (cst a)) (hc1 : ∀ a, cst a ≤ 1000000) (hwn : ∀ a, a < n → ws a < n) (hW : ∀ a, a < n → Wi a = nI (ws a)) : WrI l yX1_give wsX1_give (rmd 2) D (tyq cI cJ cZ) [.ref (bd 0)] (w1 cI cZ bd (nI n) (nI k) gv PA C Wi CO RW IN) (S := (Nat → Int32) × (Nat → Int32) × (Nat → Int32)) (fun r u => r = nI (pm_nn J n k cst ws n) ∧ (∀ a, a < n → u.1 a = pm_cs J n k cst ws n a) ∧ ∀ i, i < n → u.2.1 i = nI (pm_od J n k cst i)) (fun u => w1 cI cZ bd (nI n) (nI k) (px_b true) PA C Wi u.1 u.2.1 u.2.2) := by
  refine px_met (cc := cX1_give) (maxL := 3) (ret := (some .int)) (lv := [(0, .ref (bd 0))]) (by decide +kernel) rfl (Nat.le_of_ble_eq_true rfl) rfl ?_
  intro p e s m below meth c ls S hr hlk hnm hv hl
  obtain ⟨hx, hb, hml, hown, hts⟩ := id S
  obtain ⟨hP, hK, hD⟩ := hv
  have hin : ∀ w ∈ wsX10, w ∈ wsX1_give := fun w h => List.mem_cons_of_mem _ (List.mem_append_right _ h)
  have f34 := hts (.fieldLink RX1 34 "PointColoursModel" "n" "I") (by decide +kernel)
  have f27 := hts (.fieldLink RX1 27 "PointColoursModel" "in" "[Z") (by decide +kernel)
  have f21 := hts (.fieldLink RX1 21 "PointColoursModel" "colours" "[I") (by decide +kernel)
  have f24 := hts (.fieldLink RX1 24 "PointColoursModel" "row" "[I") (by decide +kernel)
  have f41 := hts (.fieldLink RX1 41 "PointColoursModel" "given" "Z") (by decide +kernel)
  have hS : va_S (px_B (w1 cI cZ bd (nI n) (nI k) gv PA C Wi CO RW IN)) s.heap s.heap [] := va_S.rf
  generalize hA : px_B (w1 cI cZ bd (nI n) (nI k) gv PA C Wi CO RW IN) = A at hD hS ⊢
  have third : ∀ (P B : Nat → Int32), (∀ i, i < n → P i = nI (pm_od J n k cst i)) → ∀ (j : Nat), j ≤ n → ∀ (K : Nat → Int32) (H : Heap) (locs : List Loc), (∀ a, a < n → K a = pm_cs J n k cst ws (n - j) a) → va_P D vwCl (w1 cI cZ bd (nI n) (nI k) gv PA C Wi K P B) H → va_D A (w1 cI cZ bd (nI n) (nI k) gv PA C Wi K P B) → va_S A s.heap H locs → ∀ ls : Array Slot, lv_has ls 3 [(1, .int (nI (pm_nn J n k cst ws (n - j)))), (2, .int (nI j - 1)), (0, .ref (bd 0))] → W p l e (rmd 2) s m ([.ref (bd 0)] : List Value).toArray below meth c H locs 0 0 (MQ below (va_Qi (S := (Nat → Int32) × (Nat → Int32) × (Nat → Int32)) (fun r u => r = nI (pm_nn J n k cst ws n) ∧ (∀ a, a < n → u.1 a = pm_cs J n k cst ws n a) ∧ ∀ i, i < n → u.2.1 i = nI (pm_od J n k cst i)) (fun u t => va_P D vwCl ((fun u => w1 cI cZ bd (nI n) (nI k) (px_b true) PA C Wi u.1 u.2.1 u.2.2) u) t.heap) A) ([.ref (bd 0)] : List Value).toArray s 0 0 A) (F0 m 77 ls []) := by
    intro P B hO j
    induction j with
    | zero =>
      intro h1 K H locs hKc hP hD hS ls hl
      refine lv_iload_n hx hb dX1_give_77 rfl (lv_at hl 1 rfl) ?_
      refine lv_if_lt (tgt := 125) hx hb dX1_give_78 (by decide) (fun h78 => ?_) (fun h78 => ?_)
      rotate_left
      · exact absurd (by decide +kernel) h78
      refine lv_aload_n hx hb dX1_give_125 rfl (lv_at hl 2 rfl) ?_
      refine lv_iconst (v := px_b true) hx hb dX1_give_126 (by decide +kernel) ?_
      refine px_put (ty := .boolean) (ws' := w1 cI cZ bd (nI n) (nI k) (px_b true) PA C Wi K P B) hx hb hts hin tyX1 tyX1_ok nmX1 hown hK hP hD hS 0 rfl rfl 8 (by decide) f41 (fun _ h9 => h9) rfl (by decide +kernel) (px_b_nar _) (px_b_fit _) (Nat.le_of_ble_eq_true rfl) rfl dX1_give_127 (fun H locs hP hD hS => ?_)
      refine lv_iload_n hx hb dX1_give_130 rfl (lv_at hl 0 rfl) ?_
      exact px_ei (σ := (Nat → Int32) × (Nat → Int32) × (Nat → Int32)) (post := fun r u => r = nI (pm_nn J n k cst ws n) ∧ (∀ a, a < n → u.1 a = pm_cs J n k cst ws n a) ∧ ∀ i, i < n → u.2.1 i = nI (pm_od J n k cst i)) (wf := fun u => w1 cI cZ bd (nI n) (nI k) (px_b true) PA C Wi u.1 u.2.1 u.2.2) hx hb hr hlk hS (K, P, B) ⟨rfl, fun a ha => hKc a ha, hO⟩ hP dX1_give_131
    | succ i ih =>
      intro h1 K H locs hKc hP hD hS ls hl
      have hl : lv_has ls 3 [(1, .int (nI (pm_nn J n k cst ws (n - (i + 1))))), (2, .int (nI i)), (0, .ref (bd 0))] := by rw [nI_pred] at hl; exact hl
      obtain ⟨ho1, ho2, ho3⟩ := pm_od_ok (J := J) (k := k) (cst := cst) (show i < n by omega)
      refine lv_iload_n hx hb dX1_give_77 rfl (lv_at hl 1 rfl) ?_
      refine lv_if_lt (tgt := 125) hx hb dX1_give_78 (by decide) (fun h78 => ?_) (fun h78 => ?_)
      · exact absurd h78 (nI_pos (by omega))
      refine lv_aload_n hx hb dX1_give_81 rfl (lv_at hl 2 rfl) ?_
      refine va_get (D := D) (ci := 1) (v := .ref (bd 4)) (C := RX1) (T := TX1) (N := 9) hx hb hts hin hown hK hP 0 rfl rfl 3 (by decide) f21 (fun _ h9 => h9) rfl dX1_give_82 ?_
      refine lv_aload_n hx hb dX1_give_85 rfl (lv_at hl 2 rfl) ?_
      refine va_get (D := D) (ci := 1) (v := .ref (bd 5)) (C := RX1) (T := TX1) (N := 9) hx hb hts hin hown hK hP 0 rfl rfl 4 (by decide) f24 (fun _ h9 => h9) rfl dX1_give_86 ?_
      refine lv_iload_n hx hb dX1_give_89 rfl (lv_at hl 1 rfl) ?_
      refine px_iald (n := 200) (i := i) hx hb hK hP 5 0 rfl rfl (by omega) (by decide) dX1_give_90 ?_
      refine px_top (y := nI (pm_od J n k cst i)) (hO i (by omega)) ?_
      refine lv_aload_n hx hb dX1_give_91 rfl (lv_at hl 2 rfl) ?_
      refine lv_aload_n hx hb dX1_give_92 rfl (lv_at hl 2 rfl) ?_
      refine va_get (D := D) (ci := 1) (v := .ref (bd 5)) (C := RX1) (T := TX1) (N := 9) hx hb hts hin hown hK hP 0 rfl rfl 4 (by decide) f24 (fun _ h9 => h9) rfl dX1_give_93 ?_
      refine lv_iload_n hx hb dX1_give_96 rfl (lv_at hl 1 rfl) ?_
      refine px_iald (n := 200) (i := i) hx hb hK hP 5 0 rfl rfl (by omega) (by decide) dX1_give_97 ?_
      refine px_top (y := nI (pm_od J n k cst i)) (hO i (by omega)) ?_
      refine px_rd (ci := 1) (q := (RX1, TX1, 9)) (v := pm_ch J n k ws K (pm_od J n k cst i)) (rest := [.int (nI (pm_od J n k cst i)), .ref (bd 4)]) S hP hK (tX1_colourFor J hJ ws hn hk (pm_od J n k cst i) ho2 (hwn _ ho2) (hW _ ho2)) (cwV 1 hts gX1_give_X1_colourFor rfl rfl rfl (by decide +kernel) ⟨by decide, by decide⟩) rfl rfl rfl hl.1 rfl (Nat.le_of_ble_eq_true rfl) dX1_give_98 ⟨Nat.zero_le _, Nat.zero_le _⟩ ?_
      refine px_top (y := pm_ch J n k ws (pm_cs J n k cst ws (n - (i + 1))) (pm_od J n k cst i)) (pm_ch_congr (hwn _ ho2) hKc) ?_
      refine px_iast (n := 200) (i := (pm_od J n k cst i)) (ws' := w1 cI cZ bd (nI n) (nI k) gv PA C Wi (upd K (pm_od J n k cst i) (pm_ch J n k ws (pm_cs J n k cst ws (n - (i + 1))) (pm_od J n k cst i))) P B) hx hb hK hP hD hS 4 0 rfl rfl (by omega) (by decide) rfl dX1_give_101 (fun H locs hP hD hS => ?_)
      refine lv_aload_n hx hb dX1_give_102 rfl (lv_at hl 2 rfl) ?_
      refine va_get (D := D) (ci := 1) (v := .ref (bd 4)) (C := RX1) (T := TX1) (N := 9) hx hb hts hin hown hK hP 0 rfl rfl 3 (by decide) f21 (fun _ h9 => h9) rfl dX1_give_103 ?_
      refine lv_aload_n hx hb dX1_give_106 rfl (lv_at hl 2 rfl) ?_
      refine va_get (D := D) (ci := 1) (v := .ref (bd 5)) (C := RX1) (T := TX1) (N := 9) hx hb hts hin hown hK hP 0 rfl rfl 4 (by decide) f24 (fun _ h9 => h9) rfl dX1_give_107 ?_
      refine lv_iload_n hx hb dX1_give_110 rfl (lv_at hl 1 rfl) ?_
      refine px_iald (n := 200) (i := i) hx hb hK hP 5 0 rfl rfl (by omega) (by decide) dX1_give_111 ?_
      refine px_top (y := nI (pm_od J n k cst i)) (hO i (by omega)) ?_
      refine px_iald (n := 200) (i := (pm_od J n k cst i)) hx hb hK hP 4 0 rfl rfl (by omega) (by decide) dX1_give_112 ?_
      refine px_top (y := pm_ch J n k ws (pm_cs J n k cst ws (n - (i + 1))) (pm_od J n k cst i)) (pk_us) ?_
      refine lv_if_ge (tgt := 119) hx hb dX1_give_113 (by decide) (fun h113 => ?_) (fun h113 => ?_)
      · have h113 := Int32.not_lt.mpr h113
        refine lv_iinc (v := nI i - 1) (lv' := [(2, .int (nI i - 1)), (1, .int (nI (pm_nn J n k cst ws (n - (i + 1))))), (0, .ref (bd 0))]) hx hb dX1_give_119 hl (k := 1) rfl (px_dec _) (by decide) rfl (fun ls hl => ?_)
        refine lv_goto (tgt := 77) hx hb dX1_give_122 (by decide) ?_
        exact ih (by omega) _ H locs (fun a ha => by
          rw [pm_cs_s (i := i) (by omega)]
          by_cases z : a = pm_od J n k cst i
          · rw [z, pk_us, pk_us]
          · rw [pk_un z, pk_un z]; exact hKc a ha) hP hD hS ls (by rw [pm_nn_s (i := i) (by omega), if_neg h113]; exact lv_sub hl [1, 0, 2] rfl)
      · have h113 := Int32.not_le.mp h113
        refine lv_iinc (v := nI (pm_nn J n k cst ws (n - (i + 1)) + 1)) (lv' := [(1, .int (nI (pm_nn J n k cst ws (n - (i + 1)) + 1))), (2, .int (nI i)), (0, .ref (bd 0))]) hx hb dX1_give_116 hl (k := 0) rfl (px_inc1 _) (by decide) rfl (fun ls hl => ?_)
        refine lv_iinc (v := nI i - 1) (lv' := [(2, .int (nI i - 1)), (1, .int (nI (pm_nn J n k cst ws (n - (i + 1)) + 1))), (0, .ref (bd 0))]) hx hb dX1_give_119 hl (k := 1) rfl (px_dec _) (by decide) rfl (fun ls hl => ?_)
        refine lv_goto (tgt := 77) hx hb dX1_give_122 (by decide) ?_
        exact ih (by omega) _ H locs (fun a ha => by
          rw [pm_cs_s (i := i) (by omega)]
          by_cases z : a = pm_od J n k cst i
          · rw [z, pk_us, pk_us]
          · rw [pk_un z, pk_un z]; exact hKc a ha) hP hD hS ls (by rw [pm_nn_s (i := i) (by omega), if_pos h113]; exact lv_sub hl [1, 0, 2] rfl)
  have second : ∀ (K : Nat → Int32), (∀ a, a < n → K a = -1) → ∀ (f i : Nat) (P B : Nat → Int32) (H : Heap) (locs : List Loc), n + 1 ≤ i + f → i ≤ n → (∀ j, j < i → P j = nI (pm_od J n k cst j)) → (∀ a, a < n → B a = px_b (pm_in J n k cst i a)) → va_P D vwCl (w1 cI cZ bd (nI n) (nI k) gv PA C Wi K P B) H → va_D A (w1 cI cZ bd (nI n) (nI k) gv PA C Wi K P B) → va_S A s.heap H locs → ∀ ls : Array Slot, lv_has ls 3 [(1, .int (nI i)), (0, .ref (bd 0))] → W p l e (rmd 2) s m ([.ref (bd 0)] : List Value).toArray below meth c H locs 0 0 (MQ below (va_Qi (S := (Nat → Int32) × (Nat → Int32) × (Nat → Int32)) (fun r u => r = nI (pm_nn J n k cst ws n) ∧ (∀ a, a < n → u.1 a = pm_cs J n k cst ws n a) ∧ ∀ i, i < n → u.2.1 i = nI (pm_od J n k cst i)) (fun u t => va_P D vwCl ((fun u => w1 cI cZ bd (nI n) (nI k) (px_b true) PA C Wi u.1 u.2.1 u.2.2) u) t.heap) A) ([.ref (bd 0)] : List Value).toArray s 0 0 A) (F0 m 32 ls []) := by
    intro K hKm f
    induction f with
    | zero => intro i P B H locs h1 h2; exact absurd h1 (by omega)
    | succ f ih =>
      intro i P B H locs h1 h2 hO hB hP hD hS ls hl
      refine lv_iload_n hx hb dX1_give_32 rfl (lv_at hl 0 rfl) ?_
      refine lv_aload_n hx hb dX1_give_33 rfl (lv_at hl 1 rfl) ?_
      refine va_get (D := D) (ci := 1) (v := .int (nI n)) (C := RX1) (T := TX1) (N := 9) hx hb hts hin hown hK hP 0 rfl rfl 6 (by decide) f34 (fun _ h9 => h9) rfl dX1_give_34 ?_
      refine px_ge (tgt := 68) hx hb dX1_give_37 (by decide) (by omega) (by omega) (fun h37 => ?_) (fun h37 => ?_)
      · refine lv_iconst (v := nI 0) hx hb dX1_give_68 (by decide +kernel) ?_
        refine lv_istore_n (lv' := [(1, .int (nI 0)), (0, .ref (bd 0))]) hx hb dX1_give_69 rfl hl (by decide) rfl (fun ls hl => ?_)
        refine lv_aload_n hx hb dX1_give_70 rfl (lv_at hl 1 rfl) ?_
        refine va_get (D := D) (ci := 1) (v := .int (nI n)) (C := RX1) (T := TX1) (N := 9) hx hb hts hin hown hK hP 0 rfl rfl 6 (by decide) f34 (fun _ h9 => h9) rfl dX1_give_71 ?_
        refine lv_iconst (v := nI 1) hx hb dX1_give_74 (by decide +kernel) ?_
        refine lv_isub hx hb dX1_give_75 ?_
        refine lv_istore_n (lv' := [(2, .int ((nI n) - (nI 1))), (1, .int (nI 0)), (0, .ref (bd 0))]) hx hb dX1_give_76 rfl hl (by decide) rfl (fun ls hl => ?_)
        exact third P B (fun j hj => hO j (by omega)) n (by omega) K H locs (fun a ha => by rw [Nat.sub_self]; exact hKm a ha) hP hD hS ls (by rw [Nat.sub_self]; exact lv_sub hl [1, 0, 2] rfl)
      · obtain ⟨ho1, ho2, ho3⟩ := pm_od_ok (J := J) (k := k) (cst := cst) h37
        refine lv_aload_n hx hb dX1_give_40 rfl (lv_at hl 1 rfl) ?_
        refine va_get (D := D) (ci := 1) (v := .ref (bd 5)) (C := RX1) (T := TX1) (N := 9) hx hb hts hin hown hK hP 0 rfl rfl 4 (by decide) f24 (fun _ h9 => h9) rfl dX1_give_41 ?_
        refine lv_iload_n hx hb dX1_give_44 rfl (lv_at hl 0 rfl) ?_
        refine lv_aload_n hx hb dX1_give_45 rfl (lv_at hl 1 rfl) ?_
        refine px_rd (ci := 1) (q := (RX1, TX1, 9)) (v := pm_o (pm_nx J n k cst (pm_in J n k cst i))) (rest := [.int (nI i), .ref (bd 5)]) S hP hK (tX1_next J hJ cst (pm_in J n k cst i) hn hB hk hC hc1) (cwV 0 hts gX1_give_X1_next rfl rfl rfl (by decide +kernel) ⟨by decide, by decide⟩) rfl rfl rfl hl.1 rfl (Nat.le_of_ble_eq_true rfl) dX1_give_46 ⟨Nat.zero_le _, Nat.zero_le _⟩ ?_
        refine px_top (y := nI (pm_od J n k cst i)) (by rw [ho1]; rfl) ?_
        refine px_iast (n := 200) (i := i) (ws' := w1 cI cZ bd (nI n) (nI k) gv PA C Wi K (upd P i (nI (pm_od J n k cst i))) B) hx hb hK hP hD hS 5 0 rfl rfl (by omega) (by decide) rfl dX1_give_49 (fun H locs hP hD hS => ?_)
        refine lv_aload_n hx hb dX1_give_50 rfl (lv_at hl 1 rfl) ?_
        refine va_get (D := D) (ci := 1) (v := .ref (bd 6)) (C := RX1) (T := TX1) (N := 9) hx hb hts hin hown hK hP 0 rfl rfl 5 (by decide) f27 (fun _ h9 => h9) rfl dX1_give_51 ?_
        refine lv_aload_n hx hb dX1_give_54 rfl (lv_at hl 1 rfl) ?_
        refine va_get (D := D) (ci := 1) (v := .ref (bd 5)) (C := RX1) (T := TX1) (N := 9) hx hb hts hin hown hK hP 0 rfl rfl 4 (by decide) f24 (fun _ h9 => h9) rfl dX1_give_55 ?_
        refine lv_iload_n hx hb dX1_give_58 rfl (lv_at hl 0 rfl) ?_
        refine px_iald (n := 200) (i := i) hx hb hK hP 5 0 rfl rfl (by omega) (by decide) dX1_give_59 ?_
        refine px_top (y := nI (pm_od J n k cst i)) (pk_us) ?_
        refine lv_iconst (v := px_b false) hx hb dX1_give_60 (by decide +kernel) ?_
        refine px_zast (x := false) (n := 200) (i := (pm_od J n k cst i)) (ws' := w1 cI cZ bd (nI n) (nI k) gv PA C Wi K (upd P i (nI (pm_od J n k cst i))) (upd B (pm_od J n k cst i) (px_b false))) hx hb hK hP hD hS 6 2 rfl rfl (by omega) (by decide) rfl dX1_give_61 (fun H locs hP hD hS => ?_)
        refine lv_iinc (v := nI (i + 1)) (lv' := [(1, .int (nI (i + 1))), (0, .ref (bd 0))]) hx hb dX1_give_62 hl (k := 0) rfl (px_inc1 _) (by decide) rfl (fun ls hl => ?_)
        refine lv_goto (tgt := 32) hx hb dX1_give_65 (by decide) ?_
        exact ih (i + 1) _ _ H locs (by omega) (by omega) (fun j hj => by
          by_cases z : j = i
          · rw [z, pk_us]
          · rw [pk_un z]; exact hO j (by omega)) (fun a ha => by
          rw [pm_in_s h37]
          by_cases z : a = pm_od J n k cst i
          · rw [z, pk_us]; simp
          · rw [pk_un z, hB a ha]; simp [z]) hP hD hS ls (lv_sub hl [0, 1] rfl)
  have first : ∀ (f i : Nat) (K B : Nat → Int32) (H : Heap) (locs : List Loc), n + 1 ≤ i + f → i ≤ n → (∀ j, j < i → B j = px_b true ∧ K j = -1) → va_P D vwCl (w1 cI cZ bd (nI n) (nI k) gv PA C Wi K RW B) H → va_D A (w1 cI cZ bd (nI n) (nI k) gv PA C Wi K RW B) → va_S A s.heap H locs → ∀ ls : Array Slot, lv_has ls 3 [(1, .int (nI i)), (0, .ref (bd 0))] → W p l e (rmd 2) s m ([.ref (bd 0)] : List Value).toArray below meth c H locs 0 0 (MQ below (va_Qi (S := (Nat → Int32) × (Nat → Int32) × (Nat → Int32)) (fun r u => r = nI (pm_nn J n k cst ws n) ∧ (∀ a, a < n → u.1 a = pm_cs J n k cst ws n a) ∧ ∀ i, i < n → u.2.1 i = nI (pm_od J n k cst i)) (fun u t => va_P D vwCl ((fun u => w1 cI cZ bd (nI n) (nI k) (px_b true) PA C Wi u.1 u.2.1 u.2.2) u) t.heap) A) ([.ref (bd 0)] : List Value).toArray s 0 0 A) (F0 m 2 ls []) := by
    intro f
    induction f with
    | zero => intro i K B H locs h1 h2; exact absurd h1 (by omega)
    | succ f ih =>
      intro i K B H locs h1 h2 hI hP hD hS ls hl
      refine lv_iload_n hx hb dX1_give_2 rfl (lv_at hl 0 rfl) ?_
      refine lv_aload_n hx hb dX1_give_3 rfl (lv_at hl 1 rfl) ?_
      refine va_get (D := D) (ci := 1) (v := .int (nI n)) (C := RX1) (T := TX1) (N := 9) hx hb hts hin hown hK hP 0 rfl rfl 6 (by decide) f34 (fun _ h9 => h9) rfl dX1_give_4 ?_
      refine px_ge (tgt := 30) hx hb dX1_give_7 (by decide) (by omega) (by omega) (fun h7 => ?_) (fun h7 => ?_)
      · refine lv_iconst (v := nI 0) hx hb dX1_give_30 (by decide +kernel) ?_
        refine lv_istore_n (lv' := [(1, .int (nI 0)), (0, .ref (bd 0))]) hx hb dX1_give_31 rfl hl (by decide) rfl (fun ls hl => ?_)
        exact second K (fun a ha => (hI a (by omega)).2) (n + 1) 0 RW B H locs (by omega) (by omega) (fun j hj => absurd hj (by omega)) (fun a ha => (hI a (by omega)).1) hP hD hS ls (lv_sub hl [0, 1] rfl)
      · refine lv_aload_n hx hb dX1_give_10 rfl (lv_at hl 1 rfl) ?_
        refine va_get (D := D) (ci := 1) (v := .ref (bd 6)) (C := RX1) (T := TX1) (N := 9) hx hb hts hin hown hK hP 0 rfl rfl 5 (by decide) f27 (fun _ h9 => h9) rfl dX1_give_11 ?_
        refine lv_iload_n hx hb dX1_give_14 rfl (lv_at hl 0 rfl) ?_
        refine lv_iconst (v := px_b true) hx hb dX1_give_15 (by decide +kernel) ?_
        refine px_zast (x := true) (n := 200) (i := i) (ws' := w1 cI cZ bd (nI n) (nI k) gv PA C Wi K RW (upd B i (px_b true))) hx hb hK hP hD hS 6 2 rfl rfl (by omega) (by decide) rfl dX1_give_16 (fun H locs hP hD hS => ?_)
        refine lv_aload_n hx hb dX1_give_17 rfl (lv_at hl 1 rfl) ?_
        refine va_get (D := D) (ci := 1) (v := .ref (bd 4)) (C := RX1) (T := TX1) (N := 9) hx hb hts hin hown hK hP 0 rfl rfl 3 (by decide) f21 (fun _ h9 => h9) rfl dX1_give_18 ?_
        refine lv_iload_n hx hb dX1_give_21 rfl (lv_at hl 0 rfl) ?_
        refine lv_iconst (v := -1) hx hb dX1_give_22 (by decide +kernel) ?_
        refine px_iast (n := 200) (i := i) (ws' := w1 cI cZ bd (nI n) (nI k) gv PA C Wi (upd K i (-1)) RW (upd B i (px_b true))) hx hb hK hP hD hS 4 0 rfl rfl (by omega) (by decide) rfl dX1_give_23 (fun H locs hP hD hS => ?_)
        refine lv_iinc (v := nI (i + 1)) (lv' := [(1, .int (nI (i + 1))), (0, .ref (bd 0))]) hx hb dX1_give_24 hl (k := 0) rfl (px_inc1 _) (by decide) rfl (fun ls hl => ?_)
        refine lv_goto (tgt := 2) hx hb dX1_give_27 (by decide) ?_
        exact ih (i + 1) _ _ H locs (by omega) (by omega) (fun j hj => by
          by_cases z : j = i
          · subst z; exact ⟨pk_us, pk_us⟩
          · rw [pk_un z, pk_un z]; exact hI j (by omega)) hP hD hS ls (lv_sub hl [0, 1] rfl)
  refine lv_iconst (v := nI 0) hx hb dX1_give_0 (by decide +kernel) ?_
  refine lv_istore_n (lv' := [(1, .int (nI 0)), (0, .ref (bd 0))]) hx hb dX1_give_1 rfl hl (by decide) rfl (fun ls hl => ?_)
  exact first (n + 1) 0 CO IN s.heap [] (by omega) (by omega) (fun j hj => absurd hj (by omega)) hP hD hS ls (lv_sub hl [0, 1] rfl)
