section PN
variable {p : Program} {l : Launch} {e : Env} {R : Room} {s : State} {m : MethodId} {args : Array Value} {below : List Frame} {meth : Method} {c : Code} {H : Heap} {locs : List Loc} {cells slots : Nat} {Q : State → Prop}
variable {cc : ByteArray} {pc : Nat} {ls : Array Slot} {rest : List Value} {D : va_G} {cl : List vw_C} {A : Nat → Prop} {tys : List (ClassId × FieldType)} {ws : va_W} {H0 : Heap}
theorem px_newa (hx : p.tables.exec = Jvm.exec) (hb : c.code = cc) {atype : ArrayType} (harr : (Cond.arrayClass (newarray.typeOf atype)).before args s = true) {ty : FieldType} (hty : newarray.typeOf atype = ty) {cA : ClassId} (t0 : Nat) (ht : tys[t0]? = some (cA, ty)) (hu : ∀ x y : ClassId, va_RA s x ty → va_RA s y ty → x = y) (hK : va_K D cl tys s) (hP : va_P D cl ws H) (hD : va_D A ws) (hS : va_S A H0 H locs) (hA : ∀ q, H0.size ≤ q → A q)
    {n : Int32} {N' : Nat} {a0 : vp_A} (ha : ∀ cA : ClassId, vp_cell cA a0 = arrV cA N' (fun _ => defaultValue ty)) (hn : ¬ n < 0) (hN : n.toNatClampNeg = N') (hbytes : N' * componentBytes ty ≤ 536870912) (hcells : cells + 1 ≤ R.cells) (hslots : slots + N' ≤ R.slots) (hdg : decode cc pc = .ok (.newarray atype, 2))
    (kk : ∀ (q : Nat) (H1 : Heap), va_P D cl (ws ++ [(q, .inl (cA, a0))]) H1 → va_D A (ws ++ [(q, .inl (cA, a0))]) → va_S A H0 H1 locs →
      W p l e R s m args below meth c H1 locs (cells + 1) (slots + N') Q (F0 m (pc + 2) ls (.ref q :: rest))) : W p l e R s m args below meth c H locs cells slots Q (F0 m pc ls (.int n :: rest)) := by
  refine va_newa hx hb harr hty hK hP hD hS hA ha hn hN hbytes hcells hslots hdg (fun q cB H1 hK1 hP1 hD1 hS1 => ?_)
  have h1 : (tys ++ [(cB, ty)])[tys.length]? = some (cB, ty) := by simp
  obtain rfl : cB = cA := hu _ _ (hK1.2 _ _ h1).2 (hK.2 _ _ ht).2
  exact kk q H1 hP1 hD1 hS1
end PN
theorem px_uI {s : State} (x y : ClassId) (h1 : va_RA s x .int) (h2 : va_RA s y .int) : x = y := Option.some.inj ((va_nm_int h1).symm.trans (va_nm_int h2))
theorem px_uJ {s : State} (x y : ClassId) (h1 : va_RA s x .long) (h2 : va_RA s y .long) : x = y := Option.some.inj ((va_nm_long h1).symm.trans (va_nm_long h2))
theorem px_uZ {s : State} (x y : ClassId) (h1 : va_RA s x .boolean) (h2 : va_RA s y .boolean) : x = y := Option.some.inj ((va_nm_boolean h1).symm.trans (va_nm_boolean h2))
set_option maxHeartbeats 4000000 in
set_option maxRecDepth 100000 in
theorem tX0_init (l : Launch) (D : va_G) (cI cJ cZ : ClassId) (h0 sz : Nat) : Met l yX0_init wsX0_init { frames := 2, cells := 8, slots := 2200, locals := 60 } (va_Pc [.ref h0] (fun U => U.heap.size = sz ∧ va_P D vwCl [(h0, .inr (0, [.int 0, .int 0, .int 0, .null, .null, .null, .null, .null, .null, .null, .null]))] U.heap ∧ va_K D vwCl (tyq cI cJ cZ) U ∧ va_D (fun _ => True) [(h0, .inr (0, [.int 0, .int 0, .int 0, .null, .null, .null, .null, .null, .null, .null, .null]))])) (va_Qv (fun ad : Nat → Nat => ad 0 = h0) (fun ad t => va_P D vwCl (w0 cI cJ cZ ad (nI 1) (nI 1) (px_b false) (fun _ => 0) (fun _ => nI 0) (fun _ => nI 0) (fun _ => -1) (fun _ => 0) (fun _ => 0) (fun _ => 0) (fun _ => 0)) t.heap ∧ va_D (va_A [(h0, .inr (0, [.int 0, .int 0, .int 0, .null, .null, .null, .null, .null, .null, .null, .null]))] sz) (w0 cI cJ cZ ad (nI 1) (nI 1) (px_b false) (fun _ => 0) (fun _ => nI 0) (fun _ => nI 0) (fun _ => -1) (fun _ => 0) (fun _ => 0) (fun _ => 0) (fun _ => 0))) (va_A [(h0, .inr (0, [.int 0, .int 0, .int 0, .null, .null, .null, .null, .null, .null, .null, .null]))] sz)) 8 2200 (va_A [(h0, .inr (0, [.int 0, .int 0, .int 0, .null, .null, .null, .null, .null, .null, .null, .null]))] sz) := by
  refine px_met (cc := cX0_init) (maxL := 1) (ret := none) (lv := [(0, .ref h0)]) (by decide +kernel) rfl (Nat.le_of_ble_eq_true rfl) rfl ?_
  intro p e s m below meth c ls S hr hlk hnm hv hl
  obtain ⟨hx, hb, hml, hown, hts⟩ := id S
  obtain ⟨hsz, hP, hK, hD0⟩ := hv
  have hin : ∀ w ∈ wsX00, w ∈ wsX0_init := fun w h => List.mem_cons_of_mem _ (List.mem_append_right _ h)
  have f9 := hts (.fieldLink RX0 9 "PointColours" "edges" "[J") (by decide +kernel)
  have f13 := hts (.fieldLink RX0 13 "PointColours" "degrees" "[I") (by decide +kernel)
  have f17 := hts (.fieldLink RX0 17 "PointColours" "costs" "[I") (by decide +kernel)
  have f20 := hts (.fieldLink RX0 20 "PointColours" "wishes" "[I") (by decide +kernel)
  have f23 := hts (.fieldLink RX0 23 "PointColours" "order" "[I") (by decide +kernel)
  have f26 := hts (.fieldLink RX0 26 "PointColours" "isOut" "[Z") (by decide +kernel)
  have f30 := hts (.fieldLink RX0 30 "PointColours" "neighboursIn" "[I") (by decide +kernel)
  have f33 := hts (.fieldLink RX0 33 "PointColours" "colourOf" "[I") (by decide +kernel)
  subst hsz
  have hD := hD0.self (sz := s.heap.size)
  generalize hAe : va_A [(h0, .inr (0, [.int 0, .int 0, .int 0, .null, .null, .null, .null, .null, .null, .null, .null]))] s.heap.size = A at hD ⊢
  have hA : ∀ q : Nat, s.heap.size ≤ q → A q := fun q h => by rw [← hAe]; exact Or.inr h
  have hS : va_S A s.heap s.heap [] := va_S.rf
  refine lv_aload_n hx hb dX0_init_0 rfl (lv_at hl 0 rfl) ?_
  refine W.objInit hx hb hown (hts (.methodLink RX0 3 objectInit) (by decide +kernel)) (hts (.instanceMethod objectInit) (by decide +kernel)) (hts _ (List.mem_cons_of_mem _ (List.mem_append_left _ (List.mem_append_left _ (List.mem_of_getElem? (i := 2) rfl))))) rfl (by rw [hml]; exact hl.1) rfl dX0_init_1 (Nat.le_of_ble_eq_true rfl) (Nat.le_of_ble_eq_true rfl) ?_
  refine W.eq (g2 := F0 m 4 ls []) rfl ?_
  refine lv_aload_n hx hb dX0_init_4 rfl (lv_at hl 0 rfl) ?_
  refine lv_sipush (v := 800) hx hb dX0_init_5 (by decide +kernel) ?_
  refine px_newa (atype := .long) (ty := .long) (a0 := (800, .inr (.inl (fun _ => 0)))) (N' := 800) hx hb (hts (.arrayClass .long) (by decide +kernel)) rfl 1 rfl px_uJ hK hP hD hS hA (fun _ => rfl) (by decide +kernel) (by decide +kernel) (by decide +kernel) (Nat.le_of_ble_eq_true rfl) (Nat.le_of_ble_eq_true rfl) dX0_init_8 (fun q1 H hP hD hS => ?_)
  have hP : va_P D vwCl [(h0, .inr (0, [.int 0, .int 0, .int 0, .null, .null, .null, .null, .null, .null, .null, .null])), (q1, .inl (cJ, 800, .inr (.inl (fun _ => 0))))] H := hP
  have hD : va_D A [(h0, .inr (0, [.int 0, .int 0, .int 0, .null, .null, .null, .null, .null, .null, .null, .null])), (q1, .inl (cJ, 800, .inr (.inl (fun _ => 0))))] := hD
  refine va_putF (D := D) (ci := 0) (v := .ref q1) (ty := .array .long) (C := RX0) (T := TX0) (N := 11) hx hb hts hin tyX0 tyX0_ok nmX0 hown hK hP hD hS 0 rfl rfl 3 (by decide) f9 (fun _ h9 => h9) rfl hnm rfl (by decide +kernel) rfl rfl (Nat.le_of_ble_eq_true rfl) dX0_init_10 (fun H locs hP hD hS => ?_)
  have hP : va_P D vwCl [(h0, .inr (0, [.int 0, .int 0, .int 0, .ref q1, .null, .null, .null, .null, .null, .null, .null])), (q1, .inl (cJ, 800, .inr (.inl (fun _ => 0))))] H := hP
  have hD : va_D A [(h0, .inr (0, [.int 0, .int 0, .int 0, .ref q1, .null, .null, .null, .null, .null, .null, .null])), (q1, .inl (cJ, 800, .inr (.inl (fun _ => 0))))] := hD
  refine lv_aload_n hx hb dX0_init_13 rfl (lv_at hl 0 rfl) ?_
  refine lv_sipush (v := 200) hx hb dX0_init_14 (by decide +kernel) ?_
  refine px_newa (atype := .int) (ty := .int) (a0 := (200, .inl (fun _ => 0))) (N' := 200) hx hb (hts (.arrayClass .int) (by decide +kernel)) rfl 0 rfl px_uI hK hP hD hS hA (fun _ => rfl) (by decide +kernel) (by decide +kernel) (by decide +kernel) (Nat.le_of_ble_eq_true rfl) (Nat.le_of_ble_eq_true rfl) dX0_init_17 (fun q2 H hP hD hS => ?_)
  have hP : va_P D vwCl [(h0, .inr (0, [.int 0, .int 0, .int 0, .ref q1, .null, .null, .null, .null, .null, .null, .null])), (q1, .inl (cJ, 800, .inr (.inl (fun _ => 0)))), (q2, .inl (cI, 200, .inl (fun _ => 0)))] H := hP
  have hD : va_D A [(h0, .inr (0, [.int 0, .int 0, .int 0, .ref q1, .null, .null, .null, .null, .null, .null, .null])), (q1, .inl (cJ, 800, .inr (.inl (fun _ => 0)))), (q2, .inl (cI, 200, .inl (fun _ => 0)))] := hD
  refine va_putF (D := D) (ci := 0) (v := .ref q2) (ty := .array .int) (C := RX0) (T := TX0) (N := 11) hx hb hts hin tyX0 tyX0_ok nmX0 hown hK hP hD hS 0 rfl rfl 4 (by decide) f13 (fun _ h9 => h9) rfl hnm rfl (by decide +kernel) rfl rfl (Nat.le_of_ble_eq_true rfl) dX0_init_19 (fun H locs hP hD hS => ?_)
  have hP : va_P D vwCl [(h0, .inr (0, [.int 0, .int 0, .int 0, .ref q1, .ref q2, .null, .null, .null, .null, .null, .null])), (q1, .inl (cJ, 800, .inr (.inl (fun _ => 0)))), (q2, .inl (cI, 200, .inl (fun _ => 0)))] H := hP
  have hD : va_D A [(h0, .inr (0, [.int 0, .int 0, .int 0, .ref q1, .ref q2, .null, .null, .null, .null, .null, .null])), (q1, .inl (cJ, 800, .inr (.inl (fun _ => 0)))), (q2, .inl (cI, 200, .inl (fun _ => 0)))] := hD
  refine lv_aload_n hx hb dX0_init_22 rfl (lv_at hl 0 rfl) ?_
  refine lv_sipush (v := 200) hx hb dX0_init_23 (by decide +kernel) ?_
  refine px_newa (atype := .int) (ty := .int) (a0 := (200, .inl (fun _ => 0))) (N' := 200) hx hb (hts (.arrayClass .int) (by decide +kernel)) rfl 0 rfl px_uI hK hP hD hS hA (fun _ => rfl) (by decide +kernel) (by decide +kernel) (by decide +kernel) (Nat.le_of_ble_eq_true rfl) (Nat.le_of_ble_eq_true rfl) dX0_init_26 (fun q3 H hP hD hS => ?_)
  have hP : va_P D vwCl [(h0, .inr (0, [.int 0, .int 0, .int 0, .ref q1, .ref q2, .null, .null, .null, .null, .null, .null])), (q1, .inl (cJ, 800, .inr (.inl (fun _ => 0)))), (q2, .inl (cI, 200, .inl (fun _ => 0))), (q3, .inl (cI, 200, .inl (fun _ => 0)))] H := hP
  have hD : va_D A [(h0, .inr (0, [.int 0, .int 0, .int 0, .ref q1, .ref q2, .null, .null, .null, .null, .null, .null])), (q1, .inl (cJ, 800, .inr (.inl (fun _ => 0)))), (q2, .inl (cI, 200, .inl (fun _ => 0))), (q3, .inl (cI, 200, .inl (fun _ => 0)))] := hD
  refine va_putF (D := D) (ci := 0) (v := .ref q3) (ty := .array .int) (C := RX0) (T := TX0) (N := 11) hx hb hts hin tyX0 tyX0_ok nmX0 hown hK hP hD hS 0 rfl rfl 5 (by decide) f17 (fun _ h9 => h9) rfl hnm rfl (by decide +kernel) rfl rfl (Nat.le_of_ble_eq_true rfl) dX0_init_28 (fun H locs hP hD hS => ?_)
  have hP : va_P D vwCl [(h0, .inr (0, [.int 0, .int 0, .int 0, .ref q1, .ref q2, .ref q3, .null, .null, .null, .null, .null])), (q1, .inl (cJ, 800, .inr (.inl (fun _ => 0)))), (q2, .inl (cI, 200, .inl (fun _ => 0))), (q3, .inl (cI, 200, .inl (fun _ => 0)))] H := hP
  have hD : va_D A [(h0, .inr (0, [.int 0, .int 0, .int 0, .ref q1, .ref q2, .ref q3, .null, .null, .null, .null, .null])), (q1, .inl (cJ, 800, .inr (.inl (fun _ => 0)))), (q2, .inl (cI, 200, .inl (fun _ => 0))), (q3, .inl (cI, 200, .inl (fun _ => 0)))] := hD
  refine lv_aload_n hx hb dX0_init_31 rfl (lv_at hl 0 rfl) ?_
  refine lv_sipush (v := 200) hx hb dX0_init_32 (by decide +kernel) ?_
  refine px_newa (atype := .int) (ty := .int) (a0 := (200, .inl (fun _ => 0))) (N' := 200) hx hb (hts (.arrayClass .int) (by decide +kernel)) rfl 0 rfl px_uI hK hP hD hS hA (fun _ => rfl) (by decide +kernel) (by decide +kernel) (by decide +kernel) (Nat.le_of_ble_eq_true rfl) (Nat.le_of_ble_eq_true rfl) dX0_init_35 (fun q4 H hP hD hS => ?_)
  have hP : va_P D vwCl [(h0, .inr (0, [.int 0, .int 0, .int 0, .ref q1, .ref q2, .ref q3, .null, .null, .null, .null, .null])), (q1, .inl (cJ, 800, .inr (.inl (fun _ => 0)))), (q2, .inl (cI, 200, .inl (fun _ => 0))), (q3, .inl (cI, 200, .inl (fun _ => 0))), (q4, .inl (cI, 200, .inl (fun _ => 0)))] H := hP
  have hD : va_D A [(h0, .inr (0, [.int 0, .int 0, .int 0, .ref q1, .ref q2, .ref q3, .null, .null, .null, .null, .null])), (q1, .inl (cJ, 800, .inr (.inl (fun _ => 0)))), (q2, .inl (cI, 200, .inl (fun _ => 0))), (q3, .inl (cI, 200, .inl (fun _ => 0))), (q4, .inl (cI, 200, .inl (fun _ => 0)))] := hD
  refine va_putF (D := D) (ci := 0) (v := .ref q4) (ty := .array .int) (C := RX0) (T := TX0) (N := 11) hx hb hts hin tyX0 tyX0_ok nmX0 hown hK hP hD hS 0 rfl rfl 6 (by decide) f20 (fun _ h9 => h9) rfl hnm rfl (by decide +kernel) rfl rfl (Nat.le_of_ble_eq_true rfl) dX0_init_37 (fun H locs hP hD hS => ?_)
  have hP : va_P D vwCl [(h0, .inr (0, [.int 0, .int 0, .int 0, .ref q1, .ref q2, .ref q3, .ref q4, .null, .null, .null, .null])), (q1, .inl (cJ, 800, .inr (.inl (fun _ => 0)))), (q2, .inl (cI, 200, .inl (fun _ => 0))), (q3, .inl (cI, 200, .inl (fun _ => 0))), (q4, .inl (cI, 200, .inl (fun _ => 0)))] H := hP
  have hD : va_D A [(h0, .inr (0, [.int 0, .int 0, .int 0, .ref q1, .ref q2, .ref q3, .ref q4, .null, .null, .null, .null])), (q1, .inl (cJ, 800, .inr (.inl (fun _ => 0)))), (q2, .inl (cI, 200, .inl (fun _ => 0))), (q3, .inl (cI, 200, .inl (fun _ => 0))), (q4, .inl (cI, 200, .inl (fun _ => 0)))] := hD
  refine lv_aload_n hx hb dX0_init_40 rfl (lv_at hl 0 rfl) ?_
  refine lv_sipush (v := 200) hx hb dX0_init_41 (by decide +kernel) ?_
  refine px_newa (atype := .int) (ty := .int) (a0 := (200, .inl (fun _ => 0))) (N' := 200) hx hb (hts (.arrayClass .int) (by decide +kernel)) rfl 0 rfl px_uI hK hP hD hS hA (fun _ => rfl) (by decide +kernel) (by decide +kernel) (by decide +kernel) (Nat.le_of_ble_eq_true rfl) (Nat.le_of_ble_eq_true rfl) dX0_init_44 (fun q5 H hP hD hS => ?_)
  have hP : va_P D vwCl [(h0, .inr (0, [.int 0, .int 0, .int 0, .ref q1, .ref q2, .ref q3, .ref q4, .null, .null, .null, .null])), (q1, .inl (cJ, 800, .inr (.inl (fun _ => 0)))), (q2, .inl (cI, 200, .inl (fun _ => 0))), (q3, .inl (cI, 200, .inl (fun _ => 0))), (q4, .inl (cI, 200, .inl (fun _ => 0))), (q5, .inl (cI, 200, .inl (fun _ => 0)))] H := hP
  have hD : va_D A [(h0, .inr (0, [.int 0, .int 0, .int 0, .ref q1, .ref q2, .ref q3, .ref q4, .null, .null, .null, .null])), (q1, .inl (cJ, 800, .inr (.inl (fun _ => 0)))), (q2, .inl (cI, 200, .inl (fun _ => 0))), (q3, .inl (cI, 200, .inl (fun _ => 0))), (q4, .inl (cI, 200, .inl (fun _ => 0))), (q5, .inl (cI, 200, .inl (fun _ => 0)))] := hD
  refine va_putF (D := D) (ci := 0) (v := .ref q5) (ty := .array .int) (C := RX0) (T := TX0) (N := 11) hx hb hts hin tyX0 tyX0_ok nmX0 hown hK hP hD hS 0 rfl rfl 7 (by decide) f23 (fun _ h9 => h9) rfl hnm rfl (by decide +kernel) rfl rfl (Nat.le_of_ble_eq_true rfl) dX0_init_46 (fun H locs hP hD hS => ?_)
  have hP : va_P D vwCl [(h0, .inr (0, [.int 0, .int 0, .int 0, .ref q1, .ref q2, .ref q3, .ref q4, .ref q5, .null, .null, .null])), (q1, .inl (cJ, 800, .inr (.inl (fun _ => 0)))), (q2, .inl (cI, 200, .inl (fun _ => 0))), (q3, .inl (cI, 200, .inl (fun _ => 0))), (q4, .inl (cI, 200, .inl (fun _ => 0))), (q5, .inl (cI, 200, .inl (fun _ => 0)))] H := hP
  have hD : va_D A [(h0, .inr (0, [.int 0, .int 0, .int 0, .ref q1, .ref q2, .ref q3, .ref q4, .ref q5, .null, .null, .null])), (q1, .inl (cJ, 800, .inr (.inl (fun _ => 0)))), (q2, .inl (cI, 200, .inl (fun _ => 0))), (q3, .inl (cI, 200, .inl (fun _ => 0))), (q4, .inl (cI, 200, .inl (fun _ => 0))), (q5, .inl (cI, 200, .inl (fun _ => 0)))] := hD
  refine lv_aload_n hx hb dX0_init_49 rfl (lv_at hl 0 rfl) ?_
  refine lv_sipush (v := 200) hx hb dX0_init_50 (by decide +kernel) ?_
  refine px_newa (atype := .boolean) (ty := .boolean) (a0 := (200, .inl (fun _ => 0))) (N' := 200) hx hb (hts (.arrayClass .boolean) (by decide +kernel)) rfl 2 rfl px_uZ hK hP hD hS hA (fun _ => rfl) (by decide +kernel) (by decide +kernel) (by decide +kernel) (Nat.le_of_ble_eq_true rfl) (Nat.le_of_ble_eq_true rfl) dX0_init_53 (fun q6 H hP hD hS => ?_)
  have hP : va_P D vwCl [(h0, .inr (0, [.int 0, .int 0, .int 0, .ref q1, .ref q2, .ref q3, .ref q4, .ref q5, .null, .null, .null])), (q1, .inl (cJ, 800, .inr (.inl (fun _ => 0)))), (q2, .inl (cI, 200, .inl (fun _ => 0))), (q3, .inl (cI, 200, .inl (fun _ => 0))), (q4, .inl (cI, 200, .inl (fun _ => 0))), (q5, .inl (cI, 200, .inl (fun _ => 0))), (q6, .inl (cZ, 200, .inl (fun _ => 0)))] H := hP
  have hD : va_D A [(h0, .inr (0, [.int 0, .int 0, .int 0, .ref q1, .ref q2, .ref q3, .ref q4, .ref q5, .null, .null, .null])), (q1, .inl (cJ, 800, .inr (.inl (fun _ => 0)))), (q2, .inl (cI, 200, .inl (fun _ => 0))), (q3, .inl (cI, 200, .inl (fun _ => 0))), (q4, .inl (cI, 200, .inl (fun _ => 0))), (q5, .inl (cI, 200, .inl (fun _ => 0))), (q6, .inl (cZ, 200, .inl (fun _ => 0)))] := hD
  refine va_putF (D := D) (ci := 0) (v := .ref q6) (ty := .array .boolean) (C := RX0) (T := TX0) (N := 11) hx hb hts hin tyX0 tyX0_ok nmX0 hown hK hP hD hS 0 rfl rfl 8 (by decide) f26 (fun _ h9 => h9) rfl hnm rfl (by decide +kernel) rfl rfl (Nat.le_of_ble_eq_true rfl) dX0_init_55 (fun H locs hP hD hS => ?_)
  have hP : va_P D vwCl [(h0, .inr (0, [.int 0, .int 0, .int 0, .ref q1, .ref q2, .ref q3, .ref q4, .ref q5, .ref q6, .null, .null])), (q1, .inl (cJ, 800, .inr (.inl (fun _ => 0)))), (q2, .inl (cI, 200, .inl (fun _ => 0))), (q3, .inl (cI, 200, .inl (fun _ => 0))), (q4, .inl (cI, 200, .inl (fun _ => 0))), (q5, .inl (cI, 200, .inl (fun _ => 0))), (q6, .inl (cZ, 200, .inl (fun _ => 0)))] H := hP
  have hD : va_D A [(h0, .inr (0, [.int 0, .int 0, .int 0, .ref q1, .ref q2, .ref q3, .ref q4, .ref q5, .ref q6, .null, .null])), (q1, .inl (cJ, 800, .inr (.inl (fun _ => 0)))), (q2, .inl (cI, 200, .inl (fun _ => 0))), (q3, .inl (cI, 200, .inl (fun _ => 0))), (q4, .inl (cI, 200, .inl (fun _ => 0))), (q5, .inl (cI, 200, .inl (fun _ => 0))), (q6, .inl (cZ, 200, .inl (fun _ => 0)))] := hD
  refine lv_aload_n hx hb dX0_init_58 rfl (lv_at hl 0 rfl) ?_
  refine lv_sipush (v := 200) hx hb dX0_init_59 (by decide +kernel) ?_
  refine px_newa (atype := .int) (ty := .int) (a0 := (200, .inl (fun _ => 0))) (N' := 200) hx hb (hts (.arrayClass .int) (by decide +kernel)) rfl 0 rfl px_uI hK hP hD hS hA (fun _ => rfl) (by decide +kernel) (by decide +kernel) (by decide +kernel) (Nat.le_of_ble_eq_true rfl) (Nat.le_of_ble_eq_true rfl) dX0_init_62 (fun q7 H hP hD hS => ?_)
  have hP : va_P D vwCl [(h0, .inr (0, [.int 0, .int 0, .int 0, .ref q1, .ref q2, .ref q3, .ref q4, .ref q5, .ref q6, .null, .null])), (q1, .inl (cJ, 800, .inr (.inl (fun _ => 0)))), (q2, .inl (cI, 200, .inl (fun _ => 0))), (q3, .inl (cI, 200, .inl (fun _ => 0))), (q4, .inl (cI, 200, .inl (fun _ => 0))), (q5, .inl (cI, 200, .inl (fun _ => 0))), (q6, .inl (cZ, 200, .inl (fun _ => 0))), (q7, .inl (cI, 200, .inl (fun _ => 0)))] H := hP
  have hD : va_D A [(h0, .inr (0, [.int 0, .int 0, .int 0, .ref q1, .ref q2, .ref q3, .ref q4, .ref q5, .ref q6, .null, .null])), (q1, .inl (cJ, 800, .inr (.inl (fun _ => 0)))), (q2, .inl (cI, 200, .inl (fun _ => 0))), (q3, .inl (cI, 200, .inl (fun _ => 0))), (q4, .inl (cI, 200, .inl (fun _ => 0))), (q5, .inl (cI, 200, .inl (fun _ => 0))), (q6, .inl (cZ, 200, .inl (fun _ => 0))), (q7, .inl (cI, 200, .inl (fun _ => 0)))] := hD
  refine va_putF (D := D) (ci := 0) (v := .ref q7) (ty := .array .int) (C := RX0) (T := TX0) (N := 11) hx hb hts hin tyX0 tyX0_ok nmX0 hown hK hP hD hS 0 rfl rfl 9 (by decide) f30 (fun _ h9 => h9) rfl hnm rfl (by decide +kernel) rfl rfl (Nat.le_of_ble_eq_true rfl) dX0_init_64 (fun H locs hP hD hS => ?_)
  have hP : va_P D vwCl [(h0, .inr (0, [.int 0, .int 0, .int 0, .ref q1, .ref q2, .ref q3, .ref q4, .ref q5, .ref q6, .ref q7, .null])), (q1, .inl (cJ, 800, .inr (.inl (fun _ => 0)))), (q2, .inl (cI, 200, .inl (fun _ => 0))), (q3, .inl (cI, 200, .inl (fun _ => 0))), (q4, .inl (cI, 200, .inl (fun _ => 0))), (q5, .inl (cI, 200, .inl (fun _ => 0))), (q6, .inl (cZ, 200, .inl (fun _ => 0))), (q7, .inl (cI, 200, .inl (fun _ => 0)))] H := hP
  have hD : va_D A [(h0, .inr (0, [.int 0, .int 0, .int 0, .ref q1, .ref q2, .ref q3, .ref q4, .ref q5, .ref q6, .ref q7, .null])), (q1, .inl (cJ, 800, .inr (.inl (fun _ => 0)))), (q2, .inl (cI, 200, .inl (fun _ => 0))), (q3, .inl (cI, 200, .inl (fun _ => 0))), (q4, .inl (cI, 200, .inl (fun _ => 0))), (q5, .inl (cI, 200, .inl (fun _ => 0))), (q6, .inl (cZ, 200, .inl (fun _ => 0))), (q7, .inl (cI, 200, .inl (fun _ => 0)))] := hD
  refine lv_aload_n hx hb dX0_init_67 rfl (lv_at hl 0 rfl) ?_
  refine lv_sipush (v := 200) hx hb dX0_init_68 (by decide +kernel) ?_
  refine px_newa (atype := .int) (ty := .int) (a0 := (200, .inl (fun _ => 0))) (N' := 200) hx hb (hts (.arrayClass .int) (by decide +kernel)) rfl 0 rfl px_uI hK hP hD hS hA (fun _ => rfl) (by decide +kernel) (by decide +kernel) (by decide +kernel) (Nat.le_of_ble_eq_true rfl) (Nat.le_of_ble_eq_true rfl) dX0_init_71 (fun q8 H hP hD hS => ?_)
  have hP : va_P D vwCl [(h0, .inr (0, [.int 0, .int 0, .int 0, .ref q1, .ref q2, .ref q3, .ref q4, .ref q5, .ref q6, .ref q7, .null])), (q1, .inl (cJ, 800, .inr (.inl (fun _ => 0)))), (q2, .inl (cI, 200, .inl (fun _ => 0))), (q3, .inl (cI, 200, .inl (fun _ => 0))), (q4, .inl (cI, 200, .inl (fun _ => 0))), (q5, .inl (cI, 200, .inl (fun _ => 0))), (q6, .inl (cZ, 200, .inl (fun _ => 0))), (q7, .inl (cI, 200, .inl (fun _ => 0))), (q8, .inl (cI, 200, .inl (fun _ => 0)))] H := hP
  have hD : va_D A [(h0, .inr (0, [.int 0, .int 0, .int 0, .ref q1, .ref q2, .ref q3, .ref q4, .ref q5, .ref q6, .ref q7, .null])), (q1, .inl (cJ, 800, .inr (.inl (fun _ => 0)))), (q2, .inl (cI, 200, .inl (fun _ => 0))), (q3, .inl (cI, 200, .inl (fun _ => 0))), (q4, .inl (cI, 200, .inl (fun _ => 0))), (q5, .inl (cI, 200, .inl (fun _ => 0))), (q6, .inl (cZ, 200, .inl (fun _ => 0))), (q7, .inl (cI, 200, .inl (fun _ => 0))), (q8, .inl (cI, 200, .inl (fun _ => 0)))] := hD
  refine va_putF (D := D) (ci := 0) (v := .ref q8) (ty := .array .int) (C := RX0) (T := TX0) (N := 11) hx hb hts hin tyX0 tyX0_ok nmX0 hown hK hP hD hS 0 rfl rfl 10 (by decide) f33 (fun _ h9 => h9) rfl hnm rfl (by decide +kernel) rfl rfl (Nat.le_of_ble_eq_true rfl) dX0_init_73 (fun H locs hP hD hS => ?_)
  have hP : va_P D vwCl [(h0, .inr (0, [.int 0, .int 0, .int 0, .ref q1, .ref q2, .ref q3, .ref q4, .ref q5, .ref q6, .ref q7, .ref q8])), (q1, .inl (cJ, 800, .inr (.inl (fun _ => 0)))), (q2, .inl (cI, 200, .inl (fun _ => 0))), (q3, .inl (cI, 200, .inl (fun _ => 0))), (q4, .inl (cI, 200, .inl (fun _ => 0))), (q5, .inl (cI, 200, .inl (fun _ => 0))), (q6, .inl (cZ, 200, .inl (fun _ => 0))), (q7, .inl (cI, 200, .inl (fun _ => 0))), (q8, .inl (cI, 200, .inl (fun _ => 0)))] H := hP
  have hD : va_D A [(h0, .inr (0, [.int 0, .int 0, .int 0, .ref q1, .ref q2, .ref q3, .ref q4, .ref q5, .ref q6, .ref q7, .ref q8])), (q1, .inl (cJ, 800, .inr (.inl (fun _ => 0)))), (q2, .inl (cI, 200, .inl (fun _ => 0))), (q3, .inl (cI, 200, .inl (fun _ => 0))), (q4, .inl (cI, 200, .inl (fun _ => 0))), (q5, .inl (cI, 200, .inl (fun _ => 0))), (q6, .inl (cZ, 200, .inl (fun _ => 0))), (q7, .inl (cI, 200, .inl (fun _ => 0))), (q8, .inl (cI, 200, .inl (fun _ => 0)))] := hD
  obtain ⟨ad, had⟩ : ∃ ad : Nat → Nat, ad = fun i => [h0, q1, q2, q3, q4, q5, q6, q7, q8].getD i 0 := ⟨_, rfl⟩
  have e0 : ad 0 = h0 := by rw [had]; rfl
  have hP : va_P D vwCl (w0 cI cJ cZ ad 0 0 0 (fun _ => 0) (fun _ => 0) (fun _ => 0) (fun _ => 0) (fun _ => 0) (fun _ => 0) (fun _ => 0) (fun _ => 0)) H := by rw [had]; exact hP
  have hD : va_D A (w0 cI cJ cZ ad 0 0 0 (fun _ => 0) (fun _ => 0) (fun _ => 0) (fun _ => 0) (fun _ => 0) (fun _ => 0) (fun _ => 0) (fun _ => 0)) := by rw [had]; exact hD
  rw [← e0] at hl
  refine W.widen (k := 8) (n := 2200) (Nat.le_of_ble_eq_true rfl) (Nat.le_of_ble_eq_true rfl) ?_
  refine lv_aload_n hx hb dX0_init_76 rfl (lv_at hl 0 rfl) ?_
  refine lv_iconst (v := nI 1) hx hb dX0_init_77 (by decide +kernel) ?_
  refine lv_iconst (v := nI 1) hx hb dX0_init_78 (by decide +kernel) ?_
  refine px_wv (ci := 0) (q := (RX0, TX0, 11)) (rest := []) S hP hK hD hS (tX0_startGraph (nI 1) (nI 1)) (fun _ => w0_same) (cwV 2 hts gX0_init_X0_startGraph rfl rfl rfl (by decide +kernel) ⟨by decide, by decide⟩) rfl rfl rfl hl.1 rfl (Nat.le_of_ble_eq_true rfl) dX0_init_79 ⟨Nat.le_refl _, Nat.le_refl _⟩ (fun _ H locs _ hP hD hS _ => ?_)
  exact W.vret hx hb hr (fun t ht hW => ⟨⟨ad, rfl, e0, (by rw [ht]; exact hP : va_P D vwCl (w0 cI cJ cZ ad (nI 1) (nI 1) (px_b false) (fun _ => 0) (fun _ => nI 0) (fun _ => nI 0) (fun _ => -1) (fun _ => 0) (fun _ => 0) (fun _ => 0) (fun _ => 0)) t.heap), hD⟩, hS.F ht⟩) hS.2.2 dX0_init_82
set_option maxHeartbeats 4000000 in
set_option maxRecDepth 100000 in
theorem tX1_init (l : Launch) (D : va_G) (cI cJ cZ : ClassId) (h0 sz : Nat) : Met l yX1_init wsX1_init { frames := 2, cells := 6, slots := 41000, locals := 60 } (va_Pc [.ref h0] (fun U => U.heap.size = sz ∧ va_P D vwCl [(h0, .inr (1, [.null, .null, .null, .null, .null, .null, .int 0, .int 0, .int 0]))] U.heap ∧ va_K D vwCl (tyq cI cJ cZ) U ∧ va_D (fun _ => True) [(h0, .inr (1, [.null, .null, .null, .null, .null, .null, .int 0, .int 0, .int 0]))])) (va_Qv (fun ad : Nat → Nat => ad 0 = h0) (fun ad t => va_P D vwCl (w1 cI cZ ad (nI 1) (nI 1) (px_b false) (fun _ => px_b false) (fun _ => nI 0) (fun a => nI a) (fun _ => 0) (fun _ => 0) (fun _ => 0)) t.heap ∧ va_D (va_A [(h0, .inr (1, [.null, .null, .null, .null, .null, .null, .int 0, .int 0, .int 0]))] sz) (w1 cI cZ ad (nI 1) (nI 1) (px_b false) (fun _ => px_b false) (fun _ => nI 0) (fun a => nI a) (fun _ => 0) (fun _ => 0) (fun _ => 0))) (va_A [(h0, .inr (1, [.null, .null, .null, .null, .null, .null, .int 0, .int 0, .int 0]))] sz)) 6 41000 (va_A [(h0, .inr (1, [.null, .null, .null, .null, .null, .null, .int 0, .int 0, .int 0]))] sz) := by
  refine px_met (cc := cX1_init) (maxL := 2) (ret := none) (lv := [(0, .ref h0)]) (by decide +kernel) rfl (Nat.le_of_ble_eq_true rfl) rfl ?_
  intro p e s m below meth c ls S hr hlk hnm hv hl
  obtain ⟨hx, hb, hml, hown, hts⟩ := id S
  obtain ⟨hsz, hP, hK, hD0⟩ := hv
  have hin : ∀ w ∈ wsX10, w ∈ wsX1_init := fun w h => List.mem_cons_of_mem _ (List.mem_append_right _ h)
  have f10 := hts (.fieldLink RX1 10 "PointColoursModel" "pairs" "[Z") (by decide +kernel)
  have f14 := hts (.fieldLink RX1 14 "PointColoursModel" "costs" "[I") (by decide +kernel)
  have f18 := hts (.fieldLink RX1 18 "PointColoursModel" "wishes" "[I") (by decide +kernel)
  have f21 := hts (.fieldLink RX1 21 "PointColoursModel" "colours" "[I") (by decide +kernel)
  have f24 := hts (.fieldLink RX1 24 "PointColoursModel" "row" "[I") (by decide +kernel)
  have f27 := hts (.fieldLink RX1 27 "PointColoursModel" "in" "[Z") (by decide +kernel)
  subst hsz
  have hD := hD0.self (sz := s.heap.size)
  generalize hAe : va_A [(h0, .inr (1, [.null, .null, .null, .null, .null, .null, .int 0, .int 0, .int 0]))] s.heap.size = A at hD ⊢
  have hA : ∀ q : Nat, s.heap.size ≤ q → A q := fun q h => by rw [← hAe]; exact Or.inr h
  have hS : va_S A s.heap s.heap [] := va_S.rf
  refine lv_aload_n hx hb dX1_init_0 rfl (lv_at hl 0 rfl) ?_
  refine W.objInit hx hb hown (hts (.methodLink RX1 1 objectInit) (by decide +kernel)) (hts (.instanceMethod objectInit) (by decide +kernel)) (hts _ (List.mem_cons_of_mem _ (List.mem_append_left _ (List.mem_of_getElem? (i := 2) rfl)))) rfl (by rw [hml]; exact hl.1) rfl dX1_init_1 (Nat.le_of_ble_eq_true rfl) (Nat.le_of_ble_eq_true rfl) ?_
  refine W.eq (g2 := F0 m 4 ls []) rfl ?_
  refine lv_aload_n hx hb dX1_init_4 rfl (lv_at hl 0 rfl) ?_
  refine lv_ldc (v := 40000) hx hb hown (hts (.constant RX1 9 (40000)) (by decide +kernel)) dX1_init_5 ?_
  refine px_newa (atype := .boolean) (ty := .boolean) (a0 := (40000, .inl (fun _ => 0))) (N' := 40000) hx hb (hts (.arrayClass .boolean) (by decide +kernel)) rfl 2 rfl px_uZ hK hP hD hS hA (fun _ => rfl) (by decide +kernel) (by decide +kernel) (by decide +kernel) (Nat.le_of_ble_eq_true rfl) (Nat.le_of_ble_eq_true rfl) dX1_init_7 (fun q1 H hP hD hS => ?_)
  have hP : va_P D vwCl [(h0, .inr (1, [.null, .null, .null, .null, .null, .null, .int 0, .int 0, .int 0])), (q1, .inl (cZ, 40000, .inl (fun _ => 0)))] H := hP
  have hD : va_D A [(h0, .inr (1, [.null, .null, .null, .null, .null, .null, .int 0, .int 0, .int 0])), (q1, .inl (cZ, 40000, .inl (fun _ => 0)))] := hD
  refine va_putF (D := D) (ci := 1) (v := .ref q1) (ty := .array .boolean) (C := RX1) (T := TX1) (N := 9) hx hb hts hin tyX1 tyX1_ok nmX1 hown hK hP hD hS 0 rfl rfl 0 (by decide) f10 (fun _ h9 => h9) rfl hnm rfl (by decide +kernel) rfl rfl (Nat.le_of_ble_eq_true rfl) dX1_init_9 (fun H locs hP hD hS => ?_)
  have hP : va_P D vwCl [(h0, .inr (1, [.ref q1, .null, .null, .null, .null, .null, .int 0, .int 0, .int 0])), (q1, .inl (cZ, 40000, .inl (fun _ => 0)))] H := hP
  have hD : va_D A [(h0, .inr (1, [.ref q1, .null, .null, .null, .null, .null, .int 0, .int 0, .int 0])), (q1, .inl (cZ, 40000, .inl (fun _ => 0)))] := hD
  refine lv_aload_n hx hb dX1_init_12 rfl (lv_at hl 0 rfl) ?_
  refine lv_sipush (v := 200) hx hb dX1_init_13 (by decide +kernel) ?_
  refine px_newa (atype := .int) (ty := .int) (a0 := (200, .inl (fun _ => 0))) (N' := 200) hx hb (hts (.arrayClass .int) (by decide +kernel)) rfl 0 rfl px_uI hK hP hD hS hA (fun _ => rfl) (by decide +kernel) (by decide +kernel) (by decide +kernel) (Nat.le_of_ble_eq_true rfl) (Nat.le_of_ble_eq_true rfl) dX1_init_16 (fun q2 H hP hD hS => ?_)
  have hP : va_P D vwCl [(h0, .inr (1, [.ref q1, .null, .null, .null, .null, .null, .int 0, .int 0, .int 0])), (q1, .inl (cZ, 40000, .inl (fun _ => 0))), (q2, .inl (cI, 200, .inl (fun _ => 0)))] H := hP
  have hD : va_D A [(h0, .inr (1, [.ref q1, .null, .null, .null, .null, .null, .int 0, .int 0, .int 0])), (q1, .inl (cZ, 40000, .inl (fun _ => 0))), (q2, .inl (cI, 200, .inl (fun _ => 0)))] := hD
  refine va_putF (D := D) (ci := 1) (v := .ref q2) (ty := .array .int) (C := RX1) (T := TX1) (N := 9) hx hb hts hin tyX1 tyX1_ok nmX1 hown hK hP hD hS 0 rfl rfl 1 (by decide) f14 (fun _ h9 => h9) rfl hnm rfl (by decide +kernel) rfl rfl (Nat.le_of_ble_eq_true rfl) dX1_init_18 (fun H locs hP hD hS => ?_)
  have hP : va_P D vwCl [(h0, .inr (1, [.ref q1, .ref q2, .null, .null, .null, .null, .int 0, .int 0, .int 0])), (q1, .inl (cZ, 40000, .inl (fun _ => 0))), (q2, .inl (cI, 200, .inl (fun _ => 0)))] H := hP
  have hD : va_D A [(h0, .inr (1, [.ref q1, .ref q2, .null, .null, .null, .null, .int 0, .int 0, .int 0])), (q1, .inl (cZ, 40000, .inl (fun _ => 0))), (q2, .inl (cI, 200, .inl (fun _ => 0)))] := hD
  refine lv_aload_n hx hb dX1_init_21 rfl (lv_at hl 0 rfl) ?_
  refine lv_sipush (v := 200) hx hb dX1_init_22 (by decide +kernel) ?_
  refine px_newa (atype := .int) (ty := .int) (a0 := (200, .inl (fun _ => 0))) (N' := 200) hx hb (hts (.arrayClass .int) (by decide +kernel)) rfl 0 rfl px_uI hK hP hD hS hA (fun _ => rfl) (by decide +kernel) (by decide +kernel) (by decide +kernel) (Nat.le_of_ble_eq_true rfl) (Nat.le_of_ble_eq_true rfl) dX1_init_25 (fun q3 H hP hD hS => ?_)
  have hP : va_P D vwCl [(h0, .inr (1, [.ref q1, .ref q2, .null, .null, .null, .null, .int 0, .int 0, .int 0])), (q1, .inl (cZ, 40000, .inl (fun _ => 0))), (q2, .inl (cI, 200, .inl (fun _ => 0))), (q3, .inl (cI, 200, .inl (fun _ => 0)))] H := hP
  have hD : va_D A [(h0, .inr (1, [.ref q1, .ref q2, .null, .null, .null, .null, .int 0, .int 0, .int 0])), (q1, .inl (cZ, 40000, .inl (fun _ => 0))), (q2, .inl (cI, 200, .inl (fun _ => 0))), (q3, .inl (cI, 200, .inl (fun _ => 0)))] := hD
  refine va_putF (D := D) (ci := 1) (v := .ref q3) (ty := .array .int) (C := RX1) (T := TX1) (N := 9) hx hb hts hin tyX1 tyX1_ok nmX1 hown hK hP hD hS 0 rfl rfl 2 (by decide) f18 (fun _ h9 => h9) rfl hnm rfl (by decide +kernel) rfl rfl (Nat.le_of_ble_eq_true rfl) dX1_init_27 (fun H locs hP hD hS => ?_)
  have hP : va_P D vwCl [(h0, .inr (1, [.ref q1, .ref q2, .ref q3, .null, .null, .null, .int 0, .int 0, .int 0])), (q1, .inl (cZ, 40000, .inl (fun _ => 0))), (q2, .inl (cI, 200, .inl (fun _ => 0))), (q3, .inl (cI, 200, .inl (fun _ => 0)))] H := hP
  have hD : va_D A [(h0, .inr (1, [.ref q1, .ref q2, .ref q3, .null, .null, .null, .int 0, .int 0, .int 0])), (q1, .inl (cZ, 40000, .inl (fun _ => 0))), (q2, .inl (cI, 200, .inl (fun _ => 0))), (q3, .inl (cI, 200, .inl (fun _ => 0)))] := hD
  refine lv_aload_n hx hb dX1_init_30 rfl (lv_at hl 0 rfl) ?_
  refine lv_sipush (v := 200) hx hb dX1_init_31 (by decide +kernel) ?_
  refine px_newa (atype := .int) (ty := .int) (a0 := (200, .inl (fun _ => 0))) (N' := 200) hx hb (hts (.arrayClass .int) (by decide +kernel)) rfl 0 rfl px_uI hK hP hD hS hA (fun _ => rfl) (by decide +kernel) (by decide +kernel) (by decide +kernel) (Nat.le_of_ble_eq_true rfl) (Nat.le_of_ble_eq_true rfl) dX1_init_34 (fun q4 H hP hD hS => ?_)
  have hP : va_P D vwCl [(h0, .inr (1, [.ref q1, .ref q2, .ref q3, .null, .null, .null, .int 0, .int 0, .int 0])), (q1, .inl (cZ, 40000, .inl (fun _ => 0))), (q2, .inl (cI, 200, .inl (fun _ => 0))), (q3, .inl (cI, 200, .inl (fun _ => 0))), (q4, .inl (cI, 200, .inl (fun _ => 0)))] H := hP
  have hD : va_D A [(h0, .inr (1, [.ref q1, .ref q2, .ref q3, .null, .null, .null, .int 0, .int 0, .int 0])), (q1, .inl (cZ, 40000, .inl (fun _ => 0))), (q2, .inl (cI, 200, .inl (fun _ => 0))), (q3, .inl (cI, 200, .inl (fun _ => 0))), (q4, .inl (cI, 200, .inl (fun _ => 0)))] := hD
  refine va_putF (D := D) (ci := 1) (v := .ref q4) (ty := .array .int) (C := RX1) (T := TX1) (N := 9) hx hb hts hin tyX1 tyX1_ok nmX1 hown hK hP hD hS 0 rfl rfl 3 (by decide) f21 (fun _ h9 => h9) rfl hnm rfl (by decide +kernel) rfl rfl (Nat.le_of_ble_eq_true rfl) dX1_init_36 (fun H locs hP hD hS => ?_)
  have hP : va_P D vwCl [(h0, .inr (1, [.ref q1, .ref q2, .ref q3, .ref q4, .null, .null, .int 0, .int 0, .int 0])), (q1, .inl (cZ, 40000, .inl (fun _ => 0))), (q2, .inl (cI, 200, .inl (fun _ => 0))), (q3, .inl (cI, 200, .inl (fun _ => 0))), (q4, .inl (cI, 200, .inl (fun _ => 0)))] H := hP
  have hD : va_D A [(h0, .inr (1, [.ref q1, .ref q2, .ref q3, .ref q4, .null, .null, .int 0, .int 0, .int 0])), (q1, .inl (cZ, 40000, .inl (fun _ => 0))), (q2, .inl (cI, 200, .inl (fun _ => 0))), (q3, .inl (cI, 200, .inl (fun _ => 0))), (q4, .inl (cI, 200, .inl (fun _ => 0)))] := hD
  refine lv_aload_n hx hb dX1_init_39 rfl (lv_at hl 0 rfl) ?_
  refine lv_sipush (v := 200) hx hb dX1_init_40 (by decide +kernel) ?_
  refine px_newa (atype := .int) (ty := .int) (a0 := (200, .inl (fun _ => 0))) (N' := 200) hx hb (hts (.arrayClass .int) (by decide +kernel)) rfl 0 rfl px_uI hK hP hD hS hA (fun _ => rfl) (by decide +kernel) (by decide +kernel) (by decide +kernel) (Nat.le_of_ble_eq_true rfl) (Nat.le_of_ble_eq_true rfl) dX1_init_43 (fun q5 H hP hD hS => ?_)
  have hP : va_P D vwCl [(h0, .inr (1, [.ref q1, .ref q2, .ref q3, .ref q4, .null, .null, .int 0, .int 0, .int 0])), (q1, .inl (cZ, 40000, .inl (fun _ => 0))), (q2, .inl (cI, 200, .inl (fun _ => 0))), (q3, .inl (cI, 200, .inl (fun _ => 0))), (q4, .inl (cI, 200, .inl (fun _ => 0))), (q5, .inl (cI, 200, .inl (fun _ => 0)))] H := hP
  have hD : va_D A [(h0, .inr (1, [.ref q1, .ref q2, .ref q3, .ref q4, .null, .null, .int 0, .int 0, .int 0])), (q1, .inl (cZ, 40000, .inl (fun _ => 0))), (q2, .inl (cI, 200, .inl (fun _ => 0))), (q3, .inl (cI, 200, .inl (fun _ => 0))), (q4, .inl (cI, 200, .inl (fun _ => 0))), (q5, .inl (cI, 200, .inl (fun _ => 0)))] := hD
  refine va_putF (D := D) (ci := 1) (v := .ref q5) (ty := .array .int) (C := RX1) (T := TX1) (N := 9) hx hb hts hin tyX1 tyX1_ok nmX1 hown hK hP hD hS 0 rfl rfl 4 (by decide) f24 (fun _ h9 => h9) rfl hnm rfl (by decide +kernel) rfl rfl (Nat.le_of_ble_eq_true rfl) dX1_init_45 (fun H locs hP hD hS => ?_)
  have hP : va_P D vwCl [(h0, .inr (1, [.ref q1, .ref q2, .ref q3, .ref q4, .ref q5, .null, .int 0, .int 0, .int 0])), (q1, .inl (cZ, 40000, .inl (fun _ => 0))), (q2, .inl (cI, 200, .inl (fun _ => 0))), (q3, .inl (cI, 200, .inl (fun _ => 0))), (q4, .inl (cI, 200, .inl (fun _ => 0))), (q5, .inl (cI, 200, .inl (fun _ => 0)))] H := hP
  have hD : va_D A [(h0, .inr (1, [.ref q1, .ref q2, .ref q3, .ref q4, .ref q5, .null, .int 0, .int 0, .int 0])), (q1, .inl (cZ, 40000, .inl (fun _ => 0))), (q2, .inl (cI, 200, .inl (fun _ => 0))), (q3, .inl (cI, 200, .inl (fun _ => 0))), (q4, .inl (cI, 200, .inl (fun _ => 0))), (q5, .inl (cI, 200, .inl (fun _ => 0)))] := hD
  refine lv_aload_n hx hb dX1_init_48 rfl (lv_at hl 0 rfl) ?_
  refine lv_sipush (v := 200) hx hb dX1_init_49 (by decide +kernel) ?_
  refine px_newa (atype := .boolean) (ty := .boolean) (a0 := (200, .inl (fun _ => 0))) (N' := 200) hx hb (hts (.arrayClass .boolean) (by decide +kernel)) rfl 2 rfl px_uZ hK hP hD hS hA (fun _ => rfl) (by decide +kernel) (by decide +kernel) (by decide +kernel) (Nat.le_of_ble_eq_true rfl) (Nat.le_of_ble_eq_true rfl) dX1_init_52 (fun q6 H hP hD hS => ?_)
  have hP : va_P D vwCl [(h0, .inr (1, [.ref q1, .ref q2, .ref q3, .ref q4, .ref q5, .null, .int 0, .int 0, .int 0])), (q1, .inl (cZ, 40000, .inl (fun _ => 0))), (q2, .inl (cI, 200, .inl (fun _ => 0))), (q3, .inl (cI, 200, .inl (fun _ => 0))), (q4, .inl (cI, 200, .inl (fun _ => 0))), (q5, .inl (cI, 200, .inl (fun _ => 0))), (q6, .inl (cZ, 200, .inl (fun _ => 0)))] H := hP
  have hD : va_D A [(h0, .inr (1, [.ref q1, .ref q2, .ref q3, .ref q4, .ref q5, .null, .int 0, .int 0, .int 0])), (q1, .inl (cZ, 40000, .inl (fun _ => 0))), (q2, .inl (cI, 200, .inl (fun _ => 0))), (q3, .inl (cI, 200, .inl (fun _ => 0))), (q4, .inl (cI, 200, .inl (fun _ => 0))), (q5, .inl (cI, 200, .inl (fun _ => 0))), (q6, .inl (cZ, 200, .inl (fun _ => 0)))] := hD
  refine va_putF (D := D) (ci := 1) (v := .ref q6) (ty := .array .boolean) (C := RX1) (T := TX1) (N := 9) hx hb hts hin tyX1 tyX1_ok nmX1 hown hK hP hD hS 0 rfl rfl 5 (by decide) f27 (fun _ h9 => h9) rfl hnm rfl (by decide +kernel) rfl rfl (Nat.le_of_ble_eq_true rfl) dX1_init_54 (fun H locs hP hD hS => ?_)
  have hP : va_P D vwCl [(h0, .inr (1, [.ref q1, .ref q2, .ref q3, .ref q4, .ref q5, .ref q6, .int 0, .int 0, .int 0])), (q1, .inl (cZ, 40000, .inl (fun _ => 0))), (q2, .inl (cI, 200, .inl (fun _ => 0))), (q3, .inl (cI, 200, .inl (fun _ => 0))), (q4, .inl (cI, 200, .inl (fun _ => 0))), (q5, .inl (cI, 200, .inl (fun _ => 0))), (q6, .inl (cZ, 200, .inl (fun _ => 0)))] H := hP
  have hD : va_D A [(h0, .inr (1, [.ref q1, .ref q2, .ref q3, .ref q4, .ref q5, .ref q6, .int 0, .int 0, .int 0])), (q1, .inl (cZ, 40000, .inl (fun _ => 0))), (q2, .inl (cI, 200, .inl (fun _ => 0))), (q3, .inl (cI, 200, .inl (fun _ => 0))), (q4, .inl (cI, 200, .inl (fun _ => 0))), (q5, .inl (cI, 200, .inl (fun _ => 0))), (q6, .inl (cZ, 200, .inl (fun _ => 0)))] := hD
  obtain ⟨ad, had⟩ : ∃ ad : Nat → Nat, ad = fun i => [h0, q1, q2, q3, q4, q5, q6].getD i 0 := ⟨_, rfl⟩
  have e0 : ad 0 = h0 := by rw [had]; rfl
  have hP : va_P D vwCl (w1 cI cZ ad 0 0 0 (fun _ => 0) (fun _ => 0) (fun _ => 0) (fun _ => 0) (fun _ => 0) (fun _ => 0)) H := by rw [had]; exact hP
  have hD : va_D A (w1 cI cZ ad 0 0 0 (fun _ => 0) (fun _ => 0) (fun _ => 0) (fun _ => 0) (fun _ => 0) (fun _ => 0)) := by rw [had]; exact hD
  rw [← e0] at hl
  refine W.widen (k := 6) (n := 41000) (Nat.le_of_ble_eq_true rfl) (Nat.le_of_ble_eq_true rfl) ?_
  refine lv_aload_n hx hb dX1_init_57 rfl (lv_at hl 0 rfl) ?_
  refine lv_iconst (v := nI 1) hx hb dX1_init_58 (by decide +kernel) ?_
  refine lv_iconst (v := nI 1) hx hb dX1_init_59 (by decide +kernel) ?_
  refine px_wi (ci := 1) (q := (RX1, TX1, 9)) (rest := []) S hP hK hD hS (tX1_begin_ok (i := 1) (j := 1) (by decide) (by decide) (by decide) (by decide)) (fun _ => w1_same) (cwV 2 hts gX1_init_X1_begin rfl rfl rfl (by decide +kernel) ⟨by decide, by decide⟩) rfl rfl rfl hl.1 rfl (Nat.le_of_ble_eq_true rfl) dX1_init_60 ⟨Nat.le_refl _, Nat.le_refl _⟩ (fun r _ H locs _ hP hD hS _ => ?_)
  refine lv_istore_n (lv' := [(1, .int r), (0, .ref (ad 0))]) hx hb dX1_init_63 rfl hl (by decide) rfl (fun ls hl => ?_)
  exact W.vret hx hb hr (fun t ht hW => ⟨⟨ad, rfl, e0, (by rw [ht]; exact hP : va_P D vwCl (w1 cI cZ ad (nI 1) (nI 1) (px_b false) (fun _ => px_b false) (fun _ => nI 0) (fun a => nI a) (fun _ => 0) (fun _ => 0) (fun _ => 0)) t.heap), hD⟩, hS.F ht⟩) hS.2.2 dX1_init_64
