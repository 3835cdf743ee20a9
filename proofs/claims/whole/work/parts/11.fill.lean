theorem px_B1 {a q : Nat} {x : va_E} : px_B [(a, x)] q ↔ q = a := by
  constructor
  · rintro ⟨k, e, h⟩
    cases k with
    | zero => simp at h; exact h.1.symm
    | succ k => simp at h
  · rintro rfl; exact ⟨0, x, rfl⟩
theorem px_P1 {D : va_G} {cl : List vw_C} {a : Nat} {x : va_E} {H : Heap} (h : va_at D cl (a, x) H) : va_P D cl [(a, x)] H := fun k q hq => by
  cases k with
  | zero => simp at hq; subst hq; exact h
  | succ k => simp at hq
theorem px_D1 {a : Nat} {x : va_E} : va_D (px_B [(a, x)]) [(a, x)] := by
  refine ⟨fun i j p q hi hj _ => ?_, fun k q h => ⟨k, q.2, h⟩⟩
  cases i with
  | succ i => simp at hi
  | zero => cases j with
    | succ j => simp at hj
    | zero => rfl
section PW
variable {p : Program} {l : Launch} {e : Env} {R : Room} {s : State} {m : MethodId} {args : Array Value} {below : List Frame} {meth : Method} {c : Code} {H : Heap} {locs : List Loc} {cells slots : Nat} {Q : State → Prop}
variable {cc bytes : ByteArray} {pc nL maxL n index : Nat} {ls : Array Slot} {rest st0 As : List Value} {D : va_G} {A : Nat → Prop} {a : Nat} {tys : List (ClassId × FieldType)} {ws ws' : va_W} {H0 : Heap} {Ts wm : List Cond} {own : String} {y : MethodName} {rm : Room} {ret : Option FieldType} {e0 e1 : va_E}
theorem px_ws (S : CallFix p m c cc nL s args Ts own) (hP : va_P D vwCl ws H) (hK : va_K D vwCl tys s) (hD : va_D A ws) (hS : va_S A H0 H locs) (k : Nat) (hk : ws[k]? = some (a, e0)) (hM : WrV l y wm rm D tys As [(a, e0)] (fun _ : Unit => True) (fun _ => [(a, e1)])) (cw : CallB R s args own index y bytes maxL ret wm rm 0 0 n ∧ (Cond.static y).before args s = true) (hn : As.length = n) (hl : ls.size = nL) (hst : st0 = As.reverse ++ rest) (hW : (rest.map fun v => v.category).sum ≤ 8) (hdg : decode cc pc = .ok (.invokestatic index, 3)) (hf : cells ≤ R.cells ∧ slots ≤ R.slots) (hw : ws.set k (a, e1) = ws')
    (kk : ∀ (H : Heap) (locs : List Loc), va_P D vwCl ws' H → va_D A ws' → va_S A H0 H locs → W p l e R s m args below meth c H locs cells slots Q (F0 m (pc + 3) ls rest)) : W p l e R s m args below meth c H locs cells slots Q (F0 m pc ls st0) := by
  subst hw
  have hPa : va_P D vwCl [(a, e0)] H := px_P1 (hP k _ hk)
  have hAa : A a := hD.2 k _ hk
  refine va_callv (va_runS (As := As) (rest := rest) (g := F0 m pc ls st0) S hM cw ⟨fun a U g mk z => ⟨z.1, z.2.1, va_K.moved (u := U) (U := U.calling g mk a) (Vm.Alike.refl U.vm) z.2.2.1, z.2.2.2⟩, fun U hU hW => ⟨rfl, by rw [hU]; exact hPa, va_K.moved hW.alike hK, px_D1⟩⟩ rfl hn hl hst (lv_room hW) hdg hf) hS (fun q _ h => by rw [px_B1] at h; rw [h]; exact hAa) (fun q h => by rw [px_B1] at h; rw [h]; exact hAa) ?_
  intro u t H1 locs1 ht hvm hw hB hz hk1 hS1
  refine kk H1 locs1 (fun j q hq => ?_) (hD.set hk) hS1
  by_cases hj : j = k
  · subst hj
    rw [List.getElem?_set_self ((List.getElem?_eq_some_iff.mp hk).1)] at hq
    obtain rfl := Option.some.inj hq
    have hB : va_P D vwCl [(a, e1)] t.heap := hB
    rw [ht] at hB
    exact hB 0 _ rfl
  · rw [List.getElem?_set_ne (Ne.symm hj)] at hq
    have h1 := hP j q hq
    exact h1.kept (hk1 q.1 h1.lt (fun z => by rw [px_B1] at z; exact hj (hD.1 j k q _ hq hk z)))
end PW
set_option maxHeartbeats 4000000 in
set_option maxRecDepth 100000 in
theorem tJ7_fillI {l : Launch} {D : va_G} {cI cJ cZ : ClassId} {a n : Nat} {f : Nat → Int32} {v : Int32} (hn : n < 2 ^ 31) : WrV l yJ7_fill_53178 wsJ7_fill_53178 (rmd 0) D (tyq cI cJ cZ) [.ref a, .int v] [(a, .inl (cI, n, .inl f))] (fun _ : Unit => True) (fun _ => [(a, .inl (cI, n, .inl (fun _ => v)))]) := by
  refine px_met (cc := cJ7_fill_53178) (maxL := 4) (ret := none) (lv := [(0, .ref a), (1, .int v)]) (by decide +kernel) rfl (Nat.le_of_ble_eq_true rfl) rfl ?_
  intro p e s m below meth c ls S hr hlk hnm hv hl
  obtain ⟨hx, hb, hml, hown, hts⟩ := id S
  obtain ⟨hP, hK, hD⟩ := hv
  have hS : va_S (px_B [(a, .inl (cI, n, .inl f))]) s.heap s.heap [] := va_S.rf
  generalize hA : px_B [(a, (.inl (cI, n, .inl f) : va_E))] = A at hD hS ⊢
  have loop : ∀ (k i : Nat) (g : Nat → Int32) (H : Heap) (locs : List Loc), n + 1 ≤ i + k → i ≤ n → (∀ j, j < i → g j = v) → va_P D vwCl [(a, .inl (cI, n, .inl g))] H → va_D A [(a, .inl (cI, n, .inl g))] → va_S A s.heap H locs → ∀ ls : Array Slot, lv_has ls 4 [(3, .int (nI n)), (2, .int (nI i)), (0, .ref a), (1, .int v)] → W p l e (rmd 0) s m ([.ref a, .int v] : List Value).toArray below meth c H locs 0 0 (MQ below (va_Qv (fun _ : Unit => True) (fun u t => va_P D vwCl ((fun _ => [(a, .inl (cI, n, .inl (fun _ => v)))]) u) t.heap) A) ([.ref a, .int v] : List Value).toArray s 0 0 A) (F0 m 5 ls []) := by
    intro k
    induction k with
    | zero => intro i g H locs h1 h2; exact absurd h1 (by omega)
    | succ k ih =>
      intro i g H locs h1 h2 hg hP hD hS ls hl
      refine lv_iload_n hx hb dJ7_fill_53178_5 rfl (lv_at hl 1 rfl) ?_
      refine lv_iload_n hx hb dJ7_fill_53178_6 rfl (lv_at hl 0 rfl) ?_
      refine px_ge (tgt := 20) hx hb dJ7_fill_53178_7 (by decide) (by omega) (by omega) (fun h7 => ?_) (fun h7 => ?_)
      · refine px_ev (wf := fun _ => [(a, .inl (cI, n, .inl (fun _ => v)))]) hx hb hr hlk hS () trivial ?_ dJ7_fill_53178_20
        refine px_P1 ?_
        have h8 : H[a]? = some (vp_cell cI (n, .inl g)) := hP 0 _ rfl
        show H[a]? = some (vp_cell cI (n, .inl (fun _ => v)))
        rw [h8, px_cell (fun j hj => hg j (by omega))]
      · refine lv_aload_n hx hb dJ7_fill_53178_10 rfl (lv_at hl 2 rfl) ?_
        refine lv_iload_n hx hb dJ7_fill_53178_11 rfl (lv_at hl 1 rfl) ?_
        refine lv_iload_n hx hb dJ7_fill_53178_12 rfl (lv_at hl 3 rfl) ?_
        refine px_iast (n := n) (i := i) (ws' := [(a, .inl (cI, n, .inl (upd g i v)))]) hx hb hK hP hD hS 0 0 rfl rfl h7 hn rfl dJ7_fill_53178_13 (fun H locs hP hD hS => ?_)
        refine lv_iinc (v := nI (i + 1)) (lv' := [(2, .int (nI (i + 1))), (3, .int (nI n)), (0, .ref a), (1, .int v)]) hx hb dJ7_fill_53178_14 hl (k := 1) rfl (px_inc1 _) (by decide) rfl (fun ls hl => ?_)
        refine lv_goto (tgt := 5) hx hb dJ7_fill_53178_17 (by decide) ?_
        exact ih (i + 1) _ H locs (by omega) (by omega) (fun j hj => by
          by_cases q : j = i
          · rw [q, pk_us]
          · rw [pk_un q]; exact hg j (by omega)) hP hD hS ls (lv_sub hl [1, 0, 2, 3] rfl)
  refine lv_iconst (v := nI 0) hx hb dJ7_fill_53178_0 (by decide +kernel) ?_
  refine lv_istore_n (lv' := [(2, .int (nI 0)), (0, .ref a), (1, .int v)]) hx hb dJ7_fill_53178_1 rfl hl (by decide) rfl (fun ls hl => ?_)
  refine lv_aload_n hx hb dJ7_fill_53178_2 rfl (lv_at hl 1 rfl) ?_
  refine va_alen (v := nI n) hx hb hK hP 0 0 rfl (ty := .int) rfl rfl dJ7_fill_53178_3 ?_
  refine lv_istore_n (lv' := [(3, .int (nI n)), (2, .int (nI 0)), (0, .ref a), (1, .int v)]) hx hb dJ7_fill_53178_4 rfl hl (by decide) rfl (fun ls hl => ?_)
  exact loop (n + 1) 0 f s.heap [] (by omega) (by omega) (fun j h => absurd h (by omega)) hP hD hS ls hl
set_option maxHeartbeats 4000000 in
set_option maxRecDepth 100000 in
theorem tJ7_fillL {l : Launch} {D : va_G} {cI cJ cZ : ClassId} {a n : Nat} {f : Nat → Int64} {v : Int64} (hn : n < 2 ^ 31) : WrV l yJ7_fill_d0a16 wsJ7_fill_d0a16 (rmd 0) D (tyq cI cJ cZ) [.ref a, .long v] [(a, .inl (cJ, n, .inr (.inl f)))] (fun _ : Unit => True) (fun _ => [(a, .inl (cJ, n, .inr (.inl (fun _ => v))))]) := by
  refine px_met (cc := cJ7_fill_d0a16) (maxL := 5) (ret := none) (lv := [(0, .ref a), (1, .long v)]) (by decide +kernel) rfl (Nat.le_of_ble_eq_true rfl) rfl ?_
  intro p e s m below meth c ls S hr hlk hnm hv hl
  obtain ⟨hx, hb, hml, hown, hts⟩ := id S
  obtain ⟨hP, hK, hD⟩ := hv
  have hS : va_S (px_B [(a, .inl (cJ, n, .inr (.inl f)))]) s.heap s.heap [] := va_S.rf
  generalize hA : px_B [(a, (.inl (cJ, n, .inr (.inl f)) : va_E))] = A at hD hS ⊢
  have loop : ∀ (k i : Nat) (g : Nat → Int64) (H : Heap) (locs : List Loc), n + 1 ≤ i + k → i ≤ n → (∀ j, j < i → g j = v) → va_P D vwCl [(a, .inl (cJ, n, .inr (.inl g)))] H → va_D A [(a, .inl (cJ, n, .inr (.inl g)))] → va_S A s.heap H locs → ∀ ls : Array Slot, lv_has ls 5 [(4, .int (nI n)), (3, .int (nI i)), (0, .ref a), (1, .long v)] → W p l e (rmd 0) s m ([.ref a, .long v] : List Value).toArray below meth c H locs 0 0 (MQ below (va_Qv (fun _ : Unit => True) (fun u t => va_P D vwCl ((fun _ => [(a, .inl (cJ, n, .inr (.inl (fun _ => v))))]) u) t.heap) A) ([.ref a, .long v] : List Value).toArray s 0 0 A) (F0 m 6 ls []) := by
    intro k
    induction k with
    | zero => intro i g H locs h1 h2; exact absurd h1 (by omega)
    | succ k ih =>
      intro i g H locs h1 h2 hg hP hD hS ls hl
      refine lv_iload_n hx hb dJ7_fill_d0a16_6 rfl (lv_at hl 1 rfl) ?_
      refine lv_iload hx hb dJ7_fill_d0a16_7 (lv_at hl 0 rfl) ?_
      refine px_ge (tgt := 22) hx hb dJ7_fill_d0a16_9 (by decide) (by omega) (by omega) (fun h7 => ?_) (fun h7 => ?_)
      · refine px_ev (wf := fun _ => [(a, .inl (cJ, n, .inr (.inl (fun _ => v))))]) hx hb hr hlk hS () trivial ?_ dJ7_fill_d0a16_22
        refine px_P1 ?_
        have h8 : H[a]? = some (vp_cell cJ (n, .inr (.inl g))) := hP 0 _ rfl
        show H[a]? = some (vp_cell cJ (n, .inr (.inl (fun _ => v))))
        rw [h8, px_cellL (fun j hj => hg j (by omega))]
      · refine lv_aload_n hx hb dJ7_fill_d0a16_12 rfl (lv_at hl 2 rfl) ?_
        refine lv_iload_n hx hb dJ7_fill_d0a16_13 rfl (lv_at hl 1 rfl) ?_
        refine lv_lload_n hx hb dJ7_fill_d0a16_14 rfl (lv_at hl 3 rfl) ?_
        refine px_last (n := n) (i := i) (ws' := [(a, .inl (cJ, n, .inr (.inl (vp_updL g i v))))]) hx hb hK hP hD hS 0 1 rfl rfl h7 hn rfl dJ7_fill_d0a16_15 (fun H locs hP hD hS => ?_)
        refine lv_iinc (v := nI (i + 1)) (lv' := [(3, .int (nI (i + 1))), (4, .int (nI n)), (0, .ref a), (1, .long v)]) hx hb dJ7_fill_d0a16_16 hl (k := 1) rfl (px_inc1 _) (by decide) rfl (fun ls hl => ?_)
        refine lv_goto (tgt := 6) hx hb dJ7_fill_d0a16_19 (by decide) ?_
        exact ih (i + 1) _ H locs (by omega) (by omega) (fun j hj => by
          by_cases q : j = i
          · rw [q, pk_uLs]
          · rw [pk_uLn q]; exact hg j (by omega)) hP hD hS ls (lv_sub hl [1, 0, 2, 3] rfl)
  refine lv_iconst (v := nI 0) hx hb dJ7_fill_d0a16_0 (by decide +kernel) ?_
  refine lv_istore_n (lv' := [(3, .int (nI 0)), (0, .ref a), (1, .long v)]) hx hb dJ7_fill_d0a16_1 rfl hl (by decide) rfl (fun ls hl => ?_)
  refine lv_aload_n hx hb dJ7_fill_d0a16_2 rfl (lv_at hl 1 rfl) ?_
  refine va_alen (v := nI n) hx hb hK hP 0 1 rfl (ty := .long) rfl rfl dJ7_fill_d0a16_3 ?_
  refine lv_istore (lv' := [(4, .int (nI n)), (3, .int (nI 0)), (0, .ref a), (1, .long v)]) hx hb dJ7_fill_d0a16_4 hl (by decide) rfl (fun ls hl => ?_)
  exact loop (n + 1) 0 f s.heap [] (by omega) (by omega) (fun j h => absurd h (by omega)) hP hD hS ls hl
