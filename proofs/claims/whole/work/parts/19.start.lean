theorem px_arr {args : Array Value} {s : State} {ty : FieldType} (h : (Cond.arrayClass ty).before args s = true) : ∃ cA : ClassId, ArrOfT s cA ty ∧ s.vm.findClass ("[" ++ ty.toString) = some cA := by
  obtain ⟨cA, kA, comp, h1, h2, h3⟩ := Cond.arrayClass_spec h
  exact ⟨cA, fun n z => ⟨fun k h => (by cases h), kA, h2, comp, h3⟩, h1⟩
theorem px_Pl {D : va_G} {cl : List vw_C} {a b : va_W} {H : Heap} (h : va_P D cl (a ++ b) H) : va_P D cl a H := fun k q hq => h k q (by rw [List.getElem?_append_left ((List.getElem?_eq_some_iff.mp hq).1)]; exact hq)
theorem px_Pr {D : va_G} {cl : List vw_C} {a b : va_W} {H : Heap} (h : va_P D cl (a ++ b) H) : va_P D cl b H := fun k q hq => h (a.length + k) q (by rw [List.getElem?_append_right (by omega)]; rw [show a.length + k - a.length = k by omega]; exact hq)
theorem px_Dl {A : Nat → Prop} {a b : va_W} (h : va_D A (a ++ b)) : va_D A a := by
  have at' : ∀ (k : Nat) (q : Nat × va_E), a[k]? = some q → (a ++ b)[k]? = some q := fun k q hq => by rw [List.getElem?_append_left ((List.getElem?_eq_some_iff.mp hq).1)]; exact hq
  exact ⟨fun i j x y hx hy e => h.1 i j x y (at' i x hx) (at' j y hy) e, fun k q hq => h.2 k q (at' k q hq)⟩
theorem px_Dr {A : Nat → Prop} {a b : va_W} (h : va_D A (a ++ b)) : va_D A b := by
  have at' : ∀ (k : Nat) (q : Nat × va_E), b[k]? = some q → (a ++ b)[a.length + k]? = some q := fun k q hq => by rw [List.getElem?_append_right (by omega), show a.length + k - a.length = k by omega]; exact hq
  exact ⟨fun i j x y hx hy e => by have := h.1 _ _ x y (at' i x hx) (at' j y hy) e; omega, fun k q hq => h.2 _ q (at' k q hq)⟩
theorem px_Dx {A : Nat → Prop} {a b : va_W} (h : va_D A (a ++ b)) {i j : Nat} {x y : Nat × va_E} (hx : a[i]? = some x) (hy : b[j]? = some y) : x.1 ≠ y.1 := fun e => by
  have hl := (List.getElem?_eq_some_iff.mp hx).1
  have := h.1 i (a.length + j) x y (by rw [List.getElem?_append_left hl]; exact hx) (by rw [List.getElem?_append_right (by omega), show a.length + j - a.length = j by omega]; exact hy) e
  omega
set_option maxHeartbeats 4000000 in
set_option maxRecDepth 100000 in
theorem whole_start {p : Program} {e : Env} {s : State} {m : MethodId} {below : List Frame} {meth : Method} {c : Code} (l : Launch) {b L : Nat} {xs : Nat → Int32} (hL : L ≤ 1536) (C0 : lw_At p s m meth c b L xs) : W p l e room_1 s m #[Value.ref b] below meth c s.heap [] 0 0 (lw_Z below #[Value.ref b] s) (entryFrame m ([Value.ref b] : List Value).toArray 4) := by
  obtain ⟨hx, hb, hr, hml, hown, hts, hX, hbl, hlocks, hgv⟩ := id C0
  have hown : s.vm.findClass RL = some m.cls := hown
  have hts : ∀ w ∈ wsL_law, w.before #[Value.ref b] s = true := fun w h => hts w (wsL_law_in w h)
  have hb : c.code = cL_law := hb
  have S : CallFix p m c cL_law 4 s #[Value.ref b] wsL_law RL := ⟨hx, hb, hml, hown, hts⟩
  have hA : ∀ q : Nat, s.heap.size ≤ q → (fun q : Nat => s.heap.size ≤ q) q := fun _ h => h
  obtain ⟨c0, iS0, hKn0⟩ := u_known (C := RX0) (T := TX0) (N := 11) (n := 11) hts inlX0 (hts (.instantiable RX0 11) (by decide +kernel))
  obtain ⟨c1, iS1, hKn1⟩ := u_known (C := RX1) (T := TX1) (N := 9) (n := 9) hts inlX1 (hts (.instantiable RX1 9) (by decide +kernel))
  obtain ⟨D, hKc⟩ : ∃ D : va_G, ∀ (k : Nat) (q : vw_C), vwCl[k]? = some q → u_Kn s q.1 q.2.1 q.2.2 (D.1 k) (D.2 k) := by
    refine ⟨(fun k => if k = 0 then c0 else c1, fun k => if k = 0 then iS0 else iS1), ?_⟩
    intro k q hq
    match k, hq with
    | 0, hq => cases hq; exact hKn0
    | 1, hq => cases hq; exact hKn1
    | k + 2, hq => simp [vwCl] at hq
  obtain ⟨cI, hI1, hI2⟩ := px_arr (hts (.arrayClass .int) (by decide +kernel))
  obtain ⟨cJ, hJ1, hJ2⟩ := px_arr (hts (.arrayClass .long) (by decide +kernel))
  obtain ⟨cZ, hZ1, hZ2⟩ := px_arr (hts (.arrayClass .boolean) (by decide +kernel))
  have hK : va_K D vwCl (tyq cI cJ cZ) s := by
    refine ⟨hKc, fun k q h => ?_⟩
    match k, h with
    | 0, h => cases h; exact ⟨hI1, hI2⟩
    | 1, h => cases h; exact ⟨hJ1, hJ2⟩
    | 2, h => cases h; exact ⟨hZ1, hZ2⟩
    | k + 3, h => simp at h
  have hS : va_S (fun q : Nat => s.heap.size ≤ q) s.heap s.heap [] := va_S.rf
  have hP : va_P D vwCl [] s.heap := fun k q h => by simp at h
  have hD : va_D (fun q : Nat => s.heap.size ≤ q) [] := ⟨fun i j p q h => by simp at h, fun k q h => by simp at h⟩
  have hl := lv_entry ([.ref b]) (n := 4) (Nat.le_of_ble_eq_true rfl)
  rw [lg_entry_eq]
  generalize (lg_sl ([.ref b]) ++ List.replicate (4 - (lg_sl ([.ref b])).length) Slot.unset).toArray = ls at hl ⊢
  have hl : lv_has ls 4 [(0, .ref b)] := hl
  refine va_new (ci := 0) (fs := [.int 0, .int 0, .int 0, .null, .null, .null, .null, .null, .null, .null, .null]) (C := RX0) (T := TX0) (N := 11) hx hb hts inlX0 tyX0 tyX0_ok hown (hts (.classLink RL 7 RX0) (by decide +kernel)) (hts (.instantiable RX0 11) (by decide +kernel)) (hts (.initialized RX0) (by decide +kernel)) hK hP hD hS hA rfl (fun j hj => by rcases (show j = 0 ∨ j = 1 ∨ j = 2 ∨ j = 3 ∨ j = 4 ∨ j = 5 ∨ j = 6 ∨ j = 7 ∨ j = 8 ∨ j = 9 ∨ j = 10 by omega) with rfl | rfl | rfl | rfl | rfl | rfl | rfl | rfl | rfl | rfl | rfl <;> rfl) (by decide +kernel) (by decide +kernel) dL_law_0 (fun q0 H hP hD hS => ?_)
  have hP : va_P D vwCl [(q0, .inr (0, [.int 0, .int 0, .int 0, .null, .null, .null, .null, .null, .null, .null, .null]))] H := hP
  have hD : va_D (fun q : Nat => s.heap.size ≤ q) [(q0, .inr (0, [.int 0, .int 0, .int 0, .null, .null, .null, .null, .null, .null, .null, .null]))] := hD
  refine lv_dup hx hb dL_law_3 rfl ?_
  have hFc := va_free (wc := [(q0, .inr (0, [.int 0, .int 0, .int 0, .null, .null, .null, .null, .null, .null, .null, .null]))]) hD hS hA [0] rfl
  refine va_callv (va_runI (As := []) (rest := [.ref q0]) S (tX0_init l D cI cJ cZ q0 H.size) (cwI 0 hts gL_law_X0_init rfl rfl rfl (hts (.initialized RX0) (by decide +kernel)) (hts (.methodLink RL 9 yX0_init) (by decide +kernel)) (hts (.instanceMethod yX0_init) (by decide +kernel)) rfl (by decide +kernel) ⟨by decide +kernel, by decide +kernel⟩) ⟨fun a U g mk q => by obtain ⟨q0, q1, qP, qK, qD⟩ := q; exact ⟨q0, q1, qP, va_K.moved (u := U) (U := U.calling g mk a) (Vm.Alike.refl U.vm) qK, qD⟩, fun U hU hW => ⟨rfl, by rw [hU], by rw [hU]; exact hP, va_K.moved hW.alike hK, hD.weaken (fun _ _ _ _ => trivial)⟩⟩ rfl rfl hl.1 rfl (lv_room (Nat.le_of_ble_eq_true rfl)) dL_law_4 ⟨by decide +kernel, by decide +kernel⟩) hS (fun q _ h => hFc q h) hFc (fun ad t H1 locs ht hvm hw hB hz1 hk1 hS => ?_)
  obtain ⟨hP0, hDx⟩ := hB
  rw [ht] at hP0
  have hD0 : va_D (fun q : Nat => s.heap.size ≤ q) (w0 cI cJ cZ ad (nI 1) (nI 1) (px_b false) (fun _ => 0) (fun _ => nI 0) (fun _ => nI 0) (fun _ => -1) (fun _ => 0) (fun _ => 0) (fun _ => 0) (fun _ => 0)) := hDx.weaken (fun _ q _ h => hFc q.1 h)
  clear hDx hD hP
  have hw : ad 0 = q0 := hw
  subst hw
  refine W.widen (k := 9) (n := 2211) (by decide +kernel) (by decide +kernel) ?_
  refine lv_astore_n (lv' := [(1, .ref (ad 0)), (0, .ref b)]) hx hb dL_law_7 rfl hl (by decide) rfl (fun ls hl => ?_)
  refine va_new (ci := 1) (fs := [.null, .null, .null, .null, .null, .null, .int 0, .int 0, .int 0]) (C := RX1) (T := TX1) (N := 9) hx hb hts inlX1 tyX1 tyX1_ok hown (hts (.classLink RL 10 RX1) (by decide +kernel)) (hts (.instantiable RX1 9) (by decide +kernel)) (hts (.initialized RX1) (by decide +kernel)) hK hP0 hD0 hS hA rfl (fun j hj => by rcases (show j = 0 ∨ j = 1 ∨ j = 2 ∨ j = 3 ∨ j = 4 ∨ j = 5 ∨ j = 6 ∨ j = 7 ∨ j = 8 by omega) with rfl | rfl | rfl | rfl | rfl | rfl | rfl | rfl | rfl <;> rfl) (by decide +kernel) (by decide +kernel) dL_law_8 (fun q1 H2 hP hD hS => ?_)
  have hP0 := px_Pl hP
  have hD0 := px_Dl hD
  have hPq : va_P D vwCl [(q1, .inr (1, [.null, .null, .null, .null, .null, .null, .int 0, .int 0, .int 0]))] H2 := px_Pr hP
  have hDq : va_D (fun q : Nat => s.heap.size ≤ q) [(q1, .inr (1, [.null, .null, .null, .null, .null, .null, .int 0, .int 0, .int 0]))] := px_Dr hD
  have hx1 : ∀ i, i < 9 → ad i ≠ q1 := fun i hi => by
    have hlt : i < (w0 cI cJ cZ ad (nI 1) (nI 1) (px_b false) (fun _ => 0) (fun _ => nI 0) (fun _ => nI 0) (fun _ => -1) (fun _ => 0) (fun _ => 0) (fun _ => 0) (fun _ => 0)).length := hi
    have hg := List.getElem?_eq_getElem hlt
    obtain ⟨-, e1⟩ := px_adr0 hg
    rw [← e1]
    exact px_Dx hD (j := 0) hg rfl
  have hlt : ∀ i, i < 9 → ad i < H2.size := fun i hi => by
    have hlt : i < (w0 cI cJ cZ ad (nI 1) (nI 1) (px_b false) (fun _ => 0) (fun _ => nI 0) (fun _ => nI 0) (fun _ => -1) (fun _ => 0) (fun _ => 0) (fun _ => 0) (fun _ => 0)).length := hi
    have hg := List.getElem?_eq_getElem hlt
    obtain ⟨-, e1⟩ := px_adr0 hg
    rw [← e1]
    exact (hP0 i _ hg).lt
  refine lv_dup hx hb dL_law_11 rfl ?_
  have hFc := va_free (wc := [(q1, .inr (1, [.null, .null, .null, .null, .null, .null, .int 0, .int 0, .int 0]))]) hDq hS hA [0] rfl
  refine va_callv (va_runI (As := []) (rest := [.ref q1]) S (tX1_init l D cI cJ cZ q1 H2.size) (cwI 0 hts gL_law_X1_init rfl rfl rfl (hts (.initialized RX1) (by decide +kernel)) (hts (.methodLink RL 12 yX1_init) (by decide +kernel)) (hts (.instanceMethod yX1_init) (by decide +kernel)) rfl (by decide +kernel) ⟨by decide +kernel, by decide +kernel⟩) ⟨fun a U g mk q => by obtain ⟨q0, q1, qP, qK, qD⟩ := q; exact ⟨q0, q1, qP, va_K.moved (u := U) (U := U.calling g mk a) (Vm.Alike.refl U.vm) qK, qD⟩, fun U hU hW => ⟨rfl, by rw [hU], by rw [hU]; exact hPq, va_K.moved hW.alike hK, hDq.weaken (fun _ _ _ _ => trivial)⟩⟩ rfl rfl hl.1 rfl (lv_room (Nat.le_of_ble_eq_true rfl)) dL_law_12 ⟨by decide +kernel, by decide +kernel⟩) hS (fun q _ h => hFc q h) hFc (fun bd t H3 locs ht hvm hw hB hz1 hk1 hS => ?_)
  obtain ⟨hP1, hD2⟩ := hB
  rw [ht] at hP1
  have hD1 : va_D (fun q : Nat => s.heap.size ≤ q) (w1 cI cZ bd (nI 1) (nI 1) (px_b false) (fun _ => px_b false) (fun _ => nI 0) (fun a => nI a) (fun _ => 0) (fun _ => 0) (fun _ => 0)) := hD2.weaken (fun _ q _ h => hFc q.1 h)
  have hw : bd 0 = q1 := hw
  have hout : ∀ i, i < 9 → ¬ va_A [(q1, .inr (1, [.null, .null, .null, .null, .null, .null, .int 0, .int 0, .int 0]))] H2.size (ad i) := fun i hi h => by
    rcases h with ⟨k, e2, h⟩ | h
    · match k, h with
      | 0, h =>
        have : q1 = ad i := by cases h; rfl
        exact hx1 i hi this.symm
      | k + 1, h => simp at h
    · exact absurd (hlt i hi) (by omega)
  have hne : ∀ i j, i < 9 → j < 7 → ad i ≠ bd j := fun i j hi hj q => by
    have hl7 : j < (w1 cI cZ bd (nI 1) (nI 1) (px_b false) (fun _ => px_b false) (fun _ => nI 0) (fun a => nI a) (fun _ => 0) (fun _ => 0) (fun _ => 0)).length := hj
    have hg := List.getElem?_eq_getElem hl7
    obtain ⟨-, e1⟩ := px_adr1 hg
    exact hout i hi (by rw [q, ← e1]; exact hD2.2 j _ hg)
  have hP0 : va_P D vwCl (w0 cI cJ cZ ad (nI 1) (nI 1) (px_b false) (fun _ => 0) (fun _ => nI 0) (fun _ => nI 0) (fun _ => -1) (fun _ => 0) (fun _ => 0) (fun _ => 0) (fun _ => 0)) H3 := hP0.kept (fun k q hq => by
    obtain ⟨h9, e1⟩ := px_adr0 hq
    rw [e1]
    exact hk1 (ad k) (hlt k h9) (hout k h9))
  subst hw
  refine W.widen (k := 16) (n := 43220) (by decide +kernel) (by decide +kernel) ?_
  refine lv_astore_n (lv' := [(2, .ref (bd 0)), (1, .ref (ad 0)), (0, .ref b)]) hx hb dL_law_15 rfl hl (by decide) rfl (fun ls hl => ?_)
  refine lv_iconst (v := nI 0) hx hb dL_law_16 (by decide +kernel) ?_
  refine lv_istore_n (lv' := [(3, .int (nI 0)), (2, .ref (bd 0)), (1, .ref (ad 0)), (0, .ref b)]) hx hb dL_law_17 rfl hl (by decide) rfl (fun ls hl => ?_)
  exact law_loop hL C0 hne hK (L + 1) 0 (by omega) (by omega) (pm_R_begin (i := 1) (j := 1) (by decide) (by decide) (by decide) (by decide) (fun _ => 0) (fun _ => 0) (fun _ => 0) (fun _ => 0)) hP0 hP1 hD0 hD1 hS ls hl
