-- ===== end of PART A; then your names; then what follows =====
/-! THE CLAIM OUT OF ONE WALK OF THE LAW'S BODY. Your part is whole_start (and what it stands on); all else here is the same for every law, but numbers. -/
def R_law : String := "PointColoursLaw"
def lw_P (b : Addr) (xs : List Int32) (args : Array Value) (s : State) : Prop := args = #[.ref b] ∧ s.IntsAt b xs ∧ xs.length ≤ 1536 ∧ (Jvm.Cond.and given_1 narrow_1).before args s = true
def lw_Q (_ : Array Value) (s : State) (o : Outcome) (t : State) : Prop := o = .returned (some (.int 1)) ∧ Framed s o t [] 600000 7302250
def lw_Z (below : List Frame) (a : Array Value) (s : State) : State → Prop := fun t => ∃ o, t.status = .running ∧ Ended t below o ∧ lw_Q a s o t
/-- the law's own end, with 1 on the stack, nothing written that was there before, its room as the claim has it -/
theorem lw_ret {p : Program} {l : Launch} {e : Env} {s : State} {m : MethodId} {below : List Frame} {meth : Method} {c : Code} {b : Nat} (hx : p.tables.exec = Jvm.exec) (hb : c.code = code) (hr : meth.sig.returnType = ret) (hlocks : meth.locks = false) {pc : Nat} {H : Heap} {ls : Array Slot} (hdg : decode code pc = .ok (.ireturn, 1)) : W p l e room_1 s m #[Value.ref b] below meth c H [] 600000 7302250 (lw_Z below #[Value.ref b] s) (F0 m pc ls [.int 1]) := by
  intro T hT X
  obtain ⟨fs, hret, hrun, hended, hW, hframe⟩ := X.leave (v := some (.int 1)) (hlocks := hlocks) (fun h => by rw [hr] at h; cases h)
  have hmeth' : T.vm.method? m = some meth := X.method'
  refine ⟨T.setFrames fs, ?_, .returned (some (.int 1)), hrun, hended, rfl, ⟨_, rfl⟩, hW, hframe⟩
  jvm_step X.here [X.here.top, hx, hb, hdg, hmeth', hr, ret, narrow_b1]
  (try refine ⟨rfl, ?_⟩); (try refine ⟨rfl, ?_⟩)
  first | (intro acts; rw [hret _ acts rfl rfl rfl]) | rw [hret _ _ rfl rfl rfl]
  exact Steps.refl _
/-- what holds at the law's entry: the machine, the code, the tables' words (any of lw_tbl by 'hts w (by decide +kernel)'), the script of L ints xs at the cell b, what the Statement gives of the start (any of its parts by flat_of_before) -/
def lw_At (p : Program) (s : State) (m : MethodId) (meth : Method) (c : Code) (b L : Nat) (xs : Nat → Int32) : Prop :=
  p.tables.exec = Jvm.exec ∧ c.code = code ∧ meth.sig.returnType = ret ∧ c.maxLocals = 4 ∧ s.vm.findClass R_law = some m.cls ∧ (∀ w ∈ lw_tbl, w.before #[Value.ref b] s = true) ∧ va_X b L xs s s.heap ∧ b < s.heap.size ∧ meth.locks = false ∧ (Jvm.Cond.and given_1 narrow_1).before #[Value.ref b] s = true
section PL
variable {p : Program} {l : Launch} {e : Env} {R : Room} {s : State} {m : MethodId} {args : Array Value} {below : List Frame} {meth : Method} {c : Code} {H : Heap} {locs : List Loc} {cells slots : Nat} {Q : State → Prop}
variable {cc : ByteArray} {pc : Nat} {ls : Array Slot} {rest : List Value} {A : Nat → Prop} {H0 : Heap}
theorem px_sld (hx : p.tables.exec = Jvm.exec) (hb : c.code = cc) {b L i : Nat} {xs : Nat → Int32} (hX : va_X b L xs s H0) (hbl : b < H0.size) (hbA : ¬ A b) (hS : va_S A H0 H locs) (hi : i < L) (hn : L < 2 ^ 31) (hdg : decode cc pc = .ok (.iaload, 1))
    (kk : W p l e R s m args below meth c H locs cells slots Q (F0 m (pc + 1) ls (.int (xs i) :: rest))) : W p l e R s m args below meth c H locs cells slots Q (F0 m pc ls (.int (nI i) :: .ref b :: rest)) :=
  va_sld hx hb hX hbl hbA hS (vp_in_nI hi hn) hdg (by rw [nI_clamp (Nat.lt_trans hi hn)]; exact kk)
end PL
theorem pm_jn_of {n : Nat} {J : Nat → Nat → Bool} {a b : Int32} (hn : n < 2 ^ 31) (h : pm_jn n J a b = true) : ∃ x y : Nat, a = nI x ∧ b = nI y ∧ x < n ∧ y < n ∧ x ≠ y ∧ J x y = false := by
  simp [pm_jn] at h
  obtain ⟨⟨⟨h1, h2⟩, h3⟩, h4⟩ := h
  obtain ⟨x, hx, rfl⟩ := pm_pt_of hn h1
  obtain ⟨y, hy, rfl⟩ := pm_pt_of hn h2
  rw [nI_clamp (by omega), nI_clamp (by omega)] at h4
  exact ⟨x, y, rfl, rfl, hx, hy, fun q => h3 (by rw [q]), h4⟩
set_option maxHeartbeats 4000000 in
set_option maxRecDepth 100000 in
theorem law_loop {p : Program} {l : Launch} {e : Env} {s : State} {m : MethodId} {below : List Frame} {meth : Method} {c : Code} {D : va_G} {cI cJ cZ : ClassId} {b L : Nat} {xs : Nat → Int32} {ad bd : Nat → Nat} (hL : L ≤ 1536) (C0 : lw_At p s m meth c b L xs) (hne : ∀ i j, i < 9 → j < 7 → ad i ≠ bd j) (hK : va_K D vwCl (tyq cI cJ cZ) s) : ∀ (f i : Nat), L + 1 ≤ i + f → i ≤ L → ∀ {n k : Nat} {g : Bool} {J : Nat → Nat → Bool} {cst ws : Nat → Nat} {E : Nat → Int64} {G C Wi O IO NI CF PA C1 Wi1 CO RW IN : Nat → Int32} {H : Heap} {locs : List Loc}, pm_R n k g J cst ws E G C Wi O CF PA C1 Wi1 CO RW → va_P D vwCl (w0 cI cJ cZ ad (nI n) (nI k) (px_b g) E G C Wi O IO NI CF) H → va_P D vwCl (w1 cI cZ bd (nI n) (nI k) (px_b g) PA C1 Wi1 CO RW IN) H → va_D (fun q : Nat => s.heap.size ≤ q) (w0 cI cJ cZ ad (nI n) (nI k) (px_b g) E G C Wi O IO NI CF) → va_D (fun q : Nat => s.heap.size ≤ q) (w1 cI cZ bd (nI n) (nI k) (px_b g) PA C1 Wi1 CO RW IN) → va_S (fun q : Nat => s.heap.size ≤ q) s.heap H locs → ∀ ls : Array Slot, lv_has ls 4 [(3, .int (nI i)), (2, .ref (bd 0)), (1, .ref (ad 0)), (0, .ref b)] → W p l e room_1 s m #[Value.ref b] below meth c H locs 16 43220 (lw_Z below #[Value.ref b] s) (F0 m 18 ls []) := by
  obtain ⟨hx, hb, hr, hml, hown, hts, hX, hbl, hlocks, hgv⟩ := C0
  have hbA : ¬ (fun q : Nat => s.heap.size ≤ q) b := Nat.not_le.mpr hbl
  have hown : s.vm.findClass RL = some m.cls := hown
  have hts : ∀ w ∈ wsL_law, w.before #[Value.ref b] s = true := fun w h => hts w (wsL_law_in w h)
  have hb : c.code = cL_law := hb
  have S : CallFix p m c cL_law 4 s #[Value.ref b] wsL_law RL := ⟨hx, hb, hml, hown, hts⟩
  intro f
  induction f with
  | zero => intro i h1 h2; exact absurd h1 (by omega)
  | succ f ih =>
    intro i h1 h2 n k g J cst ws E G C Wi O IO NI CF PA C1 Wi1 CO RW IN H locs hR hP0 hP1 hD0 hD1 hS ls hl
    refine lv_iload_n hx hb dL_law_18 rfl (lv_at hl 0 rfl) ?_
    refine lv_aload_n hx hb dL_law_19 rfl (lv_at hl 3 rfl) ?_
    refine va_slen hx hb hX hbl hbA hS dL_law_20 ?_
    refine px_top (y := nI L) rfl ?_
    refine lv_iconst (v := nI 3) hx hb dL_law_21 (by decide +kernel) ?_
    refine lv_isub hx hb dL_law_22 ?_
    refine lv_icmp_gt (tgt := 354) hx hb dL_law_23 (by decide) (fun h23 => ?_) (fun h23 => ?_)
    · refine lv_iconst (v := 1) hx hb dL_law_354 (by decide +kernel) ?_
      refine va_forget (fun q hq => hS.2.2 q hq) ?_
      refine W.widen (k := 600000) (n := 7302250) (by decide +kernel) (by decide +kernel) ?_
      exact lw_ret hx hb hr hlocks dL_law_355
    rw [pm_head (by omega) (by omega)] at h23
    have cont : ∀ {n k : Nat} {g : Bool} {J : Nat → Nat → Bool} {cst ws : Nat → Nat} {E : Nat → Int64} {G C Wi O IO NI CF PA C1 Wi1 CO RW IN : Nat → Int32} {H : Heap} {locs : List Loc}, pm_R n k g J cst ws E G C Wi O CF PA C1 Wi1 CO RW → va_P D vwCl (w0 cI cJ cZ ad (nI n) (nI k) (px_b g) E G C Wi O IO NI CF) H → va_P D vwCl (w1 cI cZ bd (nI n) (nI k) (px_b g) PA C1 Wi1 CO RW IN) H → va_D (fun q : Nat => s.heap.size ≤ q) (w0 cI cJ cZ ad (nI n) (nI k) (px_b g) E G C Wi O IO NI CF) → va_D (fun q : Nat => s.heap.size ≤ q) (w1 cI cZ bd (nI n) (nI k) (px_b g) PA C1 Wi1 CO RW IN) → va_S (fun q : Nat => s.heap.size ≤ q) s.heap H locs → ∀ ls : Array Slot, lv_has ls 4 [(3, .int (nI i)), (2, .ref (bd 0)), (1, .ref (ad 0)), (0, .ref b)] → W p l e room_1 s m #[Value.ref b] below meth c H locs 16 43220 (lw_Z below #[Value.ref b] s) (F0 m 348 ls []) := by
      intro n k g J cst ws E G C Wi O IO NI CF PA C1 Wi1 CO RW IN H locs hR hP0 hP1 hD0 hD1 hS ls hl
      refine lv_iinc (v := nI (i + 3)) (lv' := [(3, .int (nI (i + 3))), (2, .ref (bd 0)), (1, .ref (ad 0)), (0, .ref b)]) hx hb dL_law_348 hl (k := 0) rfl (px_inc3 _) (by decide) rfl (fun ls hl => ?_)
      refine lv_goto (tgt := 18) hx hb dL_law_351 (by decide) ?_
      exact ih (i + 3) (by omega) (by omega) hR hP0 hP1 hD0 hD1 hS ls hl
    obtain ⟨⟨rn1, rn2, rk1, rk2⟩, r2, r3, r4, r5, r6, r7, r8, r9, r10, r11, r12⟩ := id hR
    refine lv_aload_n hx hb dL_law_26 rfl (lv_at hl 3 rfl) ?_
    refine lv_iload_n hx hb dL_law_27 rfl (lv_at hl 0 rfl) ?_
    refine px_sld hx hb hX hbl hbA hS (by omega) (by omega) dL_law_28 ?_
    refine lv_bipush (v := 15) hx hb dL_law_29 (by decide +kernel) ?_
    refine lv_iand hx hb dL_law_31 ?_
    obtain ⟨j, hj, ej⟩ := pk_andE (xs i) (m := 15) 4 (by decide +kernel)
    refine px_top (y := nI j) ej ?_
    rcases (show j = 0 ∨ j = 1 ∨ j = 2 ∨ j = 3 ∨ j = 4 ∨ j = 5 ∨ j = 6 ∨ j = 7 ∨ j = 8 ∨ j = 9 ∨ 10 ≤ j by omega) with rfl | rfl | rfl | rfl | rfl | rfl | rfl | rfl | rfl | rfl | hj10
    · refine lv_tableIn (tgt := 88) (off := 56) hx hb dL_law_32 (by decide +kernel) (by decide +kernel) (by decide +kernel) (by decide +kernel) ?_
      cases hq : pm_bg (xs (i + 1)) (xs (i + 2)) with
      | false =>
        refine lv_aload_n hx hb dL_law_88 rfl (lv_at hl 2 rfl) ?_
        refine lv_aload_n hx hb dL_law_89 rfl (lv_at hl 3 rfl) ?_
        refine lv_iload_n hx hb dL_law_90 rfl (lv_at hl 0 rfl) ?_
        refine lv_iconst (v := nI 1) hx hb dL_law_91 (by decide +kernel) ?_
        refine px_add hx hb dL_law_92 ?_
        refine px_sld (i := i + 1) hx hb hX hbl hbA hS (by omega) (by omega) dL_law_93 ?_
        refine lv_aload_n hx hb dL_law_94 rfl (lv_at hl 3 rfl) ?_
        refine lv_iload_n hx hb dL_law_95 rfl (lv_at hl 0 rfl) ?_
        refine lv_iconst (v := nI 2) hx hb dL_law_96 (by decide +kernel) ?_
        refine px_add hx hb dL_law_97 ?_
        refine px_sld (i := i + 2) hx hb hX hbl hbA hS (by omega) (by omega) dL_law_98 ?_
        refine px_rd (ci := 0) (q := (RX0, TX0, 11)) (v := px_b false) (rest := []) S hP0 hK (tX0_begin_no hq) (cwV 2 hts gL_law_X0_begin rfl rfl rfl (by decide +kernel) ⟨by decide +kernel, by decide +kernel⟩) rfl rfl rfl hl.1 rfl (Nat.le_of_ble_eq_true rfl) dL_law_99 ⟨by decide +kernel, by decide +kernel⟩ ?_
        refine lv_aload_n hx hb dL_law_102 rfl (lv_at hl 1 rfl) ?_
        refine lv_aload_n hx hb dL_law_103 rfl (lv_at hl 3 rfl) ?_
        refine lv_iload_n hx hb dL_law_104 rfl (lv_at hl 0 rfl) ?_
        refine lv_iconst (v := nI 1) hx hb dL_law_105 (by decide +kernel) ?_
        refine px_add hx hb dL_law_106 ?_
        refine px_sld (i := i + 1) hx hb hX hbl hbA hS (by omega) (by omega) dL_law_107 ?_
        refine lv_aload_n hx hb dL_law_108 rfl (lv_at hl 3 rfl) ?_
        refine lv_iload_n hx hb dL_law_109 rfl (lv_at hl 0 rfl) ?_
        refine lv_iconst (v := nI 2) hx hb dL_law_110 (by decide +kernel) ?_
        refine px_add hx hb dL_law_111 ?_
        refine px_sld (i := i + 2) hx hb hX hbl hbA hS (by omega) (by omega) dL_law_112 ?_
        refine px_rd (ci := 1) (q := (RX1, TX1, 9)) (v := px_b false) (rest := [.int (px_b false)]) S hP1 hK (tX1_begin_no hq) (cwV 2 hts gL_law_X1_begin rfl rfl rfl (by decide +kernel) ⟨by decide +kernel, by decide +kernel⟩) rfl rfl rfl hl.1 rfl (Nat.le_of_ble_eq_true rfl) dL_law_113 ⟨by decide +kernel, by decide +kernel⟩ ?_
        refine lv_icmp_eq (tgt := 348) hx hb dL_law_116 (by decide) (fun hq9 => ?_) (fun hq9 => ?_)
        · exact cont hR hP0 hP1 hD0 hD1 hS ls hl
        · exact absurd (rfl) hq9
      | true =>
        obtain ⟨x, y, e1, e2, g1, g2, g3, g4⟩ := pm_bg_of hq
        refine lv_aload_n hx hb dL_law_88 rfl (lv_at hl 2 rfl) ?_
        refine lv_aload_n hx hb dL_law_89 rfl (lv_at hl 3 rfl) ?_
        refine lv_iload_n hx hb dL_law_90 rfl (lv_at hl 0 rfl) ?_
        refine lv_iconst (v := nI 1) hx hb dL_law_91 (by decide +kernel) ?_
        refine px_add hx hb dL_law_92 ?_
        refine px_sld (i := i + 1) hx hb hX hbl hbA hS (by omega) (by omega) dL_law_93 ?_
        refine px_top (y := nI x) e1 ?_
        refine lv_aload_n hx hb dL_law_94 rfl (lv_at hl 3 rfl) ?_
        refine lv_iload_n hx hb dL_law_95 rfl (lv_at hl 0 rfl) ?_
        refine lv_iconst (v := nI 2) hx hb dL_law_96 (by decide +kernel) ?_
        refine px_add hx hb dL_law_97 ?_
        refine px_sld (i := i + 2) hx hb hX hbl hbA hS (by omega) (by omega) dL_law_98 ?_
        refine px_top (y := nI y) e2 ?_
        refine px_wi (ci := 0) (q := (RX0, TX0, 11)) (rest := []) S hP0 hK hD0 hS (tX0_begin_ok g1 g2 g3 g4) (fun _ => w0_same) (cwV 2 hts gL_law_X0_begin rfl rfl rfl (by decide +kernel) ⟨by decide +kernel, by decide +kernel⟩) rfl rfl rfl hl.1 rfl (Nat.le_of_ble_eq_true rfl) dL_law_99 ⟨by decide +kernel, by decide +kernel⟩ (fun r0 u0 H locs hr0 hP0 hD0 hS hk => ?_)
        have hP1 := px_other (A := fun _ => True) hP1 (px_sep01 hne) hk
        refine lv_aload_n hx hb dL_law_102 rfl (lv_at hl 1 rfl) ?_
        refine lv_aload_n hx hb dL_law_103 rfl (lv_at hl 3 rfl) ?_
        refine lv_iload_n hx hb dL_law_104 rfl (lv_at hl 0 rfl) ?_
        refine lv_iconst (v := nI 1) hx hb dL_law_105 (by decide +kernel) ?_
        refine px_add hx hb dL_law_106 ?_
        refine px_sld (i := i + 1) hx hb hX hbl hbA hS (by omega) (by omega) dL_law_107 ?_
        refine px_top (y := nI x) e1 ?_
        refine lv_aload_n hx hb dL_law_108 rfl (lv_at hl 3 rfl) ?_
        refine lv_iload_n hx hb dL_law_109 rfl (lv_at hl 0 rfl) ?_
        refine lv_iconst (v := nI 2) hx hb dL_law_110 (by decide +kernel) ?_
        refine px_add hx hb dL_law_111 ?_
        refine px_sld (i := i + 2) hx hb hX hbl hbA hS (by omega) (by omega) dL_law_112 ?_
        refine px_top (y := nI y) e2 ?_
        refine px_wi (ci := 1) (q := (RX1, TX1, 9)) (rest := [.int r0]) S hP1 hK hD1 hS (tX1_begin_ok g1 g2 g3 g4) (fun _ => w1_same) (cwV 2 hts gL_law_X1_begin rfl rfl rfl (by decide +kernel) ⟨by decide +kernel, by decide +kernel⟩) rfl rfl rfl hl.1 rfl (Nat.le_of_ble_eq_true rfl) dL_law_113 ⟨by decide +kernel, by decide +kernel⟩ (fun r1 u1 H locs hr1 hP1 hD1 hS hk => ?_)
        have hP0 := px_other (A := fun _ => True) hP0 (px_sep10 hne) hk
        refine lv_icmp_eq (tgt := 348) hx hb dL_law_116 (by decide) (fun hq9 => ?_) (fun hq9 => ?_)
        · exact cont (pm_R_begin g1 g2 g3 g4 O CF CO RW) hP0 hP1 hD0 hD1 hS ls hl
        · exact absurd (hr0.trans hr1.symm) hq9
    · refine lv_tableIn (tgt := 121) (off := 89) hx hb dL_law_32 (by decide +kernel) (by decide +kernel) (by decide +kernel) (by decide +kernel) ?_
      cases hq : pm_jn n J (xs (i + 1)) (xs (i + 2)) with
      | false =>
        refine lv_aload_n hx hb dL_law_121 rfl (lv_at hl 2 rfl) ?_
        refine lv_aload_n hx hb dL_law_122 rfl (lv_at hl 3 rfl) ?_
        refine lv_iload_n hx hb dL_law_123 rfl (lv_at hl 0 rfl) ?_
        refine lv_iconst (v := nI 1) hx hb dL_law_124 (by decide +kernel) ?_
        refine px_add hx hb dL_law_125 ?_
        refine px_sld (i := i + 1) hx hb hX hbl hbA hS (by omega) (by omega) dL_law_126 ?_
        refine lv_aload_n hx hb dL_law_127 rfl (lv_at hl 3 rfl) ?_
        refine lv_iload_n hx hb dL_law_128 rfl (lv_at hl 0 rfl) ?_
        refine lv_iconst (v := nI 2) hx hb dL_law_129 (by decide +kernel) ?_
        refine px_add hx hb dL_law_130 ?_
        refine px_sld (i := i + 2) hx hb hX hbl hbA hS (by omega) (by omega) dL_law_131 ?_
        refine px_rd (ci := 0) (q := (RX0, TX0, 11)) (v := px_b false) (rest := []) S hP0 hK (tX0_join_no J r3 rn2 hq) (cwV 2 hts gL_law_X0_join rfl rfl rfl (by decide +kernel) ⟨by decide +kernel, by decide +kernel⟩) rfl rfl rfl hl.1 rfl (Nat.le_of_ble_eq_true rfl) dL_law_132 ⟨by decide +kernel, by decide +kernel⟩ ?_
        refine lv_aload_n hx hb dL_law_135 rfl (lv_at hl 1 rfl) ?_
        refine lv_aload_n hx hb dL_law_136 rfl (lv_at hl 3 rfl) ?_
        refine lv_iload_n hx hb dL_law_137 rfl (lv_at hl 0 rfl) ?_
        refine lv_iconst (v := nI 1) hx hb dL_law_138 (by decide +kernel) ?_
        refine px_add hx hb dL_law_139 ?_
        refine px_sld (i := i + 1) hx hb hX hbl hbA hS (by omega) (by omega) dL_law_140 ?_
        refine lv_aload_n hx hb dL_law_141 rfl (lv_at hl 3 rfl) ?_
        refine lv_iload_n hx hb dL_law_142 rfl (lv_at hl 0 rfl) ?_
        refine lv_iconst (v := nI 2) hx hb dL_law_143 (by decide +kernel) ?_
        refine px_add hx hb dL_law_144 ?_
        refine px_sld (i := i + 2) hx hb hX hbl hbA hS (by omega) (by omega) dL_law_145 ?_
        refine px_rd (ci := 1) (q := (RX1, TX1, 9)) (v := px_b false) (rest := [.int (px_b false)]) S hP1 hK (tX1_join_no J r4 rn2 hq) (cwV 2 hts gL_law_X1_join rfl rfl rfl (by decide +kernel) ⟨by decide +kernel, by decide +kernel⟩) rfl rfl rfl hl.1 rfl (Nat.le_of_ble_eq_true rfl) dL_law_146 ⟨by decide +kernel, by decide +kernel⟩ ?_
        refine lv_icmp_eq (tgt := 348) hx hb dL_law_149 (by decide) (fun hq9 => ?_) (fun hq9 => ?_)
        · exact cont hR hP0 hP1 hD0 hD1 hS ls hl
        · exact absurd (rfl) hq9
      | true =>
        obtain ⟨x, y, e1, e2, g1, g2, g3, g4⟩ := pm_jn_of (by omega) hq
        refine lv_aload_n hx hb dL_law_121 rfl (lv_at hl 2 rfl) ?_
        refine lv_aload_n hx hb dL_law_122 rfl (lv_at hl 3 rfl) ?_
        refine lv_iload_n hx hb dL_law_123 rfl (lv_at hl 0 rfl) ?_
        refine lv_iconst (v := nI 1) hx hb dL_law_124 (by decide +kernel) ?_
        refine px_add hx hb dL_law_125 ?_
        refine px_sld (i := i + 1) hx hb hX hbl hbA hS (by omega) (by omega) dL_law_126 ?_
        refine px_top (y := nI x) e1 ?_
        refine lv_aload_n hx hb dL_law_127 rfl (lv_at hl 3 rfl) ?_
        refine lv_iload_n hx hb dL_law_128 rfl (lv_at hl 0 rfl) ?_
        refine lv_iconst (v := nI 2) hx hb dL_law_129 (by decide +kernel) ?_
        refine px_add hx hb dL_law_130 ?_
        refine px_sld (i := i + 2) hx hb hX hbl hbA hS (by omega) (by omega) dL_law_131 ?_
        refine px_top (y := nI y) e2 ?_
        refine px_wi (ci := 0) (q := (RX0, TX0, 11)) (rest := []) S hP0 hK hD0 hS (tX0_join_ok J r3 rn2 x y g1 g2 g3 g4) (fun _ => w0_same) (cwV 2 hts gL_law_X0_join rfl rfl rfl (by decide +kernel) ⟨by decide +kernel, by decide +kernel⟩) rfl rfl rfl hl.1 rfl (Nat.le_of_ble_eq_true rfl) dL_law_132 ⟨by decide +kernel, by decide +kernel⟩ (fun r0 u0 H locs hr0 hP0 hD0 hS hk => ?_)
        have hP1 := px_other (A := fun _ => True) hP1 (px_sep01 hne) hk
        refine lv_aload_n hx hb dL_law_135 rfl (lv_at hl 1 rfl) ?_
        refine lv_aload_n hx hb dL_law_136 rfl (lv_at hl 3 rfl) ?_
        refine lv_iload_n hx hb dL_law_137 rfl (lv_at hl 0 rfl) ?_
        refine lv_iconst (v := nI 1) hx hb dL_law_138 (by decide +kernel) ?_
        refine px_add hx hb dL_law_139 ?_
        refine px_sld (i := i + 1) hx hb hX hbl hbA hS (by omega) (by omega) dL_law_140 ?_
        refine px_top (y := nI x) e1 ?_
        refine lv_aload_n hx hb dL_law_141 rfl (lv_at hl 3 rfl) ?_
        refine lv_iload_n hx hb dL_law_142 rfl (lv_at hl 0 rfl) ?_
        refine lv_iconst (v := nI 2) hx hb dL_law_143 (by decide +kernel) ?_
        refine px_add hx hb dL_law_144 ?_
        refine px_sld (i := i + 2) hx hb hX hbl hbA hS (by omega) (by omega) dL_law_145 ?_
        refine px_top (y := nI y) e2 ?_
        refine px_wi (ci := 1) (q := (RX1, TX1, 9)) (rest := [.int r0]) S hP1 hK hD1 hS (tX1_join_ok J r4 rn2 x y g1 g2 g3 g4) (fun _ => w1_same) (cwV 2 hts gL_law_X1_join rfl rfl rfl (by decide +kernel) ⟨by decide +kernel, by decide +kernel⟩) rfl rfl rfl hl.1 rfl (Nat.le_of_ble_eq_true rfl) dL_law_146 ⟨by decide +kernel, by decide +kernel⟩ (fun r1 u1 H locs hr1 hP1 hD1 hS hk => ?_)
        have hP0 := px_other (A := fun _ => True) hP0 (px_sep10 hne) hk
        refine lv_icmp_eq (tgt := 348) hx hb dL_law_149 (by decide) (fun hq9 => ?_) (fun hq9 => ?_)
        · exact cont (pm_R_join hR g1 g2 g3 g4) hP0 hP1 hD0 hD1 hS ls hl
        · exact absurd (hr0.trans hr1.symm) hq9
    · refine lv_tableIn (tgt := 154) (off := 122) hx hb dL_law_32 (by decide +kernel) (by decide +kernel) (by decide +kernel) (by decide +kernel) ?_
      cases hq : pm_co n (xs (i + 1)) (xs (i + 2)) with
      | false =>
        refine lv_aload_n hx hb dL_law_154 rfl (lv_at hl 2 rfl) ?_
        refine lv_aload_n hx hb dL_law_155 rfl (lv_at hl 3 rfl) ?_
        refine lv_iload_n hx hb dL_law_156 rfl (lv_at hl 0 rfl) ?_
        refine lv_iconst (v := nI 1) hx hb dL_law_157 (by decide +kernel) ?_
        refine px_add hx hb dL_law_158 ?_
        refine px_sld (i := i + 1) hx hb hX hbl hbA hS (by omega) (by omega) dL_law_159 ?_
        refine lv_aload_n hx hb dL_law_160 rfl (lv_at hl 3 rfl) ?_
        refine lv_iload_n hx hb dL_law_161 rfl (lv_at hl 0 rfl) ?_
        refine lv_iconst (v := nI 2) hx hb dL_law_162 (by decide +kernel) ?_
        refine px_add hx hb dL_law_163 ?_
        refine px_sld (i := i + 2) hx hb hX hbl hbA hS (by omega) (by omega) dL_law_164 ?_
        refine px_rd (ci := 0) (q := (RX0, TX0, 11)) (v := px_b false) (rest := []) S hP0 hK (tX0_cost_no rn2 hq) (cwV 2 hts gL_law_X0_cost rfl rfl rfl (by decide +kernel) ⟨by decide +kernel, by decide +kernel⟩) rfl rfl rfl hl.1 rfl (Nat.le_of_ble_eq_true rfl) dL_law_165 ⟨by decide +kernel, by decide +kernel⟩ ?_
        refine lv_aload_n hx hb dL_law_168 rfl (lv_at hl 1 rfl) ?_
        refine lv_aload_n hx hb dL_law_169 rfl (lv_at hl 3 rfl) ?_
        refine lv_iload_n hx hb dL_law_170 rfl (lv_at hl 0 rfl) ?_
        refine lv_iconst (v := nI 1) hx hb dL_law_171 (by decide +kernel) ?_
        refine px_add hx hb dL_law_172 ?_
        refine px_sld (i := i + 1) hx hb hX hbl hbA hS (by omega) (by omega) dL_law_173 ?_
        refine lv_aload_n hx hb dL_law_174 rfl (lv_at hl 3 rfl) ?_
        refine lv_iload_n hx hb dL_law_175 rfl (lv_at hl 0 rfl) ?_
        refine lv_iconst (v := nI 2) hx hb dL_law_176 (by decide +kernel) ?_
        refine px_add hx hb dL_law_177 ?_
        refine px_sld (i := i + 2) hx hb hX hbl hbA hS (by omega) (by omega) dL_law_178 ?_
        refine px_rd (ci := 1) (q := (RX1, TX1, 9)) (v := px_b false) (rest := [.int (px_b false)]) S hP1 hK (tX1_cost_no rn2 hq) (cwV 2 hts gL_law_X1_cost rfl rfl rfl (by decide +kernel) ⟨by decide +kernel, by decide +kernel⟩) rfl rfl rfl hl.1 rfl (Nat.le_of_ble_eq_true rfl) dL_law_179 ⟨by decide +kernel, by decide +kernel⟩ ?_
        refine lv_icmp_eq (tgt := 348) hx hb dL_law_182 (by decide) (fun hq9 => ?_) (fun hq9 => ?_)
        · exact cont hR hP0 hP1 hD0 hD1 hS ls hl
        · exact absurd (rfl) hq9
      | true =>
        obtain ⟨x, y, e1, e2, g1, g2⟩ := pm_co_of (by omega) hq
        refine lv_aload_n hx hb dL_law_154 rfl (lv_at hl 2 rfl) ?_
        refine lv_aload_n hx hb dL_law_155 rfl (lv_at hl 3 rfl) ?_
        refine lv_iload_n hx hb dL_law_156 rfl (lv_at hl 0 rfl) ?_
        refine lv_iconst (v := nI 1) hx hb dL_law_157 (by decide +kernel) ?_
        refine px_add hx hb dL_law_158 ?_
        refine px_sld (i := i + 1) hx hb hX hbl hbA hS (by omega) (by omega) dL_law_159 ?_
        refine px_top (y := nI x) e1 ?_
        refine lv_aload_n hx hb dL_law_160 rfl (lv_at hl 3 rfl) ?_
        refine lv_iload_n hx hb dL_law_161 rfl (lv_at hl 0 rfl) ?_
        refine lv_iconst (v := nI 2) hx hb dL_law_162 (by decide +kernel) ?_
        refine px_add hx hb dL_law_163 ?_
        refine px_sld (i := i + 2) hx hb hX hbl hbA hS (by omega) (by omega) dL_law_164 ?_
        refine px_top (y := nI y) e2 ?_
        refine px_wi (ci := 0) (q := (RX0, TX0, 11)) (rest := []) S hP0 hK hD0 hS (tX0_cost_ok rn2 x y g1 g2) (fun _ => w0_same) (cwV 2 hts gL_law_X0_cost rfl rfl rfl (by decide +kernel) ⟨by decide +kernel, by decide +kernel⟩) rfl rfl rfl hl.1 rfl (Nat.le_of_ble_eq_true rfl) dL_law_165 ⟨by decide +kernel, by decide +kernel⟩ (fun r0 u0 H locs hr0 hP0 hD0 hS hk => ?_)
        have hP1 := px_other (A := fun _ => True) hP1 (px_sep01 hne) hk
        refine lv_aload_n hx hb dL_law_168 rfl (lv_at hl 1 rfl) ?_
        refine lv_aload_n hx hb dL_law_169 rfl (lv_at hl 3 rfl) ?_
        refine lv_iload_n hx hb dL_law_170 rfl (lv_at hl 0 rfl) ?_
        refine lv_iconst (v := nI 1) hx hb dL_law_171 (by decide +kernel) ?_
        refine px_add hx hb dL_law_172 ?_
        refine px_sld (i := i + 1) hx hb hX hbl hbA hS (by omega) (by omega) dL_law_173 ?_
        refine px_top (y := nI x) e1 ?_
        refine lv_aload_n hx hb dL_law_174 rfl (lv_at hl 3 rfl) ?_
        refine lv_iload_n hx hb dL_law_175 rfl (lv_at hl 0 rfl) ?_
        refine lv_iconst (v := nI 2) hx hb dL_law_176 (by decide +kernel) ?_
        refine px_add hx hb dL_law_177 ?_
        refine px_sld (i := i + 2) hx hb hX hbl hbA hS (by omega) (by omega) dL_law_178 ?_
        refine px_top (y := nI y) e2 ?_
        refine px_wi (ci := 1) (q := (RX1, TX1, 9)) (rest := [.int r0]) S hP1 hK hD1 hS (tX1_cost_ok rn2 x y g1 g2) (fun _ => w1_same) (cwV 2 hts gL_law_X1_cost rfl rfl rfl (by decide +kernel) ⟨by decide +kernel, by decide +kernel⟩) rfl rfl rfl hl.1 rfl (Nat.le_of_ble_eq_true rfl) dL_law_179 ⟨by decide +kernel, by decide +kernel⟩ (fun r1 u1 H locs hr1 hP1 hD1 hS hk => ?_)
        have hP0 := px_other (A := fun _ => True) hP0 (px_sep10 hne) hk
        refine lv_icmp_eq (tgt := 348) hx hb dL_law_182 (by decide) (fun hq9 => ?_) (fun hq9 => ?_)
        · exact cont (pm_R_cost hR g2) hP0 hP1 hD0 hD1 hS ls hl
        · exact absurd (hr0.trans hr1.symm) hq9
    · refine lv_tableIn (tgt := 187) (off := 155) hx hb dL_law_32 (by decide +kernel) (by decide +kernel) (by decide +kernel) (by decide +kernel) ?_
      cases hq : (pm_pt n (xs (i + 1)) && pm_pt n (xs (i + 2))) with
      | false =>
        refine lv_aload_n hx hb dL_law_187 rfl (lv_at hl 2 rfl) ?_
        refine lv_aload_n hx hb dL_law_188 rfl (lv_at hl 3 rfl) ?_
        refine lv_iload_n hx hb dL_law_189 rfl (lv_at hl 0 rfl) ?_
        refine lv_iconst (v := nI 1) hx hb dL_law_190 (by decide +kernel) ?_
        refine px_add hx hb dL_law_191 ?_
        refine px_sld (i := i + 1) hx hb hX hbl hbA hS (by omega) (by omega) dL_law_192 ?_
        refine lv_aload_n hx hb dL_law_193 rfl (lv_at hl 3 rfl) ?_
        refine lv_iload_n hx hb dL_law_194 rfl (lv_at hl 0 rfl) ?_
        refine lv_iconst (v := nI 2) hx hb dL_law_195 (by decide +kernel) ?_
        refine px_add hx hb dL_law_196 ?_
        refine px_sld (i := i + 2) hx hb hX hbl hbA hS (by omega) (by omega) dL_law_197 ?_
        refine px_rd (ci := 0) (q := (RX0, TX0, 11)) (v := px_b false) (rest := []) S hP0 hK (tX0_wish_no rn2 hq) (cwV 2 hts gL_law_X0_wish rfl rfl rfl (by decide +kernel) ⟨by decide +kernel, by decide +kernel⟩) rfl rfl rfl hl.1 rfl (Nat.le_of_ble_eq_true rfl) dL_law_198 ⟨by decide +kernel, by decide +kernel⟩ ?_
        refine lv_aload_n hx hb dL_law_201 rfl (lv_at hl 1 rfl) ?_
        refine lv_aload_n hx hb dL_law_202 rfl (lv_at hl 3 rfl) ?_
        refine lv_iload_n hx hb dL_law_203 rfl (lv_at hl 0 rfl) ?_
        refine lv_iconst (v := nI 1) hx hb dL_law_204 (by decide +kernel) ?_
        refine px_add hx hb dL_law_205 ?_
        refine px_sld (i := i + 1) hx hb hX hbl hbA hS (by omega) (by omega) dL_law_206 ?_
        refine lv_aload_n hx hb dL_law_207 rfl (lv_at hl 3 rfl) ?_
        refine lv_iload_n hx hb dL_law_208 rfl (lv_at hl 0 rfl) ?_
        refine lv_iconst (v := nI 2) hx hb dL_law_209 (by decide +kernel) ?_
        refine px_add hx hb dL_law_210 ?_
        refine px_sld (i := i + 2) hx hb hX hbl hbA hS (by omega) (by omega) dL_law_211 ?_
        refine px_rd (ci := 1) (q := (RX1, TX1, 9)) (v := px_b false) (rest := [.int (px_b false)]) S hP1 hK (tX1_wish_no rn2 hq) (cwV 2 hts gL_law_X1_wish rfl rfl rfl (by decide +kernel) ⟨by decide +kernel, by decide +kernel⟩) rfl rfl rfl hl.1 rfl (Nat.le_of_ble_eq_true rfl) dL_law_212 ⟨by decide +kernel, by decide +kernel⟩ ?_
        refine lv_icmp_eq (tgt := 348) hx hb dL_law_215 (by decide) (fun hq9 => ?_) (fun hq9 => ?_)
        · exact cont hR hP0 hP1 hD0 hD1 hS ls hl
        · exact absurd (rfl) hq9
      | true =>
        rw [Bool.and_eq_true] at hq
        obtain ⟨x, g1, e1⟩ := pm_pt_of (by omega) hq.1
        obtain ⟨y, g2, e2⟩ := pm_pt_of (by omega) hq.2
        refine lv_aload_n hx hb dL_law_187 rfl (lv_at hl 2 rfl) ?_
        refine lv_aload_n hx hb dL_law_188 rfl (lv_at hl 3 rfl) ?_
        refine lv_iload_n hx hb dL_law_189 rfl (lv_at hl 0 rfl) ?_
        refine lv_iconst (v := nI 1) hx hb dL_law_190 (by decide +kernel) ?_
        refine px_add hx hb dL_law_191 ?_
        refine px_sld (i := i + 1) hx hb hX hbl hbA hS (by omega) (by omega) dL_law_192 ?_
        refine px_top (y := nI x) e1 ?_
        refine lv_aload_n hx hb dL_law_193 rfl (lv_at hl 3 rfl) ?_
        refine lv_iload_n hx hb dL_law_194 rfl (lv_at hl 0 rfl) ?_
        refine lv_iconst (v := nI 2) hx hb dL_law_195 (by decide +kernel) ?_
        refine px_add hx hb dL_law_196 ?_
        refine px_sld (i := i + 2) hx hb hX hbl hbA hS (by omega) (by omega) dL_law_197 ?_
        refine px_top (y := nI y) e2 ?_
        refine px_wi (ci := 0) (q := (RX0, TX0, 11)) (rest := []) S hP0 hK hD0 hS (tX0_wish_ok rn2 x y g1 g2) (fun _ => w0_same) (cwV 2 hts gL_law_X0_wish rfl rfl rfl (by decide +kernel) ⟨by decide +kernel, by decide +kernel⟩) rfl rfl rfl hl.1 rfl (Nat.le_of_ble_eq_true rfl) dL_law_198 ⟨by decide +kernel, by decide +kernel⟩ (fun r0 u0 H locs hr0 hP0 hD0 hS hk => ?_)
        have hP1 := px_other (A := fun _ => True) hP1 (px_sep01 hne) hk
        refine lv_aload_n hx hb dL_law_201 rfl (lv_at hl 1 rfl) ?_
        refine lv_aload_n hx hb dL_law_202 rfl (lv_at hl 3 rfl) ?_
        refine lv_iload_n hx hb dL_law_203 rfl (lv_at hl 0 rfl) ?_
        refine lv_iconst (v := nI 1) hx hb dL_law_204 (by decide +kernel) ?_
        refine px_add hx hb dL_law_205 ?_
        refine px_sld (i := i + 1) hx hb hX hbl hbA hS (by omega) (by omega) dL_law_206 ?_
        refine px_top (y := nI x) e1 ?_
        refine lv_aload_n hx hb dL_law_207 rfl (lv_at hl 3 rfl) ?_
        refine lv_iload_n hx hb dL_law_208 rfl (lv_at hl 0 rfl) ?_
        refine lv_iconst (v := nI 2) hx hb dL_law_209 (by decide +kernel) ?_
        refine px_add hx hb dL_law_210 ?_
        refine px_sld (i := i + 2) hx hb hX hbl hbA hS (by omega) (by omega) dL_law_211 ?_
        refine px_top (y := nI y) e2 ?_
        refine px_wi (ci := 1) (q := (RX1, TX1, 9)) (rest := [.int r0]) S hP1 hK hD1 hS (tX1_wish_ok rn2 x y g1 g2) (fun _ => w1_same) (cwV 2 hts gL_law_X1_wish rfl rfl rfl (by decide +kernel) ⟨by decide +kernel, by decide +kernel⟩) rfl rfl rfl hl.1 rfl (Nat.le_of_ble_eq_true rfl) dL_law_212 ⟨by decide +kernel, by decide +kernel⟩ (fun r1 u1 H locs hr1 hP1 hD1 hS hk => ?_)
        have hP0 := px_other (A := fun _ => True) hP0 (px_sep10 hne) hk
        refine lv_icmp_eq (tgt := 348) hx hb dL_law_215 (by decide) (fun hq9 => ?_) (fun hq9 => ?_)
        · exact cont (pm_R_wish hR g2) hP0 hP1 hD0 hD1 hS ls hl
        · exact absurd (hr0.trans hr1.symm) hq9
    · refine lv_tableIn (tgt := 220) (off := 188) hx hb dL_law_32 (by decide +kernel) (by decide +kernel) (by decide +kernel) (by decide +kernel) ?_
      refine lv_aload_n hx hb dL_law_220 rfl (lv_at hl 2 rfl) ?_
      refine px_wi (ci := 0) (q := (RX0, TX0, 11)) (rest := []) S hP0 hK hD0 hS (tX0_give J r3 r2 cst ws rn2 rk2 r5 r6 r8 r9 r10) (fun _ => w0_same) (cwV 0 hts gL_law_X0_give rfl rfl rfl (by decide +kernel) ⟨by decide +kernel, by decide +kernel⟩) rfl rfl rfl hl.1 rfl (Nat.le_of_ble_eq_true rfl) dL_law_221 ⟨by decide +kernel, by decide +kernel⟩ (fun r0 u0 H locs hr0 hP0 hD0 hS hk => ?_)
      have hP1 := px_other (A := fun _ => True) hP1 (px_sep01 hne) hk
      refine lv_aload_n hx hb dL_law_224 rfl (lv_at hl 1 rfl) ?_
      refine px_wi (ci := 1) (q := (RX1, TX1, 9)) (rest := [.int r0]) S hP1 hK hD1 hS (tX1_give J r4 cst ws rn2 rk2 r7 r8 r9 r11) (fun _ => w1_same) (cwV 0 hts gL_law_X1_give rfl rfl rfl (by decide +kernel) ⟨by decide +kernel, by decide +kernel⟩) rfl rfl rfl hl.1 rfl (Nat.le_of_ble_eq_true rfl) dL_law_225 ⟨by decide +kernel, by decide +kernel⟩ (fun r1 u1 H locs hr1 hP1 hD1 hS hk => ?_)
      have hP0 := px_other (A := fun _ => True) hP0 (px_sep10 hne) hk
      refine lv_icmp_eq (tgt := 348) hx hb dL_law_228 (by decide) (fun hq9 => ?_) (fun hq9 => ?_)
      · exact cont (pm_R_give hR hr0.2 hr1.2.2 hr1.2.1) hP0 hP1 hD0 hD1 hS ls hl
      · exact absurd (by rw [hr0.1, hr1.1, pm_nn_cn rk2]) hq9
    · refine lv_tableIn (tgt := 233) (off := 201) hx hb dL_law_32 (by decide +kernel) (by decide +kernel) (by decide +kernel) (by decide +kernel) ?_
      refine lv_aload_n hx hb dL_law_233 rfl (lv_at hl 2 rfl) ?_
      refine lv_aload_n hx hb dL_law_234 rfl (lv_at hl 3 rfl) ?_
      refine lv_iload_n hx hb dL_law_235 rfl (lv_at hl 0 rfl) ?_
      refine lv_iconst (v := nI 1) hx hb dL_law_236 (by decide +kernel) ?_
      refine px_add hx hb dL_law_237 ?_
      refine px_sld (i := i + 1) hx hb hX hbl hbA hS (by omega) (by omega) dL_law_238 ?_
      refine px_rd (ci := 0) (q := (RX0, TX0, 11)) (v := pm_rd g n CF (xs (i + 1))) (rest := []) S hP0 hK (tX0_colour rn2 (xs (i + 1))) (cwV 1 hts gL_law_X0_colour rfl rfl rfl (by decide +kernel) ⟨by decide +kernel, by decide +kernel⟩) rfl rfl rfl hl.1 rfl (Nat.le_of_ble_eq_true rfl) dL_law_239 ⟨by decide +kernel, by decide +kernel⟩ ?_
      refine lv_aload_n hx hb dL_law_242 rfl (lv_at hl 1 rfl) ?_
      refine lv_aload_n hx hb dL_law_243 rfl (lv_at hl 3 rfl) ?_
      refine lv_iload_n hx hb dL_law_244 rfl (lv_at hl 0 rfl) ?_
      refine lv_iconst (v := nI 1) hx hb dL_law_245 (by decide +kernel) ?_
      refine px_add hx hb dL_law_246 ?_
      refine px_sld (i := i + 1) hx hb hX hbl hbA hS (by omega) (by omega) dL_law_247 ?_
      refine px_rd (ci := 1) (q := (RX1, TX1, 9)) (v := pm_rd g n CO (xs (i + 1))) (rest := [.int (pm_rd g n CF (xs (i + 1)))]) S hP1 hK (tX1_colour rn2 (xs (i + 1))) (cwV 1 hts gL_law_X1_colour rfl rfl rfl (by decide +kernel) ⟨by decide +kernel, by decide +kernel⟩) rfl rfl rfl hl.1 rfl (Nat.le_of_ble_eq_true rfl) dL_law_248 ⟨by decide +kernel, by decide +kernel⟩ ?_
      refine lv_icmp_eq (tgt := 348) hx hb dL_law_251 (by decide) (fun hq9 => ?_) (fun hq9 => ?_)
      · exact cont hR hP0 hP1 hD0 hD1 hS ls hl
      · exact absurd (pm_rd_congr (by omega) (fun q => (r12 q).2.1) _) hq9
    · refine lv_tableIn (tgt := 256) (off := 224) hx hb dL_law_32 (by decide +kernel) (by decide +kernel) (by decide +kernel) (by decide +kernel) ?_
      refine lv_aload_n hx hb dL_law_256 rfl (lv_at hl 2 rfl) ?_
      refine lv_aload_n hx hb dL_law_257 rfl (lv_at hl 3 rfl) ?_
      refine lv_iload_n hx hb dL_law_258 rfl (lv_at hl 0 rfl) ?_
      refine lv_iconst (v := nI 1) hx hb dL_law_259 (by decide +kernel) ?_
      refine px_add hx hb dL_law_260 ?_
      refine px_sld (i := i + 1) hx hb hX hbl hbA hS (by omega) (by omega) dL_law_261 ?_
      refine px_rd (ci := 0) (q := (RX0, TX0, 11)) (v := pm_rd g n O (xs (i + 1))) (rest := []) S hP0 hK (tX0_taken rn2 (xs (i + 1))) (cwV 1 hts gL_law_X0_taken rfl rfl rfl (by decide +kernel) ⟨by decide +kernel, by decide +kernel⟩) rfl rfl rfl hl.1 rfl (Nat.le_of_ble_eq_true rfl) dL_law_262 ⟨by decide +kernel, by decide +kernel⟩ ?_
      refine lv_aload_n hx hb dL_law_265 rfl (lv_at hl 1 rfl) ?_
      refine lv_aload_n hx hb dL_law_266 rfl (lv_at hl 3 rfl) ?_
      refine lv_iload_n hx hb dL_law_267 rfl (lv_at hl 0 rfl) ?_
      refine lv_iconst (v := nI 1) hx hb dL_law_268 (by decide +kernel) ?_
      refine px_add hx hb dL_law_269 ?_
      refine px_sld (i := i + 1) hx hb hX hbl hbA hS (by omega) (by omega) dL_law_270 ?_
      refine px_rd (ci := 1) (q := (RX1, TX1, 9)) (v := pm_rd g n RW (xs (i + 1))) (rest := [.int (pm_rd g n O (xs (i + 1)))]) S hP1 hK (tX1_taken rn2 (xs (i + 1))) (cwV 1 hts gL_law_X1_taken rfl rfl rfl (by decide +kernel) ⟨by decide +kernel, by decide +kernel⟩) rfl rfl rfl hl.1 rfl (Nat.le_of_ble_eq_true rfl) dL_law_271 ⟨by decide +kernel, by decide +kernel⟩ ?_
      refine lv_icmp_eq (tgt := 348) hx hb dL_law_274 (by decide) (fun hq9 => ?_) (fun hq9 => ?_)
      · exact cont hR hP0 hP1 hD0 hD1 hS ls hl
      · exact absurd (pm_rd_congr (by omega) (fun q => (r12 q).1) _) hq9
    · refine lv_tableIn (tgt := 279) (off := 247) hx hb dL_law_32 (by decide +kernel) (by decide +kernel) (by decide +kernel) (by decide +kernel) ?_
      refine lv_aload_n hx hb dL_law_279 rfl (lv_at hl 2 rfl) ?_
      refine lv_aload_n hx hb dL_law_280 rfl (lv_at hl 3 rfl) ?_
      refine lv_iload_n hx hb dL_law_281 rfl (lv_at hl 0 rfl) ?_
      refine lv_iconst (v := nI 1) hx hb dL_law_282 (by decide +kernel) ?_
      refine px_add hx hb dL_law_283 ?_
      refine px_sld (i := i + 1) hx hb hX hbl hbA hS (by omega) (by omega) dL_law_284 ?_
      refine lv_aload_n hx hb dL_law_285 rfl (lv_at hl 3 rfl) ?_
      refine lv_iload_n hx hb dL_law_286 rfl (lv_at hl 0 rfl) ?_
      refine lv_iconst (v := nI 2) hx hb dL_law_287 (by decide +kernel) ?_
      refine px_add hx hb dL_law_288 ?_
      refine px_sld (i := i + 2) hx hb hX hbl hbA hS (by omega) (by omega) dL_law_289 ?_
      refine px_rd (ci := 0) (q := (RX0, TX0, 11)) (v := px_b (pm_jd n J (xs (i + 1)) (xs (i + 2)))) (rest := []) S hP0 hK (tX0_joined J r3 rn2 (xs (i + 1)) (xs (i + 2))) (cwV 2 hts gL_law_X0_joined rfl rfl rfl (by decide +kernel) ⟨by decide +kernel, by decide +kernel⟩) rfl rfl rfl hl.1 rfl (Nat.le_of_ble_eq_true rfl) dL_law_290 ⟨by decide +kernel, by decide +kernel⟩ ?_
      refine lv_aload_n hx hb dL_law_293 rfl (lv_at hl 1 rfl) ?_
      refine lv_aload_n hx hb dL_law_294 rfl (lv_at hl 3 rfl) ?_
      refine lv_iload_n hx hb dL_law_295 rfl (lv_at hl 0 rfl) ?_
      refine lv_iconst (v := nI 1) hx hb dL_law_296 (by decide +kernel) ?_
      refine px_add hx hb dL_law_297 ?_
      refine px_sld (i := i + 1) hx hb hX hbl hbA hS (by omega) (by omega) dL_law_298 ?_
      refine lv_aload_n hx hb dL_law_299 rfl (lv_at hl 3 rfl) ?_
      refine lv_iload_n hx hb dL_law_300 rfl (lv_at hl 0 rfl) ?_
      refine lv_iconst (v := nI 2) hx hb dL_law_301 (by decide +kernel) ?_
      refine px_add hx hb dL_law_302 ?_
      refine px_sld (i := i + 2) hx hb hX hbl hbA hS (by omega) (by omega) dL_law_303 ?_
      refine px_rd (ci := 1) (q := (RX1, TX1, 9)) (v := px_b (pm_jd n J (xs (i + 1)) (xs (i + 2)))) (rest := [.int (px_b (pm_jd n J (xs (i + 1)) (xs (i + 2))))]) S hP1 hK (tX1_joined J r4 rn2 (xs (i + 1)) (xs (i + 2))) (cwV 2 hts gL_law_X1_joined rfl rfl rfl (by decide +kernel) ⟨by decide +kernel, by decide +kernel⟩) rfl rfl rfl hl.1 rfl (Nat.le_of_ble_eq_true rfl) dL_law_304 ⟨by decide +kernel, by decide +kernel⟩ ?_
      refine lv_icmp_eq (tgt := 348) hx hb dL_law_307 (by decide) (fun hq9 => ?_) (fun hq9 => ?_)
      · exact cont hR hP0 hP1 hD0 hD1 hS ls hl
      · exact absurd (rfl) hq9
    · refine lv_tableIn (tgt := 312) (off := 280) hx hb dL_law_32 (by decide +kernel) (by decide +kernel) (by decide +kernel) (by decide +kernel) ?_
      refine lv_aload_n hx hb dL_law_312 rfl (lv_at hl 2 rfl) ?_
      refine lv_aload_n hx hb dL_law_313 rfl (lv_at hl 3 rfl) ?_
      refine lv_iload_n hx hb dL_law_314 rfl (lv_at hl 0 rfl) ?_
      refine lv_iconst (v := nI 1) hx hb dL_law_315 (by decide +kernel) ?_
      refine px_add hx hb dL_law_316 ?_
      refine px_sld (i := i + 1) hx hb hX hbl hbA hS (by omega) (by omega) dL_law_317 ?_
      refine px_rd (ci := 0) (q := (RX0, TX0, 11)) (v := pm_rd true n G (xs (i + 1))) (rest := []) S hP0 hK (tX0_degree rn2 (xs (i + 1))) (cwV 1 hts gL_law_X0_degree rfl rfl rfl (by decide +kernel) ⟨by decide +kernel, by decide +kernel⟩) rfl rfl rfl hl.1 rfl (Nat.le_of_ble_eq_true rfl) dL_law_318 ⟨by decide +kernel, by decide +kernel⟩ ?_
      refine lv_aload_n hx hb dL_law_321 rfl (lv_at hl 1 rfl) ?_
      refine lv_aload_n hx hb dL_law_322 rfl (lv_at hl 3 rfl) ?_
      refine lv_iload_n hx hb dL_law_323 rfl (lv_at hl 0 rfl) ?_
      refine lv_iconst (v := nI 1) hx hb dL_law_324 (by decide +kernel) ?_
      refine px_add hx hb dL_law_325 ?_
      refine px_sld (i := i + 1) hx hb hX hbl hbA hS (by omega) (by omega) dL_law_326 ?_
      refine px_rd (ci := 1) (q := (RX1, TX1, 9)) (v := pm_rd true n (fun a => nI (pm_cn (J a) n)) (xs (i + 1))) (rest := [.int (pm_rd true n G (xs (i + 1)))]) S hP1 hK (tX1_degree J r4 rn2 (xs (i + 1))) (cwV 1 hts gL_law_X1_degree rfl rfl rfl (by decide +kernel) ⟨by decide +kernel, by decide +kernel⟩) rfl rfl rfl hl.1 rfl (Nat.le_of_ble_eq_true rfl) dL_law_327 ⟨by decide +kernel, by decide +kernel⟩ ?_
      refine lv_icmp_eq (tgt := 348) hx hb dL_law_330 (by decide) (fun hq9 => ?_) (fun hq9 => ?_)
      · exact cont hR hP0 hP1 hD0 hD1 hS ls hl
      · exact absurd (pm_rd_congr (by omega) (fun _ => r5) _) hq9
    · refine lv_tableIn (tgt := 335) (off := 303) hx hb dL_law_32 (by decide +kernel) (by decide +kernel) (by decide +kernel) (by decide +kernel) ?_
      refine lv_aload_n hx hb dL_law_335 rfl (lv_at hl 2 rfl) ?_
      refine px_rd (ci := 0) (q := (RX0, TX0, 11)) (v := nI (if g = true then pm_st J CF n else 0)) (rest := []) S hP0 hK (tX0_strays J r3 rn2) (cwV 0 hts gL_law_X0_strays rfl rfl rfl (by decide +kernel) ⟨by decide +kernel, by decide +kernel⟩) rfl rfl rfl hl.1 rfl (Nat.le_of_ble_eq_true rfl) dL_law_336 ⟨by decide +kernel, by decide +kernel⟩ ?_
      refine lv_aload_n hx hb dL_law_339 rfl (lv_at hl 1 rfl) ?_
      refine px_rd (ci := 1) (q := (RX1, TX1, 9)) (v := nI (if g = true then pm_st J CO n else 0)) (rest := [.int (nI (if g = true then pm_st J CF n else 0))]) S hP1 hK (tX1_strays J r4 rn2 rn1 rk2 (fun q => (r12 q).2.2)) (cwV 0 hts gL_law_X1_strays rfl rfl rfl (by decide +kernel) ⟨by decide +kernel, by decide +kernel⟩) rfl rfl rfl hl.1 rfl (Nat.le_of_ble_eq_true rfl) dL_law_340 ⟨by decide +kernel, by decide +kernel⟩ ?_
      refine lv_icmp_eq (tgt := 348) hx hb dL_law_343 (by decide) (fun hq9 => ?_) (fun hq9 => ?_)
      · exact cont hR hP0 hP1 hD0 hD1 hS ls hl
      · exact absurd (pm_str (fun q => (r12 q).2.1)) hq9
    · refine lv_tableOut (tgt := 348) hx hb dL_law_32 (Or.inr (by rw [nI_toInt (by omega)]; omega)) (by decide) ?_
      exact cont hR hP0 hP1 hD0 hD1 hS ls hl
