/-! rows of our own: numbers as naturals, calls over one world whose addresses stay -/
def px_b (b : Bool) : Int32 := match b with
  | true => 1
  | false => 0
theorem px_b_t : px_b true = 1 := rfl
theorem px_b_f : px_b false = 0 := rfl
theorem px_b_nar (b : Bool) : narrow .boolean (.int (px_b b)) = .int (px_b b) := by cases b <;> decide +kernel
theorem px_b_fit (b : Bool) : fits .boolean (.int (px_b b)) = true := by cases b <;> decide +kernel
theorem px_b_vn (b : Bool) : vp_nar .boolean (px_b b) = px_b b := by cases b <;> decide +kernel
theorem px_b_0 {b : Bool} : px_b b = 0 ↔ b = false := by cases b <;> decide +kernel
theorem px_b_n0 {b : Bool} : ¬ px_b b = 0 ↔ b = true := by cases b <;> decide +kernel
abbrev rmd (d : Nat) : Room := { frames := d, cells := 0, slots := 0, locals := 30 * d }
theorem px_met {l : Launch} {y : MethodName} {ws ws' : List Cond} {rm : Room} {Bc : State → Prop} {Qc : Array Value → State → Outcome → State → Prop} {mc ms : Nat} {free : Addr → Prop} {cc : ByteArray} {maxL : Nat} {ret : Option FieldType} {av : List Value} {lv : List (Nat × Value)} (hy : plainName y.cls = true) (hw : ws = Cond.code y cc maxL ret :: ws') (hlen : (lg_sl av).length ≤ maxL) (hlv : lv_args 0 av = lv)
    (body : ∀ (p : Program) (e : Env) (s : State) (m : MethodId) (below : List Frame) (meth : Method) (c : Code) (ls : Array Slot), CallFix p m c cc maxL s av.toArray ws y.cls → meth.sig.returnType = ret → meth.locks = false → meth.name = y.name → Bc s → lv_has ls maxL lv → W p l e rm s m av.toArray below meth c s.heap [] 0 0 (MQ below Qc av.toArray s mc ms free) (F0 m 0 ls [])) : Met l y ws rm (va_Pc av Bc) Qc mc ms free := by
  refine Met.ofW hy hw ?_
  intro p e s m args below meth c s₁ B hml hv
  obtain ⟨rfl, hB⟩ := hv
  rw [lg_entry_eq]
  exact body p e s m below meth c _ ⟨B.exec, B.bytes, hml, findClass_of_methodNamed B.named, atoms_spec (ws := ws) B.pre⟩ B.returns B.notSynchronized (name_of_methodNamed B.named B.method).1 hB (hlv ▸ lv_entry av hlen)
section PX
variable {p : Program} {l : Launch} {e : Env} {R : Room} {s : State} {m : MethodId} {args : Array Value} {below : List Frame} {meth : Method} {c : Code} {H : Heap} {locs : List Loc} {cells slots : Nat} {Q : State → Prop}
variable {cc : ByteArray} {pc : Nat} {ls : Array Slot} {rest : List Value}
theorem px_ge (hx : p.tables.exec = Jvm.exec) (hb : c.code = cc) {a b : Nat} {off : Int} {tgt : Nat} (hdg : decode cc pc = .ok (.if_icmp .ge off, 3)) (ht : (pc : Int) + off = (tgt : Int)) (ha : a < 2 ^ 31) (hc : b < 2 ^ 31)
    (kt : b ≤ a → W p l e R s m args below meth c H locs cells slots Q (F0 m tgt ls rest)) (kf : a < b → W p l e R s m args below meth c H locs cells slots Q (F0 m (pc + 3) ls rest)) : W p l e R s m args below meth c H locs cells slots Q (F0 m pc ls (.int (nI b) :: .int (nI a) :: rest)) :=
  lv_icmp_ge hx hb hdg ht (fun h => kt ((nI_leI hc ha).mp h)) (fun h => kf (Nat.lt_of_not_le fun q => h ((nI_leI hc ha).mpr q)))
theorem px_gt (hx : p.tables.exec = Jvm.exec) (hb : c.code = cc) {a b : Nat} {off : Int} {tgt : Nat} (hdg : decode cc pc = .ok (.if_icmp .gt off, 3)) (ht : (pc : Int) + off = (tgt : Int)) (ha : a < 2 ^ 31) (hc : b < 2 ^ 31)
    (kt : b < a → W p l e R s m args below meth c H locs cells slots Q (F0 m tgt ls rest)) (kf : a ≤ b → W p l e R s m args below meth c H locs cells slots Q (F0 m (pc + 3) ls rest)) : W p l e R s m args below meth c H locs cells slots Q (F0 m pc ls (.int (nI b) :: .int (nI a) :: rest)) :=
  lv_icmp_gt hx hb hdg ht (fun h => kt ((nI_ltI hc ha).mp h)) (fun h => kf (Nat.le_of_not_lt fun q => h ((nI_ltI hc ha).mpr q)))
theorem px_add (hx : p.tables.exec = Jvm.exec) (hb : c.code = cc) {a b : Nat} (hdg : decode cc pc = .ok (.iadd, 1)) (k : W p l e R s m args below meth c H locs cells slots Q (F0 m (pc + 1) ls (.int (nI (a + b)) :: rest))) : W p l e R s m args below meth c H locs cells slots Q (F0 m pc ls (.int (nI b) :: .int (nI a) :: rest)) :=
  lv_iadd hx hb hdg (by rw [nI_add]; exact k)
theorem px_mul (hx : p.tables.exec = Jvm.exec) (hb : c.code = cc) {a b : Nat} (hdg : decode cc pc = .ok (.imul, 1)) (k : W p l e R s m args below meth c H locs cells slots Q (F0 m (pc + 1) ls (.int (nI (a * b)) :: rest))) : W p l e R s m args below meth c H locs cells slots Q (F0 m pc ls (.int (nI b) :: .int (nI a) :: rest)) :=
  lv_imul hx hb hdg (by rw [pk_mul]; exact k)
theorem px_div (hx : p.tables.exec = Jvm.exec) (hb : c.code = cc) {a b : Nat} (hdg : decode cc pc = .ok (.idiv, 1)) (ha : a < 2 ^ 31) (h0 : 0 < b) (hc : b < 2 ^ 31) (k : W p l e R s m args below meth c H locs cells slots Q (F0 m (pc + 1) ls (.int (nI (a / b)) :: rest))) : W p l e R s m args below meth c H locs cells slots Q (F0 m pc ls (.int (nI b) :: .int (nI a) :: rest)) :=
  lv_idiv hx hb hdg (nI_ne0 h0 hc) (by rw [pk_div ha h0 hc]; exact k)
theorem px_rem (hx : p.tables.exec = Jvm.exec) (hb : c.code = cc) {a b : Nat} (hdg : decode cc pc = .ok (.irem, 1)) (ha : a < 2 ^ 31) (h0 : 0 < b) (hc : b < 2 ^ 31) (k : W p l e R s m args below meth c H locs cells slots Q (F0 m (pc + 1) ls (.int (nI (a % b)) :: rest))) : W p l e R s m args below meth c H locs cells slots Q (F0 m pc ls (.int (nI b) :: .int (nI a) :: rest)) :=
  lv_irem hx hb hdg (nI_ne0 h0 hc) (by rw [pk_rem ha h0 hc]; exact k)
theorem px_eqb (hx : p.tables.exec = Jvm.exec) (hb : c.code = cc) {b : Bool} {off : Int} {tgt : Nat} (hdg : decode cc pc = .ok (.ifCond .eq off, 3)) (ht : (pc : Int) + off = (tgt : Int))
    (kt : b = false → W p l e R s m args below meth c H locs cells slots Q (F0 m tgt ls rest)) (kf : b = true → W p l e R s m args below meth c H locs cells slots Q (F0 m (pc + 3) ls rest)) : W p l e R s m args below meth c H locs cells slots Q (F0 m pc ls (.int (px_b b) :: rest)) :=
  lv_if_eq hx hb hdg ht (fun h => kt (px_b_0.mp h)) (fun h => kf (px_b_n0.mp h))
theorem px_neb (hx : p.tables.exec = Jvm.exec) (hb : c.code = cc) {b : Bool} {off : Int} {tgt : Nat} (hdg : decode cc pc = .ok (.ifCond .ne off, 3)) (ht : (pc : Int) + off = (tgt : Int))
    (kt : b = true → W p l e R s m args below meth c H locs cells slots Q (F0 m tgt ls rest)) (kf : b = false → W p l e R s m args below meth c H locs cells slots Q (F0 m (pc + 3) ls rest)) : W p l e R s m args below meth c H locs cells slots Q (F0 m pc ls (.int (px_b b) :: rest)) :=
  lv_if_ne hx hb hdg ht (fun h => kt (px_b_n0.mp h)) (fun h => kf (px_b_0.mp h))
variable {D : va_G} {A : Nat → Prop} {a : Nat} {tys : List (ClassId × FieldType)} {ws : va_W} {H0 : Heap} {cl : List vw_C}
theorem px_iald (hx : p.tables.exec = Jvm.exec) (hb : c.code = cc) (hK : va_K D cl tys s) (hP : va_P D cl ws H) (q0 t0 : Nat) {cA : ClassId} {n i : Nat} {f : Nat → Int32} (ha : ws[q0]? = some (a, .inl (cA, n, .inl f))) (ht : tys[t0]? = some (cA, .int)) (hi : i < n) (hn : n < 2 ^ 31) (hdg : decode cc pc = .ok (.iaload, 1))
    (kk : W p l e R s m args below meth c H locs cells slots Q (F0 m (pc + 1) ls (.int (f i) :: rest))) : W p l e R s m args below meth c H locs cells slots Q (F0 m pc ls (.int (nI i) :: .ref a :: rest)) :=
  va_iald hx hb hK hP q0 t0 ha ht (vp_in_nI hi hn) hdg (by rw [nI_clamp (Nat.lt_trans hi hn)]; exact kk)
theorem px_zald (hx : p.tables.exec = Jvm.exec) (hb : c.code = cc) (hK : va_K D cl tys s) (hP : va_P D cl ws H) (q0 t0 : Nat) {cA : ClassId} {n i : Nat} {f : Nat → Int32} (ha : ws[q0]? = some (a, .inl (cA, n, .inl f))) (ht : tys[t0]? = some (cA, .boolean)) (hi : i < n) (hn : n < 2 ^ 31) (hdg : decode cc pc = .ok (.baload, 1))
    (kk : W p l e R s m args below meth c H locs cells slots Q (F0 m (pc + 1) ls (.int (f i) :: rest))) : W p l e R s m args below meth c H locs cells slots Q (F0 m pc ls (.int (nI i) :: .ref a :: rest)) :=
  va_zald hx hb hK hP q0 t0 ha ht (vp_in_nI hi hn) hdg (by rw [nI_clamp (Nat.lt_trans hi hn)]; exact kk)
theorem px_lald (hx : p.tables.exec = Jvm.exec) (hb : c.code = cc) (hK : va_K D cl tys s) (hP : va_P D cl ws H) (q0 t0 : Nat) {cA : ClassId} {n i : Nat} {f : Nat → Int64} (ha : ws[q0]? = some (a, .inl (cA, n, .inr (.inl f)))) (ht : tys[t0]? = some (cA, .long)) (hi : i < n) (hn : n < 2 ^ 31) (hdg : decode cc pc = .ok (.laload, 1))
    (kk : W p l e R s m args below meth c H locs cells slots Q (F0 m (pc + 1) ls (.long (f i) :: rest))) : W p l e R s m args below meth c H locs cells slots Q (F0 m pc ls (.int (nI i) :: .ref a :: rest)) :=
  va_lald hx hb hK hP q0 t0 ha ht (vp_in_nI hi hn) hdg (by rw [nI_clamp (Nat.lt_trans hi hn)]; exact kk)
theorem px_iast (hx : p.tables.exec = Jvm.exec) (hb : c.code = cc) (hK : va_K D cl tys s) (hP : va_P D cl ws H) (hD : va_D A ws) (hS : va_S A H0 H locs) (q0 t0 : Nat) {cA : ClassId} {n i : Nat} {f : Nat → Int32} {x : Int32} {ws' : va_W} (ha : ws[q0]? = some (a, .inl (cA, n, .inl f))) (ht : tys[t0]? = some (cA, .int)) (hi : i < n) (hn : n < 2 ^ 31) (hw : ws.set q0 (a, .inl (cA, n, .inl (upd f i x))) = ws') (hdg : decode cc pc = .ok (.iastore, 1))
    (kk : ∀ (H : Heap) (locs : List Loc), va_P D cl ws' H → va_D A ws' → va_S A H0 H locs → W p l e R s m args below meth c H locs cells slots Q (F0 m (pc + 1) ls rest)) : W p l e R s m args below meth c H locs cells slots Q (F0 m pc ls (.int x :: .int (nI i) :: .ref a :: rest)) := by
  subst hw
  exact va_iast hx hb hK hP hD hS q0 t0 ha ht (vp_in_nI hi hn) hdg (by rw [nI_clamp (Nat.lt_trans hi hn)]; exact kk)
theorem px_zast (hx : p.tables.exec = Jvm.exec) (hb : c.code = cc) (hK : va_K D cl tys s) (hP : va_P D cl ws H) (hD : va_D A ws) (hS : va_S A H0 H locs) (q0 t0 : Nat) {cA : ClassId} {n i : Nat} {f : Nat → Int32} {x : Bool} {ws' : va_W} (ha : ws[q0]? = some (a, .inl (cA, n, .inl f))) (ht : tys[t0]? = some (cA, .boolean)) (hi : i < n) (hn : n < 2 ^ 31) (hw : ws.set q0 (a, .inl (cA, n, .inl (upd f i (px_b x)))) = ws') (hdg : decode cc pc = .ok (.bastore, 1))
    (kk : ∀ (H : Heap) (locs : List Loc), va_P D cl ws' H → va_D A ws' → va_S A H0 H locs → W p l e R s m args below meth c H locs cells slots Q (F0 m (pc + 1) ls rest)) : W p l e R s m args below meth c H locs cells slots Q (F0 m pc ls (.int (px_b x) :: .int (nI i) :: .ref a :: rest)) := by
  subst hw
  exact va_zast hx hb hK hP hD hS q0 t0 ha ht (vp_in_nI hi hn) hdg (by rw [nI_clamp (Nat.lt_trans hi hn), px_b_vn]; exact kk)
theorem px_last (hx : p.tables.exec = Jvm.exec) (hb : c.code = cc) (hK : va_K D cl tys s) (hP : va_P D cl ws H) (hD : va_D A ws) (hS : va_S A H0 H locs) (q0 t0 : Nat) {cA : ClassId} {n i : Nat} {f : Nat → Int64} {x : Int64} {ws' : va_W} (ha : ws[q0]? = some (a, .inl (cA, n, .inr (.inl f)))) (ht : tys[t0]? = some (cA, .long)) (hi : i < n) (hn : n < 2 ^ 31) (hw : ws.set q0 (a, .inl (cA, n, .inr (.inl (vp_updL f i x)))) = ws') (hdg : decode cc pc = .ok (.lastore, 1))
    (kk : ∀ (H : Heap) (locs : List Loc), va_P D cl ws' H → va_D A ws' → va_S A H0 H locs → W p l e R s m args below meth c H locs cells slots Q (F0 m (pc + 1) ls rest)) : W p l e R s m args below meth c H locs cells slots Q (F0 m pc ls (.long x :: .int (nI i) :: .ref a :: rest)) := by
  subst hw
  exact va_last hx hb hK hP hD hS q0 t0 ha ht (vp_in_nI hi hn) hdg (by rw [nI_clamp (Nat.lt_trans hi hn)]; exact kk)
theorem px_put (hx : p.tables.exec = Jvm.exec) (hb : c.code = cc) {own ref C : String} {T : u_T} {N ci index : Nat} {Ts : List Cond} (hts : ∀ w ∈ Ts, w.before args s = true) (hin : ∀ w ∈ u_ws C T N, w ∈ Ts) (ty0 : Nat → FieldType) (hty : ∀ k, k < N → parseFieldDescriptor (T k).2.2.1 = some (ty0 k)) (hnm : ∀ a, a < N → ∀ b, b < N → a ≠ b → (T a).2.1 ≠ (T b).2.1) (hown : s.vm.findClass own = some m.cls) (hK : va_K D cl tys s) (hP : va_P D cl ws H) (hD : va_D A ws) (hS0 : va_S A H0 H locs) (q0 : Nat) {fs : List Value} (he : ws[q0]? = some (a, .inr (ci, fs))) (hc : cl[ci]? = some (C, T, N)) (k : Nat) (hk : k < N) (hlink : (Cond.fieldLink own index ref (T k).2.1 (T k).2.2.1).before args s = true) (hsame : ∀ x, s.fieldFound? (T k).1 (T k).2.1 (T k).2.2.1 = some x → s.fieldFound? ref (T k).2.1 (T k).2.2.1 = some x) (hfin : (T k).2.2.2 = false) {ty : FieldType} {v : Value} {ws' : va_W} (hd : parseFieldDescriptor (T k).2.2.1 = some ty) (hn : narrow ty v = v) (hfit : fits ty v = true) (hl : k < fs.length) (hw : ws.set q0 (a, .inr (ci, fs.set k v)) = ws')
    (hdg : decode cc pc = .ok (.putfield index, 3)) (kk : ∀ (H : Heap) (locs : List Loc), va_P D cl ws' H → va_D A ws' → va_S A H0 H locs → W p l e R s m args below meth c H locs cells slots Q (F0 m (pc + 3) ls rest)) : W p l e R s m args below meth c H locs cells slots Q (F0 m pc ls (v :: .ref a :: rest)) := by
  subst hw
  exact va_put hx hb hts hin ty0 hty hnm hown hK hP hD hS0 q0 he hc k hk hlink hsame hfin hd hn hfit hl hdg kk
end PX
/-! worlds whose addresses stay -/
def px_B (ws : va_W) : Nat → Prop := fun q => ∃ (k : Nat) (e : va_E), ws[k]? = some (q, e)
theorem px_fst {ws ws' : va_W} (h : ws.map (·.1) = ws'.map (·.1)) {i : Nat} {q : Nat × va_E} (hq : ws[i]? = some q) : ∃ e, ws'[i]? = some (q.1, e) := by
  have h1 : (ws.map (·.1))[i]? = some q.1 := by rw [List.getElem?_map, hq]; rfl
  rw [h, List.getElem?_map] at h1
  cases h2 : ws'[i]? with
  | none => rw [h2] at h1; cases h1
  | some r =>
    rw [h2] at h1
    obtain ⟨a, e⟩ := r
    exact ⟨e, by rw [show a = q.1 from Option.some.inj h1]⟩
theorem px_Dm {A : Nat → Prop} {ws ws' : va_W} (hD : va_D A ws) (h : ws'.map (·.1) = ws.map (·.1)) : va_D A ws' := by
  refine ⟨fun i j x y hx hy hxy => ?_, fun k x hx => ?_⟩
  · obtain ⟨e1, h1⟩ := px_fst h hx
    obtain ⟨e2, h2⟩ := px_fst h hy
    exact hD.1 i j _ _ h1 h2 hxy
  · obtain ⟨e1, h1⟩ := px_fst h hx
    exact hD.2 k (x.1, e1) h1
theorem px_Dself {A : Nat → Prop} {ws : va_W} (hD : va_D A ws) : va_D (px_B ws) ws := ⟨hD.1, fun k q h => ⟨k, q.2, h⟩⟩
theorem px_BA {A : Nat → Prop} {ws : va_W} (hD : va_D A ws) : ∀ q, px_B ws q → A q := fun q ⟨k, e, h⟩ => hD.2 k _ h
/-- cells of another world stay -/
theorem px_other {D : va_G} {cl : List vw_C} {A : Nat → Prop} {ws wr : va_W} {H H1 : Heap} (hP : va_P D cl wr H) (hx : ∀ (i j : Nat) (x y : Nat × va_E), ws[i]? = some x → wr[j]? = some y → x.1 ≠ y.1) (hk : ∀ q : Nat, q < H.size → ¬ px_B ws q → H1[q]? = H[q]?) : va_P D cl wr H1 :=
  hP.kept (fun k q hq => hk q.1 (hP k q hq).lt (fun ⟨i, e, h⟩ => hx i k _ _ h hq rfl))
abbrev RdI (l : Launch) (y : MethodName) (wm : List Cond) (rm : Room) (D : va_G) (tys : List (ClassId × FieldType)) (av : List Value) (ws : va_W) (v : Int32) : Prop := Met l y wm rm (va_Pc av (fun U => va_P D vwCl ws U.heap ∧ va_K D vwCl tys U)) (vp_Si (fun r => r = v)) 0 0 (fun _ => False)
abbrev PuI (l : Launch) (y : MethodName) (wm : List Cond) (rm : Room) (av : List Value) (v : Int32) : Prop := Met l y wm rm (va_Pc av (fun _ => True)) (vp_Si (fun r => r = v)) 0 0 (fun _ => False)
abbrev PuL (l : Launch) (y : MethodName) (wm : List Cond) (rm : Room) (av : List Value) (v : Int64) : Prop := Met l y wm rm (va_Pc av (fun _ => True)) (vp_Sl (fun r => r = v)) 0 0 (fun _ => False)
abbrev WrV (l : Launch) (y : MethodName) (wm : List Cond) (rm : Room) (D : va_G) (tys : List (ClassId × FieldType)) (av : List Value) (ws : va_W) {S : Type} (post : S → Prop) (wf : S → va_W) : Prop := Met l y wm rm (va_Pc av (fun U => va_P D vwCl ws U.heap ∧ va_K D vwCl tys U ∧ va_D (px_B ws) ws)) (va_Qv post (fun u t => va_P D vwCl (wf u) t.heap) (px_B ws)) 0 0 (px_B ws)
abbrev WrI (l : Launch) (y : MethodName) (wm : List Cond) (rm : Room) (D : va_G) (tys : List (ClassId × FieldType)) (av : List Value) (ws : va_W) {S : Type} (post : Int32 → S → Prop) (wf : S → va_W) : Prop := Met l y wm rm (va_Pc av (fun U => va_P D vwCl ws U.heap ∧ va_K D vwCl tys U ∧ va_D (px_B ws) ws)) (va_Qi post (fun u t => va_P D vwCl (wf u) t.heap) (px_B ws)) 0 0 (px_B ws)
section PY
variable {p : Program} {l : Launch} {e : Env} {R : Room} {s : State} {m : MethodId} {args : Array Value} {below : List Frame} {meth : Method} {c : Code} {H : Heap} {locs : List Loc} {cells slots : Nat} {Q : State → Prop}
variable {cc bytes : ByteArray} {pc nL maxL n index : Nat} {ls : Array Slot} {rest st0 As : List Value} {D : va_G} {A : Nat → Prop} {b : Nat} {tys : List (ClassId × FieldType)} {ws : va_W} {H0 : Heap} {Ts wm : List Cond} {own : String} {y : MethodName} {rm : Room} {ret : Option FieldType} {v : Int32} {ci : Nat} {fs : List Value} {q : vw_C}
theorem px_rd (S : CallFix p m c cc nL s args Ts own) (hP : va_P D vwCl ws H) (hK : va_K D vwCl tys s) (hM : RdI l y wm rm D tys (.ref b :: As) ws v) (cw : CallW R s args own q.1 index y bytes maxL ret wm rm 0 0 n) (he : ws[0]? = some (b, .inr (ci, fs))) (hc : vwCl[ci]? = some q) (hn : As.length = n) (hl : ls.size = nL) (hst : st0 = As.reverse ++ .ref b :: rest) (hW : (rest.map fun v => v.category).sum ≤ 8) (hdg : decode cc pc = .ok (.invokevirtual index, 3)) (hf : cells ≤ R.cells ∧ slots ≤ R.slots)
    (kk : W p l e R s m args below meth c H locs cells slots Q (F0 m (pc + 3) ls (.int v :: rest))) : W p l e R s m args below meth c H locs cells slots Q (F0 m pc ls st0) :=
  vp_callSi (W.runV (b := b) (As := As) (rest := rest) (g := F0 m pc ls st0) S hM cw ⟨fun a U g mk z => ⟨z.1, z.2.1, va_K.moved (u := U) (U := U.calling g mk a) (Vm.Alike.refl U.vm) z.2.2⟩, va_recv hK hP hc he, fun U hU hW => ⟨rfl, by rw [hU]; exact hP, va_K.moved hW.alike hK⟩⟩ rfl hn hl hst (lv_room hW) hdg hf) (fun r hr => by rw [hr]; exact kk)
theorem px_pu (S : CallFix p m c cc nL s args Ts own) (hM : PuI l y wm rm As v) (cw : CallB R s args own index y bytes maxL ret wm rm 0 0 n ∧ (Cond.static y).before args s = true) (hn : As.length = n) (hl : ls.size = nL) (hst : st0 = As.reverse ++ rest) (hW : (rest.map fun v => v.category).sum ≤ 8) (hdg : decode cc pc = .ok (.invokestatic index, 3)) (hf : cells ≤ R.cells ∧ slots ≤ R.slots)
    (kk : W p l e R s m args below meth c H locs cells slots Q (F0 m (pc + 3) ls (.int v :: rest))) : W p l e R s m args below meth c H locs cells slots Q (F0 m pc ls st0) :=
  vp_callSi (W.runS (As := As) (rest := rest) (g := F0 m pc ls st0) S hM cw ⟨fun a U g mk z => ⟨z.1, trivial⟩, fun U hU hW => ⟨rfl, trivial⟩⟩ rfl hn hl hst (lv_room hW) hdg hf) (fun r hr => by rw [hr]; exact kk)
theorem px_pl {v : Int64} (S : CallFix p m c cc nL s args Ts own) (hM : PuL l y wm rm As v) (cw : CallB R s args own index y bytes maxL ret wm rm 0 0 n ∧ (Cond.static y).before args s = true) (hn : As.length = n) (hl : ls.size = nL) (hst : st0 = As.reverse ++ rest) (hW : (rest.map fun v => v.category).sum ≤ 8) (hdg : decode cc pc = .ok (.invokestatic index, 3)) (hf : cells ≤ R.cells ∧ slots ≤ R.slots)
    (kk : W p l e R s m args below meth c H locs cells slots Q (F0 m (pc + 3) ls (.long v :: rest))) : W p l e R s m args below meth c H locs cells slots Q (F0 m pc ls st0) :=
  vp_callSl (W.runS (As := As) (rest := rest) (g := F0 m pc ls st0) S hM cw ⟨fun a U g mk z => ⟨z.1, trivial⟩, fun U hU hW => ⟨rfl, trivial⟩⟩ rfl hn hl hst (lv_room hW) hdg hf) (fun r hr => by rw [hr]; exact kk)
theorem px_wv {σ : Type} {post : σ → Prop} {wf : σ → va_W} (S : CallFix p m c cc nL s args Ts own) (hP : va_P D vwCl ws H) (hK : va_K D vwCl tys s) (hD : va_D A ws) (hS : va_S A H0 H locs) (hM : WrV l y wm rm D tys (.ref b :: As) ws post wf) (hm : ∀ u, (wf u).map (·.1) = ws.map (·.1)) (cw : CallW R s args own q.1 index y bytes maxL ret wm rm 0 0 n) (he : ws[0]? = some (b, .inr (ci, fs))) (hc : vwCl[ci]? = some q) (hn : As.length = n) (hl : ls.size = nL) (hst : st0 = As.reverse ++ .ref b :: rest) (hW : (rest.map fun v => v.category).sum ≤ 8) (hdg : decode cc pc = .ok (.invokevirtual index, 3)) (hf : cells ≤ R.cells ∧ slots ≤ R.slots)
    (kk : ∀ (u : σ) (H1 : Heap) (locs1 : List Loc), post u → va_P D vwCl (wf u) H1 → va_D A (wf u) → va_S A H0 H1 locs1 → (∀ q : Nat, q < H.size → ¬ px_B ws q → H1[q]? = H[q]?) → W p l e R s m args below meth c H1 locs1 cells slots Q (F0 m (pc + 3) ls rest)) : W p l e R s m args below meth c H locs cells slots Q (F0 m pc ls st0) := by
  refine va_callv (va_runV (b := b) (As := As) (rest := rest) (g := F0 m pc ls st0) S hM cw ⟨fun a U g mk z => ⟨z.1, z.2.1, va_K.moved (u := U) (U := U.calling g mk a) (Vm.Alike.refl U.vm) z.2.2.1, z.2.2.2⟩, va_recv hK hP hc he, fun U hU hW => ⟨rfl, by rw [hU]; exact hP, va_K.moved hW.alike hK, px_Dself hD⟩⟩ rfl hn hl hst (lv_room hW) hdg hf) hS (fun q _ h => px_BA hD q h) (px_BA hD) ?_
  intro u t H1 locs1 ht hvm hw hB hz hk hS1
  exact kk u H1 locs1 hw (by rw [← ht]; exact hB) (px_Dm hD (hm u)) hS1 hk
theorem px_wi {σ : Type} {post : Int32 → σ → Prop} {wf : σ → va_W} (S : CallFix p m c cc nL s args Ts own) (hP : va_P D vwCl ws H) (hK : va_K D vwCl tys s) (hD : va_D A ws) (hS : va_S A H0 H locs) (hM : WrI l y wm rm D tys (.ref b :: As) ws post wf) (hm : ∀ u, (wf u).map (·.1) = ws.map (·.1)) (cw : CallW R s args own q.1 index y bytes maxL ret wm rm 0 0 n) (he : ws[0]? = some (b, .inr (ci, fs))) (hc : vwCl[ci]? = some q) (hn : As.length = n) (hl : ls.size = nL) (hst : st0 = As.reverse ++ .ref b :: rest) (hW : (rest.map fun v => v.category).sum ≤ 8) (hdg : decode cc pc = .ok (.invokevirtual index, 3)) (hf : cells ≤ R.cells ∧ slots ≤ R.slots)
    (kk : ∀ (r : Int32) (u : σ) (H1 : Heap) (locs1 : List Loc), post r u → va_P D vwCl (wf u) H1 → va_D A (wf u) → va_S A H0 H1 locs1 → (∀ q : Nat, q < H.size → ¬ px_B ws q → H1[q]? = H[q]?) → W p l e R s m args below meth c H1 locs1 cells slots Q (F0 m (pc + 3) ls (.int r :: rest))) : W p l e R s m args below meth c H locs cells slots Q (F0 m pc ls st0) := by
  refine va_calli (va_runV (b := b) (As := As) (rest := rest) (g := F0 m pc ls st0) S hM cw ⟨fun a U g mk z => ⟨z.1, z.2.1, va_K.moved (u := U) (U := U.calling g mk a) (Vm.Alike.refl U.vm) z.2.2.1, z.2.2.2⟩, va_recv hK hP hc he, fun U hU hW => ⟨rfl, by rw [hU]; exact hP, va_K.moved hW.alike hK, px_Dself hD⟩⟩ rfl hn hl hst (lv_room hW) hdg hf) hS (fun q _ h => px_BA hD q h) (px_BA hD) ?_
  intro r u t H1 locs1 ht hvm hw hB hz hk hS1
  exact kk r u H1 locs1 hw (by rw [← ht]; exact hB) (px_Dm hD (hm u)) hS1 hk
/-- ends of methods that only read -/
theorem px_ri (hx : p.tables.exec = Jvm.exec) (hb : c.code = cc) (hr : meth.sig.returnType = some .int) (hlk : meth.locks = false) {w : Int32} (hv : w = v) (hdg : decode cc pc = .ok (.ireturn, 1)) : W p l e R s m args below meth c s.heap [] 0 0 (MQ below (vp_Si (fun r => r = v)) args s 0 0 (fun _ => False)) (F0 m pc ls [.int w]) :=
  W.iret hx hb hr (fun t ht _ => ⟨w, rfl, hv, ht⟩) (fun _ h => by cases h) hdg
theorem px_rz (hx : p.tables.exec = Jvm.exec) (hb : c.code = cc) (hr : meth.sig.returnType = some .boolean) (hlk : meth.locks = false) {w : Bool} (hv : px_b w = v) (hdg : decode cc pc = .ok (.ireturn, 1)) : W p l e R s m args below meth c s.heap [] 0 0 (MQ below (vp_Si (fun r => r = v)) args s 0 0 (fun _ => False)) (F0 m pc ls [.int (px_b w)]) :=
  W.zret hx hb hr (px_b_nar w) (fun t ht _ => ⟨px_b w, rfl, hv, ht⟩) (fun _ h => by cases h) hdg
theorem px_rl (hx : p.tables.exec = Jvm.exec) (hb : c.code = cc) (hr : meth.sig.returnType = some .long) (hlk : meth.locks = false) {w v : Int64} (hv : w = v) (hdg : decode cc pc = .ok (.lreturn, 1)) : W p l e R s m args below meth c s.heap [] 0 0 (MQ below (vp_Sl (fun r => r = v)) args s 0 0 (fun _ => False)) (F0 m pc ls [.long w]) :=
  W.lret hx hb hr (fun t ht _ => ⟨w, rfl, hv, ht⟩) (fun _ h => by cases h) hdg
/-- ends of methods that write in their own cells -/
theorem px_ev {σ : Type} {post : σ → Prop} {wf : σ → va_W} (hx : p.tables.exec = Jvm.exec) (hb : c.code = cc) (hr : meth.sig.returnType = none) (hlk : meth.locks = false) (hS : va_S A s.heap H locs) (u : σ) (hp : post u) (hP : va_P D vwCl (wf u) H) (hdg : decode cc pc = .ok (.return_, 1)) : W p l e R s m args below meth c H locs cells slots (MQ below (va_Qv post (fun u t => va_P D vwCl (wf u) t.heap) A) args s cells slots A) (F0 m pc ls []) :=
  W.vret hx hb hr (fun t ht _ => ⟨⟨u, rfl, hp, (by rw [ht]; exact hP : va_P D vwCl (wf u) t.heap)⟩, hS.F ht⟩) hS.2.2 hdg
theorem px_ei {σ : Type} {post : Int32 → σ → Prop} {wf : σ → va_W} (hx : p.tables.exec = Jvm.exec) (hb : c.code = cc) (hr : meth.sig.returnType = some .int) (hlk : meth.locks = false) (hS : va_S A s.heap H locs) {w : Int32} (u : σ) (hp : post w u) (hP : va_P D vwCl (wf u) H) (hdg : decode cc pc = .ok (.ireturn, 1)) : W p l e R s m args below meth c H locs cells slots (MQ below (va_Qi post (fun u t => va_P D vwCl (wf u) t.heap) A) args s cells slots A) (F0 m pc ls [.int w]) :=
  W.iret hx hb hr (fun t ht _ => ⟨⟨w, u, rfl, hp, (by rw [ht]; exact hP : va_P D vwCl (wf u) t.heap)⟩, hS.F ht⟩) hS.2.2 hdg
theorem px_ez {σ : Type} {post : Int32 → σ → Prop} {wf : σ → va_W} (hx : p.tables.exec = Jvm.exec) (hb : c.code = cc) (hr : meth.sig.returnType = some .boolean) (hlk : meth.locks = false) (hS : va_S A s.heap H locs) {w : Bool} (u : σ) (hp : post (px_b w) u) (hP : va_P D vwCl (wf u) H) (hdg : decode cc pc = .ok (.ireturn, 1)) : W p l e R s m args below meth c H locs cells slots (MQ below (va_Qi post (fun u t => va_P D vwCl (wf u) t.heap) A) args s cells slots A) (F0 m pc ls [.int (px_b w)]) :=
  W.zret hx hb hr (px_b_nar w) (fun t ht _ => ⟨⟨px_b w, u, rfl, hp, (by rw [ht]; exact hP : va_P D vwCl (wf u) t.heap)⟩, hS.F ht⟩) hS.2.2 hdg
end PY
/-! the two worlds -/
abbrev tyq (cI cJ cZ : ClassId) : List (ClassId × FieldType) := [(cI, .int), (cJ, .long), (cZ, .boolean)]
abbrev w0 (cI cJ cZ : ClassId) (ad : Nat → Nat) (pt co gv : Int32) (E : Nat → Int64) (G C Wi O IO NI CF : Nat → Int32) : va_W :=
  [(ad 0, .inr (0, [.int pt, .int co, .int gv, .ref (ad 1), .ref (ad 2), .ref (ad 3), .ref (ad 4), .ref (ad 5), .ref (ad 6), .ref (ad 7), .ref (ad 8)])), (ad 1, .inl (cJ, 800, .inr (.inl E))), (ad 2, .inl (cI, 200, .inl G)), (ad 3, .inl (cI, 200, .inl C)), (ad 4, .inl (cI, 200, .inl Wi)), (ad 5, .inl (cI, 200, .inl O)), (ad 6, .inl (cZ, 200, .inl IO)), (ad 7, .inl (cI, 200, .inl NI)), (ad 8, .inl (cI, 200, .inl CF))]
abbrev w1 (cI cZ : ClassId) (bd : Nat → Nat) (n k gv : Int32) (PA C Wi CO RW IN : Nat → Int32) : va_W :=
  [(bd 0, .inr (1, [.ref (bd 1), .ref (bd 2), .ref (bd 3), .ref (bd 4), .ref (bd 5), .ref (bd 6), .int n, .int k, .int gv])), (bd 1, .inl (cZ, 40000, .inl PA)), (bd 2, .inl (cI, 200, .inl C)), (bd 3, .inl (cI, 200, .inl Wi)), (bd 4, .inl (cI, 200, .inl CO)), (bd 5, .inl (cI, 200, .inl RW)), (bd 6, .inl (cZ, 200, .inl IN))]
/-- a world may be told by other functions that are the same within the lengths -/
theorem px_at {D : va_G} {cl : List vw_C} {ws ws' : va_W} {H : Heap} (h : va_P D cl ws H) (hc : ∀ (k : Nat) (q' : Nat × va_E), ws'[k]? = some q' → ∃ q : Nat × va_E, ws[k]? = some q ∧ (va_at D cl q H → va_at D cl q' H)) : va_P D cl ws' H := fun k q' hq => by
  obtain ⟨q, h1, h2⟩ := hc k q' hq
  exact h2 (h k q h1)
theorem px_cell {cA : ClassId} {n : Nat} {f g : Nat → Int32} (h : ∀ j, j < n → f j = g j) : vp_cell cA (n, .inl f) = vp_cell cA (n, .inl g) := by
  rw [vp_cell_i, vp_cell_i]
  unfold arrV
  congr 1
  apply Array.ext (by simp)
  intro i h1 h2
  simp at h1
  simp [h i h1]
theorem px_cellL {cA : ClassId} {n : Nat} {f g : Nat → Int64} (h : ∀ j, j < n → f j = g j) : vp_cell cA (n, .inr (.inl f)) = vp_cell cA (n, .inr (.inl g)) := by
  rw [vp_cell_l, vp_cell_l]
  unfold arrV
  congr 1
  apply Array.ext (by simp)
  intro i h1 h2
  simp at h1
  simp [h i h1]
