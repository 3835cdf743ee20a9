/-! what the two have in common -/
def pm_R (n k : Nat) (g : Bool) (J : Nat → Nat → Bool) (cst ws : Nat → Nat) (E : Nat → Int64) (G C Wi O CF PA C1 Wi1 CO RW : Nat → Int32) : Prop :=
  (1 ≤ n ∧ n ≤ 200 ∧ 1 ≤ k ∧ k ≤ 30) ∧ (∀ a b, J a b = J b a) ∧ (∀ a b, a < 200 → b < 200 → pm_ed E a b = J a b) ∧ (∀ a b, a < 200 → b < 200 → PA (200 * a + b) = px_b (J a b)) ∧
  (∀ a, a < n → G a = nI (pm_cn (J a) n)) ∧ (∀ a, a < 200 → C a = nI (cst a)) ∧ (∀ a, a < 200 → C1 a = nI (cst a)) ∧ (∀ a, cst a ≤ 1000000) ∧
  (∀ a, a < n → ws a < n) ∧ (∀ a, a < n → Wi a = if ws a = a then -1 else nI (ws a)) ∧ (∀ a, a < n → Wi1 a = nI (ws a)) ∧
  (g = true → (∀ i, i < n → O i = RW i) ∧ (∀ a, a < n → CF a = CO a) ∧ ∀ a, a < n → pm_ok k (CO a))
theorem pm_R_begin {i j : Nat} (h1 : 1 ≤ i) (h2 : i ≤ 200) (h3 : 1 ≤ j) (h4 : j ≤ 30) (O CF CO RW : Nat → Int32) : pm_R i j false (fun _ _ => false) (fun _ => 0) (fun a => a) (fun _ => 0) (fun _ => nI 0) (fun _ => nI 0) (fun _ => -1) O CF (fun _ => px_b false) (fun _ => nI 0) (fun a => nI a) CO RW := by
  refine ⟨⟨h1, h2, h3, h4⟩, fun _ _ => rfl, fun a b _ _ => ?_, fun _ _ _ _ => rfl, fun a _ => ?_, fun _ _ => rfl, fun _ _ => rfl, fun _ => Nat.zero_le _, fun a h => h, fun a _ => ?_, fun _ _ => rfl, fun h => by cases h⟩
  · simp [pm_ed]
  · rw [pm_cn_zero (fun _ _ => rfl)]
  · simp
theorem pm_ed_add {E : Nat → Int64} {a b x y : Nat} (hb : b < 200) (hy : y < 200) : pm_ed (vp_updL E (a * 4 + b / 64) (E (a * 4 + b / 64) ||| pm_bit b)) x y = (pm_ed E x y || (decide (x = a) && decide (y = b))) := by
  rw [pm_ed]
  by_cases q : x * 4 + y / 64 = a * 4 + b / 64
  · rw [q, pk_uLs, pm_bit_or, ← q]
    have h1 : x = a := by omega
    have h2 : y % 64 = b % 64 ↔ y = b := by omega
    rw [← pm_ed]
    simp [h1, h2]
  · rw [pk_uLn q, ← pm_ed]
    have h1 : ¬ (x = a ∧ y = b) := fun z => q (by rw [z.1, z.2])
    by_cases z : x = a
    · have : ¬ y = b := fun y2 => h1 ⟨z, y2⟩
      simp [this]
    · simp [z]
def pm_J (J : Nat → Nat → Bool) (a b : Nat) : Nat → Nat → Bool := fun x y => (J x y || (decide (x = a) && decide (y = b))) || (decide (x = b) && decide (y = a))
theorem pm_R_join {n k : Nat} {g : Bool} {J : Nat → Nat → Bool} {cst ws : Nat → Nat} {E : Nat → Int64} {G C Wi O CF PA C1 Wi1 CO RW : Nat → Int32} (h : pm_R n k g J cst ws E G C Wi O CF PA C1 Wi1 CO RW) {a b : Nat} (ha : a < n) (hb : b < n) (hab : a ≠ b) (hJ : J a b = false) :
    pm_R n k false (pm_J J a b) cst ws (vp_updL (vp_updL E (a * 4 + b / 64) (E (a * 4 + b / 64) ||| pm_bit b)) (b * 4 + a / 64) ((vp_updL E (a * 4 + b / 64) (E (a * 4 + b / 64) ||| pm_bit b)) (b * 4 + a / 64) ||| pm_bit a)) (upd (upd G a (G a + nI 1)) b ((upd G a (G a + nI 1)) b + nI 1)) C Wi O CF (upd (upd PA (200 * a + b) (px_b true)) (200 * b + a) (px_b true)) C1 Wi1 CO RW := by
  obtain ⟨r1, r2, r3, r4, r5, r6, r7, r8, r9, r10, r11, r12⟩ := h
  have hJ2 : J b a = false := by rw [r2]; exact hJ
  refine ⟨r1, fun x y => ?_, fun x y hx hy => ?_, fun x y hx hy => ?_, fun x hx => ?_, r6, r7, r8, r9, r10, r11, fun q => by cases q⟩
  · simp only [pm_J]
    rw [r2 x y]
    cases J y x <;> by_cases z1 : x = a <;> by_cases z2 : x = b <;> by_cases z3 : y = a <;> by_cases z4 : y = b <;> simp [z1, z2, z3, z4] <;> omega
  · rw [pm_ed_add (by omega) hy, pm_ed_add (by omega) hy, r3 x y hx hy]; rfl
  · simp only [pm_J]
    by_cases q1 : 200 * x + y = 200 * b + a
    · have e1 : x = b := by omega
      have e2 : y = a := by omega
      rw [q1, pk_us]; simp [e1, e2]
    · rw [pk_un q1]
      by_cases q2 : 200 * x + y = 200 * a + b
      · have e1 : x = a := by omega
        have e2 : y = b := by omega
        rw [q2, pk_us]; simp [e1, e2]
      · rw [pk_un q2, r4 x y hx hy]
        congr 1
        by_cases z1 : x = a <;> by_cases z2 : x = b <;> by_cases z3 : y = a <;> by_cases z4 : y = b <;> simp [z1, z2, z3, z4] <;> omega
  · by_cases z : x = b
    · subst z
      rw [pk_us, pk_un (Ne.symm hab), r5 x hx, nI_add]
      congr 1
      symm
      refine pm_cn_rm (a := a) (by simp [pm_J]) ha (fun y _ => ?_)
      have z5 : ¬ x = a := Ne.symm hab
      by_cases z3 : y = a
      · simp [pm_J, z3, hJ2]
      · simp [pm_J, z3, z5]
    · rw [pk_un z]
      by_cases z1 : x = a
      · subst z1
        rw [pk_us, r5 x hx, nI_add]
        congr 1
        symm
        refine pm_cn_rm (a := b) (by simp [pm_J]) hb (fun y _ => ?_)
        by_cases z3 : y = b
        · simp [pm_J, z3, hJ]
        · simp [pm_J, z3, z]
      · rw [pk_un z1, r5 x hx]
        congr 1
        exact pm_cn_congr (fun y _ => by simp [pm_J, z, z1])
theorem pm_R_cost {n k : Nat} {g : Bool} {J : Nat → Nat → Bool} {cst ws : Nat → Nat} {E : Nat → Int64} {G C Wi O CF PA C1 Wi1 CO RW : Nat → Int32} (h : pm_R n k g J cst ws E G C Wi O CF PA C1 Wi1 CO RW) {a x : Nat} (hx : x ≤ 1000000) :
    pm_R n k false J (fun q => if q = a then x else cst q) ws E G (upd C a (nI x)) Wi O CF PA (upd C1 a (nI x)) Wi1 CO RW := by
  obtain ⟨r1, r2, r3, r4, r5, r6, r7, r8, r9, r10, r11, r12⟩ := h
  refine ⟨r1, r2, r3, r4, r5, fun q hq => ?_, fun q hq => ?_, fun q => ?_, r9, r10, r11, fun q => by cases q⟩
  · show _ = nI (if q = a then x else cst q)
    by_cases z : q = a
    · rw [z, pk_us, if_pos rfl]
    · rw [pk_un z, if_neg z]; exact r6 q hq
  · show _ = nI (if q = a then x else cst q)
    by_cases z : q = a
    · rw [z, pk_us, if_pos rfl]
    · rw [pk_un z, if_neg z]; exact r7 q hq
  · show (if q = a then x else cst q) ≤ _
    split
    · exact hx
    · exact r8 q
theorem pm_R_wish {n k : Nat} {g : Bool} {J : Nat → Nat → Bool} {cst ws : Nat → Nat} {E : Nat → Int64} {G C Wi O CF PA C1 Wi1 CO RW : Nat → Int32} (h : pm_R n k g J cst ws E G C Wi O CF PA C1 Wi1 CO RW) {a b : Nat} (hb : b < n) :
    pm_R n k false J cst (fun q => if q = a then b else ws q) E G C (upd Wi a (if a = b then -1 else nI b)) O CF PA C1 (upd Wi1 a (nI b)) CO RW := by
  obtain ⟨r1, r2, r3, r4, r5, r6, r7, r8, r9, r10, r11, r12⟩ := h
  refine ⟨r1, r2, r3, r4, r5, r6, r7, r8, fun q hq => ?_, fun q hq => ?_, fun q hq => ?_, fun q => by cases q⟩
  · show (if q = a then b else ws q) < n
    split
    · exact hb
    · exact r9 q hq
  · show _ = if (if q = a then b else ws q) = q then -1 else nI (if q = a then b else ws q)
    by_cases z : q = a
    · subst z
      rw [pk_us, if_pos rfl]
      by_cases y : q = b
      · rw [if_pos y, if_pos y.symm]
      · rw [if_neg y, if_neg (Ne.symm y)]
    · rw [pk_un z, if_neg z]; exact r10 q hq
  · show _ = nI (if q = a then b else ws q)
    by_cases z : q = a
    · rw [z, pk_us, if_pos rfl]
    · rw [pk_un z, if_neg z]; exact r11 q hq
theorem pm_R_give {n k : Nat} {g : Bool} {J : Nat → Nat → Bool} {cst ws : Nat → Nat} {E : Nat → Int64} {G C Wi O CF PA C1 Wi1 CO RW : Nat → Int32} (h : pm_R n k g J cst ws E G C Wi O CF PA C1 Wi1 CO RW) {O' CO' RW' : Nat → Int32} (h1 : ∀ i, i < n → O' i = nI (pm_od J n k cst i)) (h2 : ∀ i, i < n → RW' i = nI (pm_od J n k cst i)) (h3 : ∀ a, a < n → CO' a = pm_cs J n k cst ws n a) :
    pm_R n k true J cst ws E G C Wi O' (pm_cs J n k cst ws n) PA C1 Wi1 CO' RW' := by
  obtain ⟨r1, r2, r3, r4, r5, r6, r7, r8, r9, r10, r11, r12⟩ := h
  exact ⟨r1, r2, r3, r4, r5, r6, r7, r8, r9, r10, r11, fun _ => ⟨fun i hi => by rw [h1 i hi, h2 i hi], fun a ha => (h3 a ha).symm, fun a ha => by rw [h3 a ha]; exact pm_cs_ok J n k cst ws n a⟩⟩
theorem pm_rd_congr {g : Bool} {n : Nat} {F F' : Nat → Int32} (hn : n < 2 ^ 31) (h : g = true → ∀ a, a < n → F a = F' a) (a : Int32) : pm_rd g n F a = pm_rd g n F' a := by
  cases g with
  | false => rw [pm_rd_g, pm_rd_g]
  | true =>
    cases hp : pm_pt n a with
    | false => rw [pm_rd_n hp, pm_rd_n hp]
    | true =>
      obtain ⟨j, hj, rfl⟩ := pm_pt_of hn hp
      rw [pm_rd_t hn hj, pm_rd_t hn hj, h rfl j hj]
theorem pm_sm_congr {f g : Nat → Nat} : ∀ {n : Nat}, (∀ b, b < n → f b = g b) → pm_sm f n = pm_sm g n := by
  intro n
  induction n with
  | zero => intro _; rfl
  | succ n ih => intro h; rw [pm_sm, pm_sm, ih (fun b hb => h b (by omega)), h n (by omega)]
theorem pm_st_congr {J : Nat → Nat → Bool} {n : Nat} {F F' : Nat → Int32} (h : ∀ a, a < n → F a = F' a) : pm_st J F n = pm_st J F' n :=
  pm_sm_congr (fun a ha => pm_cn_congr (fun b hb => by rw [pm_sy, pm_sy, h a ha, h b hb]))
theorem pm_str {J : Nat → Nat → Bool} {n : Nat} {g : Bool} {F F' : Nat → Int32} (h : g = true → ∀ a, a < n → F a = F' a) : nI (if g = true then pm_st J F n else 0) = nI (if g = true then pm_st J F' n else 0) := by
  cases g with
  | false => rfl
  | true => rw [if_pos rfl, if_pos rfl, pm_st_congr (h rfl)]
/-! the two worlds lie apart -/
theorem px_adr0 {cI cJ cZ : ClassId} {ad : Nat → Nat} {pt co gv : Int32} {E : Nat → Int64} {G C Wi O IO NI CF : Nat → Int32} {i : Nat} {x : Nat × va_E} (h : (w0 cI cJ cZ ad pt co gv E G C Wi O IO NI CF)[i]? = some x) : i < 9 ∧ x.1 = ad i := by
  match i, h with
  | 0, h => cases h; exact ⟨by decide, rfl⟩
  | 1, h => cases h; exact ⟨by decide, rfl⟩
  | 2, h => cases h; exact ⟨by decide, rfl⟩
  | 3, h => cases h; exact ⟨by decide, rfl⟩
  | 4, h => cases h; exact ⟨by decide, rfl⟩
  | 5, h => cases h; exact ⟨by decide, rfl⟩
  | 6, h => cases h; exact ⟨by decide, rfl⟩
  | 7, h => cases h; exact ⟨by decide, rfl⟩
  | 8, h => cases h; exact ⟨by decide, rfl⟩
  | i + 9, h => simp at h
theorem px_adr1 {cI cZ : ClassId} {bd : Nat → Nat} {n k gv : Int32} {PA C Wi CO RW IN : Nat → Int32} {i : Nat} {x : Nat × va_E} (h : (w1 cI cZ bd n k gv PA C Wi CO RW IN)[i]? = some x) : i < 7 ∧ x.1 = bd i := by
  match i, h with
  | 0, h => cases h; exact ⟨by decide, rfl⟩
  | 1, h => cases h; exact ⟨by decide, rfl⟩
  | 2, h => cases h; exact ⟨by decide, rfl⟩
  | 3, h => cases h; exact ⟨by decide, rfl⟩
  | 4, h => cases h; exact ⟨by decide, rfl⟩
  | 5, h => cases h; exact ⟨by decide, rfl⟩
  | 6, h => cases h; exact ⟨by decide, rfl⟩
  | i + 7, h => simp at h
theorem px_sep01 {cI cJ cZ cI2 cZ2 : ClassId} {ad bd : Nat → Nat} {pt co gv : Int32} {E : Nat → Int64} {G C Wi O IO NI CF : Nat → Int32} {n k gv2 : Int32} {PA C2 Wi2 CO RW IN : Nat → Int32} (h : ∀ i j, i < 9 → j < 7 → ad i ≠ bd j) (i j : Nat) (x y : Nat × va_E) (hx : (w0 cI cJ cZ ad pt co gv E G C Wi O IO NI CF)[i]? = some x) (hy : (w1 cI2 cZ2 bd n k gv2 PA C2 Wi2 CO RW IN)[j]? = some y) : x.1 ≠ y.1 := by
  obtain ⟨h1, e1⟩ := px_adr0 hx
  obtain ⟨h2, e2⟩ := px_adr1 hy
  rw [e1, e2]; exact h i j h1 h2
theorem px_sep10 {cI cJ cZ cI2 cZ2 : ClassId} {ad bd : Nat → Nat} {pt co gv : Int32} {E : Nat → Int64} {G C Wi O IO NI CF : Nat → Int32} {n k gv2 : Int32} {PA C2 Wi2 CO RW IN : Nat → Int32} (h : ∀ i j, i < 9 → j < 7 → ad i ≠ bd j) (j i : Nat) (y x : Nat × va_E) (hy : (w1 cI2 cZ2 bd n k gv2 PA C2 Wi2 CO RW IN)[j]? = some y) (hx : (w0 cI cJ cZ ad pt co gv E G C Wi O IO NI CF)[i]? = some x) : y.1 ≠ x.1 :=
  Ne.symm (px_sep01 h i j x y hx hy)
theorem pm_head {L i : Nat} (hL : L < 2 ^ 30) (hi : i < 2 ^ 30) : nI L - nI 3 < nI i ↔ L < i + 3 := by
  rw [Int32.lt_iff_toInt_lt, pk_sub_toInt hL (by decide), nI_toInt (by omega)]
  omega
