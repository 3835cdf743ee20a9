section PX2
variable {p : Program} {l : Launch} {e : Env} {R : Room} {s : State} {m : MethodId} {args : Array Value} {below : List Frame} {meth : Method} {c : Code} {H : Heap} {locs : List Loc} {cells slots : Nat} {Q : State → Prop}
variable {cc : ByteArray} {pc : Nat} {ls : Array Slot} {rest : List Value}
theorem px_lt (hx : p.tables.exec = Jvm.exec) (hb : c.code = cc) {a b : Nat} {off : Int} {tgt : Nat} (hdg : decode cc pc = .ok (.if_icmp .lt off, 3)) (ht : (pc : Int) + off = (tgt : Int)) (ha : a < 2 ^ 31) (hc : b < 2 ^ 31)
    (kt : a < b → W p l e R s m args below meth c H locs cells slots Q (F0 m tgt ls rest)) (kf : b ≤ a → W p l e R s m args below meth c H locs cells slots Q (F0 m (pc + 3) ls rest)) : W p l e R s m args below meth c H locs cells slots Q (F0 m pc ls (.int (nI b) :: .int (nI a) :: rest)) :=
  lv_icmp_lt hx hb hdg ht (fun h => kt ((nI_ltI ha hc).mp h)) (fun h => kf (Nat.le_of_not_lt fun q => h ((nI_ltI ha hc).mpr q)))
theorem px_le (hx : p.tables.exec = Jvm.exec) (hb : c.code = cc) {a b : Nat} {off : Int} {tgt : Nat} (hdg : decode cc pc = .ok (.if_icmp .le off, 3)) (ht : (pc : Int) + off = (tgt : Int)) (ha : a < 2 ^ 31) (hc : b < 2 ^ 31)
    (kt : a ≤ b → W p l e R s m args below meth c H locs cells slots Q (F0 m tgt ls rest)) (kf : b < a → W p l e R s m args below meth c H locs cells slots Q (F0 m (pc + 3) ls rest)) : W p l e R s m args below meth c H locs cells slots Q (F0 m pc ls (.int (nI b) :: .int (nI a) :: rest)) :=
  lv_icmp_le hx hb hdg ht (fun h => kt ((nI_leI ha hc).mp h)) (fun h => kf (Nat.lt_of_not_le fun q => h ((nI_leI ha hc).mpr q)))
theorem px_eq (hx : p.tables.exec = Jvm.exec) (hb : c.code = cc) {a b : Nat} {off : Int} {tgt : Nat} (hdg : decode cc pc = .ok (.if_icmp .eq off, 3)) (ht : (pc : Int) + off = (tgt : Int)) (ha : a < 2 ^ 31) (hc : b < 2 ^ 31)
    (kt : a = b → W p l e R s m args below meth c H locs cells slots Q (F0 m tgt ls rest)) (kf : a ≠ b → W p l e R s m args below meth c H locs cells slots Q (F0 m (pc + 3) ls rest)) : W p l e R s m args below meth c H locs cells slots Q (F0 m pc ls (.int (nI b) :: .int (nI a) :: rest)) :=
  lv_icmp_eq hx hb hdg ht (fun h => kt ((nI_eq ha hc).mp h)) (fun h => kf fun q => h ((nI_eq ha hc).mpr q))
theorem px_ne (hx : p.tables.exec = Jvm.exec) (hb : c.code = cc) {a b : Nat} {off : Int} {tgt : Nat} (hdg : decode cc pc = .ok (.if_icmp .ne off, 3)) (ht : (pc : Int) + off = (tgt : Int)) (ha : a < 2 ^ 31) (hc : b < 2 ^ 31)
    (kt : a ≠ b → W p l e R s m args below meth c H locs cells slots Q (F0 m tgt ls rest)) (kf : a = b → W p l e R s m args below meth c H locs cells slots Q (F0 m (pc + 3) ls rest)) : W p l e R s m args below meth c H locs cells slots Q (F0 m pc ls (.int (nI b) :: .int (nI a) :: rest)) :=
  lv_icmp_ne hx hb hdg ht (fun h => kt fun q => h ((nI_eq ha hc).mpr q)) (fun h => kf (by
    by_cases q : nI a = nI b
    · exact (nI_eq ha hc).mp q
    · first | exact absurd q h | exact (nI_eq ha hc).mp h))
theorem px_top {x y : Int32} (h : x = y) (k : W p l e R s m args below meth c H locs cells slots Q (F0 m pc ls (.int y :: rest))) : W p l e R s m args below meth c H locs cells slots Q (F0 m pc ls (.int x :: rest)) := h ▸ k
theorem px_topl {x y : Int64} (h : x = y) (k : W p l e R s m args below meth c H locs cells slots Q (F0 m pc ls (.long y :: rest))) : W p l e R s m args below meth c H locs cells slots Q (F0 m pc ls (.long x :: rest)) := h ▸ k
end PX2
theorem pm_m1 {j : Nat} (hj : j < 2 ^ 31) : ¬ nI j = -1 := fun h => by
  have h1 := congrArg Int32.toInt h
  rw [nI_toInt hj] at h1
  have h2 : (-1 : Int32).toInt = -1 := by decide +kernel
  rw [h2] at h1
  omega
theorem pm_ft_none {f : Nat → Bool} {i : Nat} (h : pm_ft f i = none) (hf : f i = false) : pm_ft f (i + 1) = none := by simp [pm_ft, h, hf]
theorem pm_ft_here {f : Nat → Bool} {i n : Nat} (h : pm_ft f i = none) (hf : f i = true) (hn : i < n) : pm_ft f n = some i := by
  obtain ⟨d, rfl⟩ : ∃ d, n = i + 1 + d := ⟨n - (i + 1), by omega⟩
  induction d with
  | zero => simp [pm_ft, h, hf]
  | succ d ih => rw [show i + 1 + (d + 1) = (i + 1 + d) + 1 from rfl, pm_ft, ih (by omega)]
theorem pm_ft_lt {f : Nat → Bool} {n a : Nat} (h : pm_ft f n = some a) : a < n ∧ f a = true := by
  induction n with
  | zero => simp [pm_ft] at h
  | succ n ih =>
    rw [pm_ft] at h
    cases h1 : pm_ft f n with
    | some b =>
      rw [h1] at h
      obtain rfl := Option.some.inj h
      exact ⟨by have := (ih h1).1; omega, (ih h1).2⟩
    | none =>
      rw [h1] at h
      by_cases hf : f n = true
      · simp [hf] at h; subst h; exact ⟨by omega, hf⟩
      · simp [hf] at h
theorem pm_cn_le (f : Nat → Bool) (n : Nat) : pm_cn f n ≤ n := by
  induction n with
  | zero => simp [pm_cn]
  | succ n ih => rw [pm_cn]; split <;> omega
theorem pm_cn_1 {f : Nat → Bool} {i : Nat} (h : f i = true) : pm_cn f (i + 1) = pm_cn f i + 1 := by simp [pm_cn, h]
theorem pm_cn_0 {f : Nat → Bool} {i : Nat} (h : f i = false) : pm_cn f (i + 1) = pm_cn f i := by simp [pm_cn, h]
theorem pm_lf_le (J : Nat → Nat → Bool) (n : Nat) (inn : Nat → Bool) (a : Nat) : pm_lf J n inn a ≤ n := pm_cn_le _ n
theorem pm_bs_lt {J : Nat → Nat → Bool} {n : Nat} {cst : Nat → Nat} {inn : Nat → Bool} {i b : Nat} (h : pm_bs J n cst inn i = some b) : b < i ∧ inn b = true := by
  induction i with
  | zero => simp [pm_bs] at h
  | succ i ih =>
    rw [pm_bs] at h
    by_cases hi : inn i = true
    · rw [if_pos hi] at h
      cases h1 : pm_bs J n cst inn i with
      | none => rw [h1] at h; obtain rfl := Option.some.inj h; exact ⟨by omega, hi⟩
      | some d =>
        rw [h1] at h
        by_cases hc : cst i * pm_lf J n inn d < cst d * pm_lf J n inn i
        · simp only [hc, if_true] at h; obtain rfl := Option.some.inj h; exact ⟨by omega, hi⟩
        · simp only [hc, if_false] at h; obtain rfl := Option.some.inj h; exact ⟨by have := (ih h1).1; omega, (ih h1).2⟩
    · rw [if_neg hi] at h
      exact ⟨by have := (ih h).1; omega, (ih h).2⟩
theorem pm_chp {a b c d : Nat} (ha : a ≤ 1000000) (hb : b ≤ 200) (hc : c ≤ 1000000) (hd : d ≤ 200) : 0 ≤ lg_cmp ((nI a).toInt64 * (nI b).toInt64) ((nI c).toInt64 * (nI d).toInt64) ↔ c * d ≤ a * b := by
  have h1 : a * b ≤ 1000000 * 200 := Nat.mul_le_mul ha hb
  have h2 : c * d ≤ 1000000 * 200 := Nat.mul_le_mul hc hd
  rw [nI_l (by omega), nI_l (by omega), nI_l (by omega), nI_l (by omega), lN_mul, lN_mul, lg_cmp_ge, pk_lLE (by omega) (by omega)]
def pm_mk (J : Nat → Nat → Bool) (col : Nat → Int32) (a : Nat) : Nat → Int32
  | 0 => 0
  | i + 1 => if col i = -1 then pm_mk J col a i else if J a i = true then pm_mk J col a i ||| ((1 : Int32) <<< (col i &&& 31)) else pm_mk J col a i
def pm_ok (k : Nat) (x : Int32) : Prop := x = -1 ∨ ∃ c, c < k ∧ x = nI c
theorem pm_mk_bit {J : Nat → Nat → Bool} {col : Nat → Int32} {a k c : Nat} (hk : k ≤ 30) (hc : c < 32) : ∀ i, (∀ b, b < i → pm_ok k (col b)) → (pm_mk J col a i).toBitVec.getLsbD c = !pm_fr J col a (nI c) i := by
  intro i
  induction i with
  | zero => intro _; simp [pm_mk, pm_fr]
  | succ i ih =>
    intro hok
    have ih := ih (fun b hb => hok b (by omega))
    rw [pm_mk, pm_fr]
    rcases hok i (by omega) with h | ⟨d, hd, h⟩
    · rw [if_pos h, ih, h]
      have : ¬ (-1 : Int32) = nI c := fun q => pm_m1 (j := c) (by omega) q.symm
      simp [this]
    · have h1 : ¬ col i = -1 := by rw [h]; exact pm_m1 (by omega)
      rw [if_neg h1]
      by_cases hJ : J a i = true
      · rw [if_pos hJ, h]
        have := pm_b32_or (pm_mk J col a i) (i := c) (j := d) (by omega)
        rw [show (1 : Int32) <<< (nI d &&& 31) = pm_b32 d from rfl, this, ih, hJ]
        have e : (nI d = nI c) ↔ d = c := nI_eq (by omega) (by omega)
        by_cases q : d = c <;> simp [e, q]
      · rw [if_neg hJ, ih]
        simp at hJ
        simp [hJ]
def pm_rd (g : Bool) (n : Nat) (F : Nat → Int32) (a : Int32) : Int32 := if (g && pm_pt n a) = true then F a.toNatClampNeg else -1
theorem pm_rd_g {n : Nat} {F : Nat → Int32} {a : Int32} : pm_rd false n F a = -1 := by simp [pm_rd]
theorem pm_rd_n {g : Bool} {n : Nat} {F : Nat → Int32} {a : Int32} (h : pm_pt n a = false) : pm_rd g n F a = -1 := by simp [pm_rd, h]
theorem pm_rd_t {n j : Nat} {F : Nat → Int32} (hn : n < 2 ^ 31) (hj : j < n) : pm_rd true n F (nI j) = F j := by
  have h1 : j < 2 ^ 31 := by omega
  simp [pm_rd, pm_pt_nI h1, hj, nI_clamp h1]
