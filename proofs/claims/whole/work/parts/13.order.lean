/-! who is still in: one fewer each time; the colours -/
theorem pm_cn_congr {f g : Nat → Bool} : ∀ {n : Nat}, (∀ b, b < n → f b = g b) → pm_cn f n = pm_cn g n := by
  intro n
  induction n with
  | zero => intro _; rfl
  | succ n ih => intro h; rw [pm_cn, pm_cn, ih (fun b hb => h b (by omega)), h n (by omega)]
theorem pm_cn_rm {f g : Nat → Bool} {a : Nat} (hfa : f a = true) : ∀ {n : Nat}, a < n → (∀ b, b < n → g b = (f b && !decide (b = a))) → pm_cn f n = pm_cn g n + 1 := by
  intro n
  induction n with
  | zero => intro h; omega
  | succ n ih =>
    intro h hg
    rw [pm_cn, pm_cn]
    by_cases q : n = a
    · subst q
      rw [hg n (by omega), hfa]
      rw [pm_cn_congr (f := f) (g := g) (fun b hb => by rw [hg b (by omega)]; simp; omega)]
      simp
    · rw [ih (by omega) (fun b hb => hg b (by omega)), hg n (by omega)]
      simp [q]
      split <;> omega
theorem pm_cn_pos {f : Nat → Bool} : ∀ {n : Nat}, 0 < pm_cn f n → ∃ a, a < n ∧ f a = true := by
  intro n
  induction n with
  | zero => intro h; simp [pm_cn] at h
  | succ n ih =>
    intro h
    by_cases q : f n = true
    · exact ⟨n, by omega, q⟩
    · rw [pm_cn, if_neg q] at h
      obtain ⟨a, h1, h2⟩ := ih h
      exact ⟨a, by omega, h2⟩
theorem pm_cn_zero {f : Nat → Bool} {n : Nat} (h : ∀ b, b < n → f b = false) : pm_cn f n = 0 := by
  rcases Nat.eq_zero_or_pos (pm_cn f n) with q | q
  · exact q
  · obtain ⟨a, h1, h2⟩ := pm_cn_pos q
    rw [h a h1] at h2; cases h2
theorem pm_cn_all : ∀ n, pm_cn (fun _ => true) n = n := by
  intro n
  induction n with
  | zero => rfl
  | succ n ih => rw [pm_cn, ih]; rfl
theorem pm_bs_some {J : Nat → Nat → Bool} {n : Nat} {cst : Nat → Nat} {inn : Nat → Bool} {a : Nat} (ha : inn a = true) : ∀ i, a < i → ∃ b, pm_bs J n cst inn i = some b := by
  intro i
  induction i with
  | zero => intro h; omega
  | succ i ih =>
    intro h
    rw [pm_bs]
    by_cases q : inn i = true
    · rw [if_pos q]
      cases pm_bs J n cst inn i with
      | none => exact ⟨i, rfl⟩
      | some b =>
        by_cases c : cst i * pm_lf J n inn b < cst b * pm_lf J n inn i
        · exact ⟨i, by simp only [c, if_true]⟩
        · exact ⟨b, by simp only [c, if_false]⟩
    · rw [if_neg q]
      exact ih (by rcases Nat.lt_or_ge a i with z | z; exact z; exact absurd (by rw [show i = a by omega]; exact ha) q)
theorem pm_nx_some {J : Nat → Nat → Bool} {n k : Nat} {cst : Nat → Nat} {inn : Nat → Bool} (h : 0 < pm_cn inn n) : ∃ a, pm_nx J n k cst inn = some a ∧ a < n ∧ inn a = true := by
  obtain ⟨a, h1, h2⟩ := pm_cn_pos h
  rw [pm_nx]
  cases hf : pm_ft (pm_lo J n k inn) n with
  | some b =>
    obtain ⟨h3, h4⟩ := pm_ft_lt hf
    simp [pm_lo] at h4
    exact ⟨b, rfl, h3, h4.1⟩
  | none =>
    obtain ⟨b, hb⟩ := pm_bs_some (J := J) (n := n) (cst := cst) h2 n h1
    obtain ⟨h3, h4⟩ := pm_bs_lt hb
    exact ⟨b, hb, h3, h4⟩
theorem pm_in_cn (J : Nat → Nat → Bool) (n k : Nat) (cst : Nat → Nat) : ∀ i, i ≤ n → pm_cn (pm_in J n k cst i) n = n - i := by
  intro i
  induction i with
  | zero => intro _; exact pm_cn_all n
  | succ i ih =>
    intro h
    have ih := ih (by omega)
    obtain ⟨a, h1, h2, h3⟩ := pm_nx_some (J := J) (k := k) (cst := cst) (inn := pm_in J n k cst i) (n := n) (by omega)
    have := pm_cn_rm (g := pm_in J n k cst (i + 1)) h3 h2 (fun b _ => by
      show (pm_in J n k cst i b && !decide (pm_nx J n k cst (pm_in J n k cst i) = some b)) = _
      rw [h1]
      by_cases q : b = a
      · subst q; simp
      · have q2 : ¬ a = b := fun z => q z.symm
        simp [q, q2])
    omega
theorem pm_od_ok {J : Nat → Nat → Bool} {n k : Nat} {cst : Nat → Nat} {i : Nat} (hi : i < n) : pm_nx J n k cst (pm_in J n k cst i) = some (pm_od J n k cst i) ∧ pm_od J n k cst i < n ∧ pm_in J n k cst i (pm_od J n k cst i) = true := by
  obtain ⟨a, h1, h2, h3⟩ := pm_nx_some (J := J) (k := k) (cst := cst) (inn := pm_in J n k cst i) (n := n) (by rw [pm_in_cn J n k cst i (by omega)]; omega)
  have e : pm_od J n k cst i = a := by rw [pm_od, h1]; rfl
  rw [e]
  exact ⟨h1, h2, h3⟩
theorem pm_in_s {J : Nat → Nat → Bool} {n k : Nat} {cst : Nat → Nat} {i : Nat} (hi : i < n) (a : Nat) : pm_in J n k cst (i + 1) a = (pm_in J n k cst i a && !decide (a = pm_od J n k cst i)) := by
  show (pm_in J n k cst i a && !decide (pm_nx J n k cst (pm_in J n k cst i) = some a)) = _
  rw [(pm_od_ok hi).1]
  by_cases q : a = pm_od J n k cst i
  · rw [q]; simp
  · have q2 : ¬ pm_od J n k cst i = a := fun z => q z.symm
    simp [q, q2]
theorem pm_lf_s {J : Nat → Nat → Bool} {n k : Nat} {cst : Nat → Nat} {i : Nat} (hs : ∀ a b, J a b = J b a) (hi : i < n) (q : Nat) : nI (pm_lf J n (pm_in J n k cst (i + 1)) q) = if J (pm_od J n k cst i) q = true then nI (pm_lf J n (pm_in J n k cst i) q) - nI 1 else nI (pm_lf J n (pm_in J n k cst i) q) := by
  obtain ⟨-, h2, h3⟩ := pm_od_ok (J := J) (k := k) (cst := cst) hi
  by_cases hJ : J (pm_od J n k cst i) q = true
  · rw [if_pos hJ]
    have : pm_lf J n (pm_in J n k cst i) q = pm_lf J n (pm_in J n k cst (i + 1)) q + 1 := pm_cn_rm (a := pm_od J n k cst i) (by rw [h3, hs, hJ]; rfl) h2 (fun b _ => by
      rw [pm_in_s hi]
      cases pm_in J n k cst i b <;> cases J q b <;> simp)
    rw [this]
    exact (nI_pred _).symm
  · rw [if_neg hJ]
    congr 1
    refine pm_cn_congr (fun b _ => ?_)
    rw [pm_in_s hi]
    by_cases z : b = pm_od J n k cst i
    · rw [z, hs, Bool.eq_false_iff.mpr hJ]; simp
    · simp [z]
theorem pm_fr_congr {J : Nat → Nat → Bool} {f g : Nat → Int32} {a : Nat} {c : Int32} : ∀ {n : Nat}, (∀ b, b < n → f b = g b) → pm_fr J f a c n = pm_fr J g a c n := by
  intro n
  induction n with
  | zero => intro _; rfl
  | succ n ih => intro h; rw [pm_fr, pm_fr, ih (fun b hb => h b (by omega)), h n (by omega)]
theorem pm_ch_congr {J : Nat → Nat → Bool} {n k : Nat} {ws : Nat → Nat} {f g : Nat → Int32} {a : Nat} (hw : ws a < n) (h : ∀ b, b < n → f b = g b) : pm_ch J n k ws f a = pm_ch J n k ws g a := by
  rw [pm_ch, pm_ch, h _ hw, pm_fr_congr h]
  congr 2
  congr 1
  funext c
  exact pm_fr_congr h
theorem pm_o_ok {f : Nat → Bool} {k : Nat} : pm_ok k (pm_o (pm_ft f k)) := by
  cases h : pm_ft f k with
  | none => exact Or.inl rfl
  | some c => exact Or.inr ⟨c, (pm_ft_lt h).1, rfl⟩
theorem pm_ch_ok {J : Nat → Nat → Bool} {n k : Nat} {ws : Nat → Nat} {col : Nat → Int32} (h : ∀ a, pm_ok k (col a)) (a : Nat) : pm_ok k (pm_ch J n k ws col a) := by
  rw [pm_ch]
  split
  · exact h _
  · exact pm_o_ok
theorem pm_cs_ok (J : Nat → Nat → Bool) (n k : Nat) (cst ws : Nat → Nat) : ∀ t a, pm_ok k (pm_cs J n k cst ws t a) := by
  intro t
  induction t with
  | zero => intro a; exact Or.inl rfl
  | succ t ih =>
    intro a
    rw [pm_cs]
    by_cases q : a = pm_od J n k cst (n - 1 - t)
    · rw [q, pk_us]; exact pm_ch_ok ih _
    · rw [pk_un q]; exact ih a
theorem pm_cs_s {J : Nat → Nat → Bool} {n k : Nat} {cst ws : Nat → Nat} {i : Nat} (hi : i < n) : pm_cs J n k cst ws (n - i) = upd (pm_cs J n k cst ws (n - (i + 1))) (pm_od J n k cst i) (pm_ch J n k ws (pm_cs J n k cst ws (n - (i + 1))) (pm_od J n k cst i)) := by
  obtain ⟨t, ht⟩ : ∃ t, n - (i + 1) = t := ⟨_, rfl⟩
  rw [ht, show n - i = t + 1 by omega, pm_cs, show n - 1 - t = i by omega]
theorem pm_nn_s {J : Nat → Nat → Bool} {n k : Nat} {cst ws : Nat → Nat} {i : Nat} (hi : i < n) : pm_nn J n k cst ws (n - i) = pm_nn J n k cst ws (n - (i + 1)) + (if pm_ch J n k ws (pm_cs J n k cst ws (n - (i + 1))) (pm_od J n k cst i) < 0 then 1 else 0) := by
  obtain ⟨t, ht⟩ : ∃ t, n - (i + 1) = t := ⟨_, rfl⟩
  rw [ht, show n - i = t + 1 by omega, pm_nn, pm_cn, show n - 1 - t = i by omega]
  simp [pm_nn]
/-- as many got none as have none in the end -/
theorem pm_nn_cn {J : Nat → Nat → Bool} {n k : Nat} {cst ws : Nat → Nat} (hk : k ≤ 30) : pm_nn J n k cst ws n = pm_cn (fun q => decide (pm_cs J n k cst ws n q = -1)) n := by
  have key : ∀ i j, i + j = n → pm_nn J n k cst ws (n - i) = pm_cn (fun q => pm_in J n k cst i q && decide (pm_cs J n k cst ws (n - i) q = -1)) n := by
    intro i j
    induction j generalizing i with
    | zero =>
      intro h
      have hin := pm_in_cn J n k cst i (by omega)
      rw [show n - i = 0 by omega] at hin ⊢
      rw [pm_cn_zero (fun b hb => ?_)]
      · rfl
      · cases hq : pm_in J n k cst i b with
        | false => rfl
        | true =>
          have h1 := pm_cn_rm (g := fun z => pm_in J n k cst i z && !decide (z = b)) hq hb (fun _ _ => rfl)
          omega
    | succ j ih =>
      intro h
      have hi : i < n := by omega
      have ih := ih (i + 1) (by omega)
      rw [pm_nn_s hi, ih]
      obtain ⟨-, h2, h3⟩ := pm_od_ok (J := J) (k := k) (cst := cst) hi
      have hok := pm_ok_lt hk (pm_ch_ok (J := J) (n := n) (ws := ws) (pm_cs_ok J n k cst ws (n - (i + 1))) (pm_od J n k cst i))
      rw [pm_cs_s hi]
      by_cases q : pm_ch J n k ws (pm_cs J n k cst ws (n - (i + 1))) (pm_od J n k cst i) < 0
      · rw [if_pos q]
        symm
        refine pm_cn_rm (a := pm_od J n k cst i) (by rw [h3, pk_us, hok.mp q]; rfl) h2 (fun b _ => ?_)
        rw [pm_in_s hi]
        by_cases z : b = pm_od J n k cst i
        · simp [z]
        · rw [pk_un z]; simp [z]
      · rw [if_neg q]
        refine pm_cn_congr (fun b _ => ?_)
        rw [pm_in_s hi]
        by_cases z : b = pm_od J n k cst i
        · rw [z, pk_us]
          have : ¬ pm_ch J n k ws (pm_cs J n k cst ws (n - (i + 1))) (pm_od J n k cst i) = -1 := fun y => q (hok.mpr y)
          simp [this]
        · rw [pk_un z]; simp [z]
  have := key 0 n (by omega)
  rw [show n - 0 = n from rfl] at this
  rw [this]
  exact pm_cn_congr (fun b _ => by simp [pm_in])
