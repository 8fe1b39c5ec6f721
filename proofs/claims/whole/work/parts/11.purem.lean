/-! what the reference writes agrees with what is meant -/
theorem dg_more2 {A b c : Nat} (hy : b = A / 10 ^ c) (h : ¬ b = 0) : 10 ^ c ≤ A := Nat.le_of_not_lt (fun q => h (by rw [hy]; exact Nat.div_eq_of_lt q))
theorem dg_cap {x : Int64} {c : Nat} (h : 10 ^ c ≤ x.toInt.natAbs) : c ≤ 18 := by
  have h1 := dg_abs_lt x
  rcases Nat.lt_or_ge c 19 with q | q
  · omega
  · have := Nat.pow_le_pow_right (n := 10) (by decide) q
    omega
theorem pm_dgF {A c : Nat} {F : Nat → Int32} (hF : ∀ i, i < c → F i = nI (48 + A / 10 ^ i % 10)) : ∀ i, i < c + 1 → upd F c (nI (48 + A / 10 ^ c % 10)) i = nI (48 + A / 10 ^ i % 10) := by
  intro i hi
  by_cases q : i = c
  · subst q
    exact pk_us
  · rw [pk_un q]
    exact hF i (by omega)
theorem pm_dg_np {x : Int64} {c : Nat} (h : 0 ≤ x.toInt) (hcc : dg_c x.toInt.natAbs = c + 1) : nI (c + 1) = nI (dg_m x) := by
  unfold dg_m
  rw [if_neg (by omega), hcc]
theorem pm_dg_nn {x : Int64} {c : Nat} (h : ¬ 0 ≤ x.toInt) (hcc : dg_c x.toInt.natAbs = c + 1) : nI (c + 1 + 1) = nI (dg_m x) := by
  unfold dg_m
  rw [if_pos (by omega), hcc]
theorem pm_dg_wp {x : Int64} {c : Nat} {F : Nat → Int32} (h : 0 ≤ x.toInt) (hcc : dg_c x.toInt.natAbs = c + 1) (hF : ∀ i, i < c + 1 → F i = nI (48 + x.toInt.natAbs / 10 ^ i % 10)) : ∀ i, i < dg_m x → F i = dg_w x (dg_m x - 1 - i) := by
  have e : dg_m x = c + 1 := by
    unfold dg_m
    rw [if_neg (by omega), hcc]
  intro i hi
  rw [hF i (by omega), dg_w_at (by omega) (fun z => by omega), show dg_m x - (dg_m x - 1 - i + 1) = i by omega]
theorem pm_dg_wn {x : Int64} {c : Nat} {F : Nat → Int32} (h : ¬ 0 ≤ x.toInt) (hcc : dg_c x.toInt.natAbs = c + 1) (hF : ∀ i, i < c + 1 → F i = nI (48 + x.toInt.natAbs / 10 ^ i % 10)) : ∀ i, i < dg_m x → upd F (c + 1) (nI 45) i = dg_w x (dg_m x - 1 - i) := by
  have e : dg_m x = c + 1 + 1 := by
    unfold dg_m
    rw [if_pos (by omega), hcc]
  intro i hi
  by_cases q : i = c + 1
  · subst q
    rw [pk_us, show dg_m x - 1 - (c + 1) = 0 by omega]
    unfold dg_w
    rw [if_pos ⟨by omega, rfl⟩]
    rfl
  · rw [pk_un q, hF i (by omega), dg_w_at (by omega) (fun z => by omega), show dg_m x - (dg_m x - 1 - i + 1) = i by omega]
theorem pm_op1 {i m : Nat} {F T : Nat → Int32} (hF1 : ∀ q, q < i + 1 → F q = T q) : ∀ q, q < i → upd F (i + m) (T i) q = T q := by
  intro q hq
  rw [pk_un (by omega)]
  exact hF1 q (by omega)
theorem pm_op2 {n i m : Nat} {F T : Nat → Int32} (_hF1 : ∀ q, q < i + 1 → F q = T q) (hF2 : ∀ q, i + 1 ≤ q → q < n → F (q + m) = T q) : ∀ q, i ≤ q → q < n → upd F (i + m) (T i) (q + m) = T q := by
  intro q h1 h2
  by_cases c : q = i
  · subst c
    exact pk_us
  · rw [pk_un (by omega)]
    exact hF2 q (by omega) h2
theorem pm_cl1 {a b j : Nat} {F T : Nat → Int32} (hab : a ≤ b) (hj : b ≤ j) (hF1 : ∀ q, q < a → F q = T q) : ∀ q, q < a → upd F (j - (b - a)) (T j) q = T q := by
  intro q hq
  rw [pk_un (by omega)]
  exact hF1 q hq
theorem pm_cl2 {a b j : Nat} {F T : Nat → Int32} (hab : a ≤ b) (hj : b ≤ j) (hF2 : ∀ q, b ≤ q → q < j → F (q - (b - a)) = T q) : ∀ q, b ≤ q → q < j + 1 → upd F (j - (b - a)) (T j) (q - (b - a)) = T q := by
  intro q h1 h2
  by_cases c : q = j
  · subst c
    exact pk_us
  · rw [pk_un (by omega)]
    exact hF2 q h1 (by omega)
theorem pm_cl3 {n a b j : Nat} {F T : Nat → Int32} (hab : a ≤ b) (hj : b ≤ j) (hF3 : ∀ q, j ≤ q → q < n → F q = T q) : ∀ q, j + 1 ≤ q → q < n → upd F (j - (b - a)) (T j) q = T q := by
  intro q h1 h2
  rw [pk_un (by omega)]
  exact hF3 q (by omega) h2
theorem pm_cut {n a b : Nat} {F T T0 w : Nat → Int32} (hT : ∀ j, j < n → T j = T0 j) (h1 : a ≤ b) (h2 : b ≤ n) (hO1 : ∀ i, i < a → F i = T i) (hO2 : ∀ i, b ≤ i → i < n → F (i - (b - a)) = T i) : ∀ j, j < n - (b - a) → F j = tl_rep T0 a b w 0 j := by
  intro j hj
  unfold tl_rep
  by_cases c : j < a
  · rw [if_pos c, hO1 j c]
    exact hT j (by omega)
  · rw [if_neg c, if_neg (by omega)]
    have q := hO2 (j + (b - a)) (by omega) (by omega)
    rw [show j + (b - a) - (b - a) = j by omega] at q
    rw [q, hT _ (by omega), show j - (a + 0) + b = j + (b - a) by omega]
theorem pm_put0 {n a m : Nat} {F T T0 w : Nat → Int32} (hT : ∀ j, j < n → T j = T0 j) (h2 : a ≤ n) (hO1 : ∀ i, i < a → F i = T i) (hO2 : ∀ i, a ≤ i → i < n → F (i + m) = T i) : ∀ i, i < n + m → (i < a + 0 ∨ a + m ≤ i) → F i = tl_rep T0 a a w m i := by
  intro i hi h
  unfold tl_rep
  rcases h with h | h
  · rw [if_pos (by omega), hO1 i (by omega)]
    exact hT i (by omega)
  · rw [if_neg (by omega), if_neg (by omega)]
    have q := hO2 (i - m) (by omega) (by omega)
    rw [show i - m + m = i by omega] at q
    rw [q, hT _ (by omega), show i - (a + m) + a = i - m by omega]
theorem pm_puts {n a m j : Nat} {F T0 w : Nat → Int32} (hj : j < m) (hF : ∀ i, i < n + m → (i < a + j ∨ a + m ≤ i) → F i = tl_rep T0 a a w m i) : ∀ i, i < n + m → (i < a + (j + 1) ∨ a + m ≤ i) → upd F (a + j) (w j) i = tl_rep T0 a a w m i := by
  intro i hi h
  by_cases c : i = a + j
  · subst c
    rw [pk_us, tl_rep_in (i := j) rfl hj]
  · rw [pk_un c]
    exact hF i hi (by omega)
theorem tl_bw_m {n : Nat} {T : Nat → Int32} {k : Nat} {G : Nat → Int32} {x z : Int32} (h : (z.toInt = x.toInt ∧ x.toInt ≤ n) ∨ (z.toInt = (n : Int) ∧ (n : Int) < x.toInt)) : (if x.toInt < 0 then (-1 : Int32) else tl_bw n T k G (min x.toNatClampNeg n + 1)) = tl_bw n T k G (z.toInt + 1).toNat := by
  have hx : x.toNatClampNeg = x.toInt.toNat := rfl
  by_cases h0 : x.toInt < 0
  · rw [if_pos h0, show (z.toInt + 1).toNat = 0 by omega]
    rfl
  · rw [if_neg h0, show (z.toInt + 1).toNat = min x.toNatClampNeg n + 1 by omega]
theorem tl_fw_m {n : Nat} {T : Nat → Int32} {k : Nat} {G : Nat → Int32} {a b : Nat} (h : b = a) : tl_fw n T k G (n + 1 - b) b = tl_fw n T k G (n + 1 - a) a := by rw [h]
theorem pm_lift {a j : Nat} {F T0 : Nat → Int32} (hF : ∀ i, i < j → F i = T0 (a + i)) : ∀ i, i < j + 1 → upd F j (T0 (a + j)) i = T0 (a + i) := by
  intro i hi
  by_cases c : i = j
  · subst c
    exact pk_us
  · rw [pk_un c]
    exact hF i (by omega)
theorem pm_swap {n k a b : Nat} {T0 G0 : Nat → Int32} (h1 : a ≤ b) (h2 : b ≤ n) (h3 : n - (b - a) + k ≤ 3000) : sp_put a b G0 k n T0 k G0 = sp_put a a G0 k (n - (b - a)) (tl_rep T0 a b G0 0) k G0 := by
  unfold sp_put
  rw [if_pos h3, if_pos (by omega), Nat.sub_self, Nat.sub_zero]
  have e : tl_rep T0 a b G0 k = tl_rep (tl_rep T0 a b G0 0) a a G0 k := by
    funext j
    unfold tl_rep
    by_cases c1 : j < a
    · rw [if_pos c1, if_pos c1, if_pos c1]
    · rw [if_neg c1, if_neg c1]
      by_cases c2 : j < a + k
      · rw [if_pos c2, if_pos c2]
      · rw [if_neg c2, if_neg c2, if_neg (by omega), if_neg (by omega)]
        congr 1
        omega
  rw [e]
