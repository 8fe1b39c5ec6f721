/-! the state of a text, and what each call answers: pure words, the same for class and reference -/
abbrev tS : Type := Nat × (Nat → Int32) × Nat × (Nat → Int32)
/-- an actual state u agrees with the state v that is meant: what lies behind an end is any -/
def tE (u v : tS) : Prop := u.1 = v.1 ∧ (∀ j, j < v.1 → u.2.1 j = v.2.1 j) ∧ u.2.2.1 = v.2.2.1 ∧ (∀ j, j < v.2.2.1 → u.2.2.2 j = v.2.2.2 j) ∧ v.1 ≤ 3000 ∧ v.2.2.1 ≤ 40
theorem tE_mk {n k : Nat} {T G T0 G0 : Nat → Int32} (h1 : ∀ j, j < n → T j = T0 j) (h2 : ∀ j, j < k → G j = G0 j) (h3 : n ≤ 3000) (h4 : k ≤ 40) : tE (n, T, k, G) (n, T0, k, G0) := ⟨rfl, h1, rfl, h2, h3, h4⟩
theorem tE_of {u : tS} {n k : Nat} {T0 G0 : Nat → Int32} (h : tE u (n, T0, k, G0)) : ∃ T G : Nat → Int32, u = (n, T, k, G) ∧ (∀ j, j < n → T j = T0 j) ∧ (∀ j, j < k → G j = G0 j) ∧ n ≤ 3000 ∧ k ≤ 40 := by
  obtain ⟨n1, T1, k1, G1⟩ := u
  obtain ⟨e1, e2, e3, e4, e5, e6⟩ := h
  dsimp only at e1 e2 e3 e4 e5 e6
  subst e1
  subst e3
  exact ⟨T1, G1, rfl, e2, e4, e5, e6⟩
/-- the signs p .. q-1 become the first m of w -/
def tl_rep (T : Nat → Int32) (p q : Nat) (w : Nat → Int32) (m : Nat) : Nat → Int32 := fun j => if j < p then T j else if j < p + m then w (j - p) else T (j - (p + m) + q)
def sp_put (p q : Nat) (w : Nat → Int32) (m : Nat) (n : Nat) (T : Nat → Int32) (k : Nat) (G : Nat → Int32) : Int32 × tS := if n - (q - p) + m ≤ 3000 then (nI (n - (q - p) + m), (n - (q - p) + m, tl_rep T p q w m, k, G)) else (-3, (n, T, k, G))
def tl_yes : Nat → Int32 := fun j => if j = 0 then 116 else if j = 1 then 114 else if j = 2 then 117 else 101
def tl_no : Nat → Int32 := fun j => if j = 0 then 102 else if j = 1 then 97 else if j = 2 then 108 else if j = 3 then 115 else 101
-- digits
def dg_cf : Nat → Nat → Nat
  | 0, _ => 1
  | f + 1, a => if a < 10 then 1 else dg_cf f (a / 10) + 1
def dg_c (a : Nat) : Nat := dg_cf 20 a
def dg_m (x : Int64) : Nat := dg_c x.toInt.natAbs + (if x.toInt < 0 then 1 else 0)
def dg_w (x : Int64) : Nat → Int32 := fun j => if x.toInt < 0 ∧ j = 0 then 45 else nI (48 + x.toInt.natAbs / 10 ^ (dg_m x - 1 - j) % 10)
theorem dg_cf_uni : ∀ (f a c : Nat), 1 ≤ c → c ≤ f + 1 → a < 10 ^ c → (c = 1 ∨ 10 ^ (c - 1) ≤ a) → dg_cf f a = c := by
  intro f
  induction f with
  | zero =>
    intro a c h1 h2 _ _
    have : c = 1 := by omega
    subst this
    rfl
  | succ f ih =>
    intro a c h1 h2 h3 h4
    rw [dg_cf]
    by_cases ha : a < 10
    · rw [if_pos ha]
      rcases h4 with h4 | h4
      · exact h4.symm
      · by_cases hc : c = 1
        · exact hc.symm
        · have h5 : 10 ^ 1 ≤ 10 ^ (c - 1) := Nat.pow_le_pow_right (by decide) (by omega)
          rw [Nat.pow_one] at h5
          omega
    · rw [if_neg ha]
      by_cases hc : c = 1
      · subst hc
        rw [Nat.pow_one] at h3
        omega
      · obtain ⟨c', rfl⟩ : ∃ c', c = c' + 1 := ⟨c - 1, by omega⟩
        rw [Nat.pow_succ] at h3
        have h6 := ih (a / 10) c' (by omega) (by omega) (Nat.div_lt_of_lt_mul (by omega)) (by
          by_cases hc' : c' = 1
          · exact Or.inl hc'
          · right
            rcases h4 with h4 | h4
            · omega
            · rw [Nat.add_sub_cancel] at h4
              obtain ⟨c2, rfl⟩ : ∃ c2, c' = c2 + 1 := ⟨c' - 1, by omega⟩
              rw [Nat.pow_succ] at h4
              rw [Nat.add_sub_cancel]
              exact (Nat.le_div_iff_mul_le (by decide)).mpr h4)
        rw [h6]
theorem dg_c_uni {a c : Nat} (h1 : 1 ≤ c) (h2 : c ≤ 20) (h3 : a < 10 ^ c) (h4 : c = 1 ∨ 10 ^ (c - 1) ≤ a) : dg_c a = c := dg_cf_uni 20 a c h1 (by omega) h3 h4
theorem dg_abs_lt (x : Int64) : x.toInt.natAbs < 10 ^ 19 := by
  have h1 := Int64.le_toInt x
  have h2 := Int64.toInt_lt x
  omega
theorem dg_bm {a : Int} (h1 : -9223372036854775808 ≤ a) (h2 : a < 9223372036854775808) : a.bmod (2 ^ 64) = a := Int.bmod_eq_of_le (by omega) (by omega)
theorem tl_bm {a : Int} (h1 : -2147483648 ≤ a) (h2 : a < 2147483648) : a.bmod (2 ^ 32) = a := Int.bmod_eq_of_le (by omega) (by omega)
theorem dg_tdiv (x : Int64) : (x / 10).toInt = x.toInt.tdiv 10 := Int64.toInt_div_of_ne_right x 10 (by decide)
theorem dg_tfacts (a : Int) : 10 * a.tdiv 10 + a.tmod 10 = a ∧ (0 ≤ a → 0 ≤ a.tmod 10 ∧ a.tmod 10 < 10) ∧ (a < 0 → -10 < a.tmod 10 ∧ a.tmod 10 ≤ 0) := by
  refine ⟨Int.mul_tdiv_add_tmod a 10, fun h => ⟨Int.tmod_nonneg 10 h, Int.tmod_lt_of_pos a (by decide)⟩, fun h => ?_⟩
  have h1 : 0 ≤ (-a).tmod 10 := Int.tmod_nonneg 10 (by omega)
  have h2 : (-a).tmod 10 < 10 := Int.tmod_lt_of_pos (-a) (by decide)
  rw [Int.neg_tmod] at h1 h2
  omega
theorem dg_div (x : Int64) : (x / 10).toInt.natAbs = x.toInt.natAbs / 10 := by
  rw [dg_tdiv, Int.natAbs_tdiv]
  rfl
theorem dg_rem0 (x : Int64) : (x - x / 10 * 10).toInt = x.toInt.tmod 10 := by
  have h1 := Int64.le_toInt x
  have h2 := Int64.toInt_lt x
  obtain ⟨e1, e2, e3⟩ := dg_tfacts x.toInt
  rw [Int64.toInt_sub, Int64.toInt_mul, dg_tdiv, show (10 : Int64).toInt = 10 from by decide]
  have hb : (x.toInt.tdiv 10 * 10).bmod (2 ^ 64) = x.toInt.tdiv 10 * 10 := dg_bm (by omega) (by omega)
  rw [hb, dg_bm (by omega) (by omega)]
  omega
theorem dg_rem (x : Int64) : (x - x / 10 * 10).toInt32.toInt = x.toInt.tmod 10 := by
  obtain ⟨e1, e2, e3⟩ := dg_tfacts x.toInt
  rw [Int64.toInt_toInt32, dg_rem0, tl_bm (by omega) (by omega)]
theorem tl_sub0 {x : Int32} (h : -2147483648 < x.toInt) : ((0 : Int32) - x).toInt = - x.toInt := by
  have h2 := Int32.toInt_lt x
  rw [Int32.toInt_sub, Int32.toInt_zero, tl_bm (by omega) (by omega)]
  omega
theorem tl_neg0 {x : Int32} (h : -2147483648 < x.toInt) : (-x).toInt = - x.toInt := by
  have h2 := Int32.toInt_lt x
  rw [Int32.toInt_neg, tl_bm (by omega) (by omega)]
theorem dg_rem_abs (x : Int64) : (x.toInt.tmod 10).natAbs = x.toInt.natAbs % 10 := by
  rw [Int.natAbs_tmod]
  rfl
theorem dg_zero (x : Int64) : x = 0 ↔ x.toInt.natAbs = 0 := by
  constructor
  · intro h
    subst h
    decide
  · intro h
    have h1 : x.toInt = 0 := by omega
    exact Int64.toInt_inj.mp (by rw [h1]; decide)
-- searches, sums, comparison
abbrev tl_std (n : Nat) (T : Nat → Int32) (k : Nat) (G : Nat → Int32) (a : Nat) : Prop := a + k ≤ n ∧ ∀ j, j < k → (T (a + j)).toInt = (G j).toInt
def tl_fw (n : Nat) (T : Nat → Int32) (k : Nat) (G : Nat → Int32) : Nat → Nat → Int32
  | 0, _ => -1
  | c + 1, a => if tl_std n T k G a then nI a else tl_fw n T k G c (a + 1)
def tl_bw (n : Nat) (T : Nat → Int32) (k : Nat) (G : Nat → Int32) : Nat → Int32
  | 0 => -1
  | c + 1 => if tl_std n T k G c then nI c else tl_bw n T k G c
theorem tl_fw_none {n : Nat} {T : Nat → Int32} {k : Nat} {G : Nat → Int32} : ∀ (c a : Nat), n < a + k → tl_fw n T k G c a = -1 := by
  intro c
  induction c with
  | zero => intro a _; rfl
  | succ c ih =>
    intro a h
    rw [tl_fw, if_neg (fun q => by have := q.1; omega)]
    exact ih (a + 1) (by omega)
theorem tl_bw_skip {n : Nat} {T : Nat → Int32} {k : Nat} {G : Nat → Int32} : ∀ (d c : Nat), n < c + k → tl_bw n T k G (c + d) = tl_bw n T k G c := by
  intro d
  induction d with
  | zero => intro c _; rfl
  | succ d ih =>
    intro c h
    show tl_bw n T k G (c + d + 1) = _
    rw [tl_bw, if_neg (fun q => by have := q.1; omega)]
    exact ih c h
def tl_sum (T : Nat → Int32) : Nat → Int32
  | 0 => nI 0
  | j + 1 => tl_sum T j + nI (j + 1) * T j
def tl_ord (n k : Nat) : Int32 := if n = k then 0 else if n < k then -1 else 1
def tl_cmp (T G : Nat → Int32) (d : Int32) : Nat → Nat → Int32
  | 0, _ => d
  | c + 1, a => if (T a).toInt = (G a).toInt then tl_cmp T G d c (a + 1) else if (T a).toInt < (G a).toInt then -1 else 1
-- the calls
def sp_note (x : Int32) (n : Nat) (T : Nat → Int32) (k : Nat) (G : Nat → Int32) : Int32 × tS := if (0 ≤ x.toInt ∧ x.toInt ≤ 65535 ∧ (x.toInt < 55296 ∨ 57343 < x.toInt)) then (if 40 ≤ k then (-3, (n, T, k, G)) else (nI (k + 1), (n, T, k + 1, upd G k x))) else (-1, (n, T, k, G))
def sp_drop (n : Nat) (T : Nat → Int32) (k : Nat) (G : Nat → Int32) : Int32 × tS := (nI k, (n, T, 0, G))
def sp_add (x : Int32) (y : Int64) (n : Nat) (T : Nat → Int32) (k : Nat) (G : Nat → Int32) : Int32 × tS :=
  if x.toInt = 0 then sp_put n n (dg_w y) (dg_m y) n T k G
  else if x.toInt = 1 then (if y.toInt = 0 then sp_put n n tl_no 5 n T k G else sp_put n n tl_yes 4 n T k G)
  else if x.toInt = 2 then sp_put n n G k n T k G
  else if x.toInt = 3 then (if (0 ≤ y.toInt ∧ y.toInt ≤ 65535 ∧ (y.toInt < 55296 ∨ 57343 < y.toInt)) then sp_put n n (fun _ => y.toInt32) 1 n T k G else (-1, (n, T, k, G)))
  else (-1, (n, T, k, G))
def sp_insert (x d : Int32) (y : Int64) (n : Nat) (T : Nat → Int32) (k : Nat) (G : Nat → Int32) : Int32 × tS :=
  if 0 ≤ x.toInt ∧ x.toInt ≤ n then (if d.toInt = 0 then sp_put x.toNatClampNeg x.toNatClampNeg G k n T k G else sp_put x.toNatClampNeg x.toNatClampNeg (dg_w y) (dg_m y) n T k G) else (-1, (n, T, k, G))
def sp_cut (x y : Int32) (n : Nat) (T : Nat → Int32) (k : Nat) (G : Nat → Int32) : Int32 × tS :=
  if 0 ≤ x.toInt ∧ x.toInt ≤ n ∧ x.toInt ≤ y.toInt then sp_put x.toNatClampNeg (min y.toNatClampNeg n) G 0 n T k G else (-1, (n, T, k, G))
def sp_swap (x y : Int32) (n : Nat) (T : Nat → Int32) (k : Nat) (G : Nat → Int32) : Int32 × tS :=
  if 0 ≤ x.toInt ∧ x.toInt ≤ n ∧ x.toInt ≤ y.toInt then sp_put x.toNatClampNeg (min y.toNatClampNeg n) G k n T k G else (-1, (n, T, k, G))
def sp_take (x : Int32) (n : Nat) (T : Nat → Int32) (k : Nat) (G : Nat → Int32) : Int32 × tS :=
  if 0 ≤ x.toInt ∧ x.toInt < n then (T x.toNatClampNeg, (n - 1, tl_rep T x.toNatClampNeg (x.toNatClampNeg + 1) G 0, k, G)) else (-1, (n, T, k, G))
def sp_set (x y : Int32) (n : Nat) (T : Nat → Int32) (k : Nat) (G : Nat → Int32) : Int32 × tS :=
  if 0 ≤ x.toInt ∧ x.toInt < n ∧ (0 ≤ y.toInt ∧ y.toInt ≤ 65535 ∧ (y.toInt < 55296 ∨ 57343 < y.toInt)) then (T x.toNatClampNeg, (n, upd T x.toNatClampNeg y, k, G)) else (-1, (n, T, k, G))
def sp_get (x : Int32) (n : Nat) (T : Nat → Int32) : Int32 := if 0 ≤ x.toInt ∧ x.toInt < n then T x.toNatClampNeg else -1
def sp_turn (n : Nat) (T : Nat → Int32) (k : Nat) (G : Nat → Int32) : Int32 × tS := (nI n, (n, fun j => T (n - 1 - j), k, G))
def sp_find (x d : Int32) (n : Nat) (T : Nat → Int32) (k : Nat) (G : Nat → Int32) : Int32 :=
  if d.toInt = 0 then tl_fw n T k G (n + 1 - min x.toNatClampNeg n) (min x.toNatClampNeg n)
  else if x.toInt < 0 then -1 else tl_bw n T k G (min x.toNatClampNeg n + 1)
def sp_length (x : Int32) (n : Nat) (T : Nat → Int32) (k : Nat) (G : Nat → Int32) : Int32 × tS :=
  if x.toInt < 0 then (-1, (n, T, k, G)) else if 3000 < x.toInt then (-3, (n, T, k, G)) else (x, (x.toNatClampNeg, fun j => if j < n then T j else 0, k, G))
def sp_lift (x y : Int32) (n : Nat) (T : Nat → Int32) (k : Nat) (G : Nat → Int32) : Int32 × tS :=
  if 0 ≤ x.toInt ∧ x.toInt ≤ y.toInt ∧ y.toInt ≤ n then (if 40 < y.toInt - x.toInt then (-3, (n, T, k, G)) else (nI (y.toNatClampNeg - x.toNatClampNeg), (n, T, y.toNatClampNeg - x.toNatClampNeg, fun j => T (x.toNatClampNeg + j)))) else (-1, (n, T, k, G))
def sp_look (x : Int32) (n : Nat) (T : Nat → Int32) (k : Nat) : Int32 := if x.toInt = 0 then nI n else if x.toInt = 1 then nI k else if x.toInt = 2 then tl_sum T n else -1
def sp_scrap (x : Int32) (k : Nat) (G : Nat → Int32) : Int32 := if 0 ≤ x.toInt ∧ x.toInt < k then G x.toNatClampNeg else -1
def sp_compare (n : Nat) (T : Nat → Int32) (k : Nat) (G : Nat → Int32) : Int32 := tl_cmp T G (tl_ord n k) (min n k) 0
theorem tl_fw_step {n : Nat} {T : Nat → Int32} {k : Nat} {G : Nat → Int32} {a : Nat} (h : a ≤ n) : tl_fw n T k G (n + 1 - a) a = if tl_std n T k G a then nI a else tl_fw n T k G (n + 1 - (a + 1)) (a + 1) := by
  rw [show n + 1 - a = (n + 1 - (a + 1)) + 1 by omega, tl_fw]
theorem tl_cmp_step {T G : Nat → Int32} {d : Int32} {c a : Nat} (h : a < c) : tl_cmp T G d (c - a) a = if (T a).toInt = (G a).toInt then tl_cmp T G d (c - (a + 1)) (a + 1) else if (T a).toInt < (G a).toInt then -1 else 1 := by
  rw [show c - a = (c - (a + 1)) + 1 by omega, tl_cmp]
theorem tl_bw_init {n : Nat} {T : Nat → Int32} {k : Nat} {G : Nat → Int32} {x z : Int32} (hn : n < 2 ^ 31) (h : (z.toInt = x.toInt ∧ x.toInt + k ≤ n) ∨ (z.toInt = (n : Int) - k ∧ (n : Int) < x.toInt + k)) : (if x.toInt < 0 then (-1 : Int32) else tl_bw n T k G (min x.toNatClampNeg n + 1)) = tl_bw n T k G (z.toInt + 1).toNat := by
  have hx : x.toNatClampNeg = x.toInt.toNat := rfl
  by_cases h0 : x.toInt < 0
  · rw [if_pos h0, show (z.toInt + 1).toNat = 0 by omega]
    rfl
  · rw [if_neg h0]
    have e : min x.toNatClampNeg n + 1 = (z.toInt + 1).toNat + (min x.toNatClampNeg n + 1 - (z.toInt + 1).toNat) := by omega
    by_cases h1 : min x.toNatClampNeg n + 1 = (z.toInt + 1).toNat
    · rw [h1]
    · rw [e]
      exact tl_bw_skip _ _ (by omega)
theorem dg_dig {y : Int64} {b : Nat} (h : y.toInt.natAbs = b) : (if 0 ≤ (y - y / 10 * 10).toInt32 then (y - y / 10 * 10).toInt32 else 0 - (y - y / 10 * 10).toInt32) = nI (b % 10) := by
  have h1 := dg_rem y
  have h2 := dg_rem_abs y
  generalize (y - y / 10 * 10).toInt32 = z at h1 ⊢
  rw [h] at h2
  have h3 : b % 10 < 10 := Nat.mod_lt _ (by decide)
  apply Int32.toInt_inj.mp
  rw [nI_toInt (by omega)]
  by_cases h0 : 0 ≤ z
  · rw [if_pos h0]
    rw [Int32.le_iff_toInt_le, Int32.toInt_zero] at h0
    omega
  · rw [if_neg h0]
    rw [Int32.le_iff_toInt_le, Int32.toInt_zero] at h0
    rw [tl_sub0 (by omega)]
    omega
theorem dg_dig2 {y : Int64} {b : Nat} (h : y.toInt.natAbs = b) : (if (y - y / 10 * 10).toInt32.toInt < 0 then -(y - y / 10 * 10).toInt32 else (y - y / 10 * 10).toInt32) = nI (b % 10) := by
  have h1 := dg_rem y
  have h2 := dg_rem_abs y
  generalize (y - y / 10 * 10).toInt32 = z at h1 ⊢
  rw [h] at h2
  have h3 : b % 10 < 10 := Nat.mod_lt _ (by decide)
  apply Int32.toInt_inj.mp
  rw [nI_toInt (by omega)]
  by_cases h0 : z.toInt < 0
  · rw [if_pos h0, tl_neg0 (by omega)]
    omega
  · rw [if_neg h0]
    omega
-- what the class writes into its row agrees with what is meant
theorem pu_scrap {n k a b : Nat} {T G T0 G0 : Nat → Int32} (hT : ∀ j, j < n → T j = T0 j) (hG : ∀ j, j < k → G j = G0 j) (h1 : a ≤ b) (h2 : b ≤ n) : ∀ j, j < n - (b - a) + k → va_cpy G (va_cpy T T b (a + k) (n - b)) 0 a k j = tl_rep T0 a b G0 k j := by
  intro j hj
  unfold tl_rep
  by_cases c1 : j < a
  · rw [if_pos c1, pk_cpy_out (Or.inl c1), pk_cpy_out (Or.inl (by omega))]
    exact hT j (by omega)
  · rw [if_neg c1]
    by_cases c2 : j < a + k
    · rw [if_pos c2, pk_cpy_in (by omega) c2, Nat.zero_add]
      exact hG _ (by omega)
    · rw [if_neg c2, pk_cpy_out (Or.inr (by omega)), pk_cpy_in (by omega) (by omega), hT _ (by omega)]
      congr 1
      omega
theorem pu_sign {n a : Nat} {T T0 : Nat → Int32} {y : Int32} (hT : ∀ j, j < n → T j = T0 j) (h2 : a ≤ n) : ∀ j, j < n - (a - a) + 1 → upd (va_cpy T T a (a + 1) (n - a)) a y j = tl_rep T0 a a (fun _ => y) 1 j := by
  intro j hj
  unfold tl_rep
  by_cases c1 : j < a
  · rw [if_pos c1, pk_un (by omega), pk_cpy_out (Or.inl (by omega))]
    exact hT j (by omega)
  · rw [if_neg c1]
    by_cases c2 : j < a + 1
    · rw [if_pos c2]
      have : j = a := by omega
      subst this
      exact pk_us
    · rw [if_neg c2, pk_un (by omega), pk_cpy_in (by omega) (by omega), hT _ (by omega)]
      congr 1
      omega
theorem pu_cut {n a b : Nat} {T T0 : Nat → Int32} {w : Nat → Int32} (hT : ∀ j, j < n → T j = T0 j) (h1 : a ≤ b) (h2 : b ≤ n) : ∀ j, j < n - (b - a) + 0 → va_cpy T T b (a + 0) (n - b) j = tl_rep T0 a b w 0 j := by
  intro j hj
  unfold tl_rep
  by_cases c1 : j < a
  · rw [if_pos c1, pk_cpy_out (Or.inl (by omega))]
    exact hT j (by omega)
  · rw [if_neg c1, if_neg (by omega), pk_cpy_in (by omega) (by omega), hT _ (by omega)]
    congr 1
    omega
/-- the row behind makeGap, ahead of what is written into the gap -/
theorem pu_gap {n a m : Nat} {T T0 : Nat → Int32} {w : Nat → Int32} (hT : ∀ j, j < n → T j = T0 j) (h2 : a ≤ n) : ∀ i, i < n - (a - a) + m → (i < a ∨ a + m ≤ i) → va_cpy T T a (a + m) (n - a) i = tl_rep T0 a a w m i := by
  intro j hj h
  unfold tl_rep
  rcases h with c1 | c1
  · rw [if_pos c1, pk_cpy_out (Or.inl (by omega))]
    exact hT j (by omega)
  · rw [if_neg (by omega), if_neg (by omega), pk_cpy_in (by omega) (by omega), hT _ (by omega)]
    congr 1
    omega
theorem tl_rep_in {T0 w : Nat → Int32} {a b m j i : Nat} (h : j = a + i) (hi : i < m) : tl_rep T0 a b w m j = w i := by
  unfold tl_rep
  rw [if_neg (by omega), if_pos (by omega)]
  congr 1
  omega
theorem pu_turn {n j : Nat} {F T0 : Nat → Int32} (hj : j < n / 2) (hF : ∀ i, i < n → F i = if i < j ∨ n - 1 - j < i then T0 (n - 1 - i) else T0 i) : ∀ i, i < n → upd (upd F j (T0 (n - 1 - j))) (n - 1 - j) (T0 j) i = if i < j + 1 ∨ n - 1 - (j + 1) < i then T0 (n - 1 - i) else T0 i := by
  intro i hi
  by_cases c1 : i = n - 1 - j
  · subst c1
    rw [pk_us, if_pos (Or.inr (by omega))]
    congr 1
    omega
  · rw [pk_un c1]
    by_cases c2 : i = j
    · subst c2
      rw [pk_us, if_pos (Or.inl (by omega))]
    · rw [pk_un c2, hF i hi]
      by_cases c3 : i < j ∨ n - 1 - j < i
      · rw [if_pos c3, if_pos (by omega)]
      · rw [if_neg c3, if_neg (by omega)]
theorem pu_turn_end {n j : Nat} {F T0 : Nat → Int32} (h1 : j ≤ n / 2) (h2 : n / 2 ≤ j) (hF : ∀ i, i < n → F i = if i < j ∨ n - 1 - j < i then T0 (n - 1 - i) else T0 i) : ∀ i, i < n → F i = T0 (n - 1 - i) := by
  intro i hi
  rw [hF i hi]
  by_cases c : i < j ∨ n - 1 - j < i
  · rw [if_pos c]
  · rw [if_neg c]
    congr 1
    omega
theorem dg_more {A b c : Nat} (hy : b = A / 10 ^ c) (h : ¬ b = 0) : c + 1 = 1 ∨ 10 ^ (c + 1 - 1) ≤ A := by
  right
  rw [Nat.add_sub_cancel]
  exact Nat.le_of_not_lt (fun q => h (by rw [hy]; exact Nat.div_eq_of_lt q))
theorem dg_less {A b c : Nat} (hy : b = A / 10 ^ c) (h : b = 0) : A < 10 ^ c := by
  rw [h] at hy
  rcases Nat.lt_or_ge A (10 ^ c) with q | q
  · exact q
  · have := Nat.div_pos q (Nat.pow_pos (by decide))
    omega
theorem dg_cf_spec : ∀ (f a : Nat), a < 10 ^ (f + 1) → 1 ≤ dg_cf f a ∧ dg_cf f a ≤ f + 1 ∧ a < 10 ^ dg_cf f a ∧ (dg_cf f a = 1 ∨ 10 ^ (dg_cf f a - 1) ≤ a) := by
  intro f
  induction f with
  | zero =>
    intro a h
    exact ⟨Nat.le_refl _, Nat.le_refl _, h, Or.inl rfl⟩
  | succ f ih =>
    intro a h
    rw [dg_cf]
    by_cases ha : a < 10
    · rw [if_pos ha]
      exact ⟨Nat.le_refl _, by omega, by rw [Nat.pow_one]; exact ha, Or.inl rfl⟩
    · rw [if_neg ha]
      rw [Nat.pow_succ] at h
      obtain ⟨h1, h2, h3, h4⟩ := ih (a / 10) (Nat.div_lt_of_lt_mul (by omega))
      refine ⟨by omega, by omega, ?_, Or.inr ?_⟩
      · rw [Nat.pow_succ]
        omega
      · rw [Nat.add_sub_cancel]
        rcases h4 with h4 | h4
        · rw [h4, Nat.pow_one]
          omega
        · have e : dg_cf f (a / 10) = (dg_cf f (a / 10) - 1) + 1 := by omega
          rw [e, Nat.pow_succ]
          omega
theorem dg_c_spec {a : Nat} (h : a < 10 ^ 19) : 1 ≤ dg_c a ∧ dg_c a ≤ 19 ∧ a < 10 ^ dg_c a ∧ (dg_c a = 1 ∨ 10 ^ (dg_c a - 1) ≤ a) := by
  obtain ⟨h1, h2, h3, h4⟩ := dg_cf_spec 20 a (by omega)
  refine ⟨h1, ?_, h3, h4⟩
  rcases Nat.lt_or_ge (dg_cf 20 a) 20 with q | q
  · show dg_cf 20 a ≤ 19
    omega
  · rcases h4 with h4 | h4
    · omega
    · have := Nat.pow_le_pow_right (n := 10) (by decide) (show 19 ≤ dg_cf 20 a - 1 by omega)
      omega
theorem dg_c_le (x : Int64) : dg_c x.toInt.natAbs ≤ 19 := (dg_c_spec (dg_abs_lt x)).2.1
theorem dg_m_le (x : Int64) : dg_m x ≤ 20 := by
  have := dg_c_le x
  unfold dg_m
  split <;> omega
theorem dg_m_pos (x : Int64) : 1 ≤ dg_m x := by
  have := (dg_c_spec (dg_abs_lt x)).1
  unfold dg_m
  split <;> omega
theorem dg_down {x y : Int64} {i : Nat} (hy : y.toInt.natAbs = x.toInt.natAbs / 10 ^ (dg_m x - (i + 1))) (hi : i < dg_m x) : (y / 10).toInt.natAbs = x.toInt.natAbs / 10 ^ (dg_m x - i) := by
  rw [dg_div, hy, Nat.div_div_eq_div_mul, ← Nat.pow_succ, show (dg_m x - (i + 1)).succ = dg_m x - i by omega]
theorem dg_w_at {x : Int64} {i : Nat} (hi : i < dg_m x) (h : ¬ (x.toInt < 0 ∧ i = 0)) : dg_w x i = nI (48 + x.toInt.natAbs / 10 ^ (dg_m x - (i + 1)) % 10) := by
  unfold dg_w
  rw [if_neg h, show dg_m x - 1 - i = dg_m x - (i + 1) by omega]
theorem pu_dg0n {n a : Nat} {T T0 : Nat → Int32} {x : Int64} (hT : ∀ j, j < n → T j = T0 j) (h2 : a ≤ n) (h3 : x.toInt < 0) : ∀ i, i < n - (a - a) + dg_m x → (i < a ∨ a + dg_m x ≤ i ∨ i = a) → upd (va_cpy T T a (a + dg_m x) (n - a)) a (nI 45) i = tl_rep T0 a a (dg_w x) (dg_m x) i := by
  intro i hi h
  have h1 := dg_m_pos x
  by_cases c : i = a
  · subst c
    rw [pk_us, tl_rep_in (a := i) (m := dg_m x) (i := 0) (j := i) rfl (by omega)]
    unfold dg_w
    rw [if_pos ⟨h3, rfl⟩]
    rfl
  · rw [pk_un c]
    exact pu_gap hT h2 i hi (by omega)
theorem pu_dgsp {n a i : Nat} {F T0 : Nat → Int32} {x : Int64} (h3 : ¬ x.toInt < 0) (hi : i < dg_m x) (_h : 0 ≤ i) (hF : ∀ q, q < n - (a - a) + dg_m x → (q < a ∨ a + (i + 1) ≤ q) → F q = tl_rep T0 a a (dg_w x) (dg_m x) q) : ∀ q, q < n - (a - a) + dg_m x → (q < a ∨ a + i ≤ q) → upd F (a + i) (nI (48 + x.toInt.natAbs / 10 ^ (dg_m x - (i + 1)) % 10)) q = tl_rep T0 a a (dg_w x) (dg_m x) q := by
  intro q hq h
  by_cases c : q = a + i
  · subst c
    rw [pk_us, tl_rep_in (i := i) rfl hi, dg_w_at hi (fun z => h3 z.1)]
  · rw [pk_un c]
    exact hF q hq (by omega)
theorem pu_dgsn {n a i : Nat} {F T0 : Nat → Int32} {x : Int64} (_h3 : x.toInt < 0) (hi : i < dg_m x) (h : 1 ≤ i) (hF : ∀ q, q < n - (a - a) + dg_m x → (q < a ∨ a + (i + 1) ≤ q ∨ q = a) → F q = tl_rep T0 a a (dg_w x) (dg_m x) q) : ∀ q, q < n - (a - a) + dg_m x → (q < a ∨ a + i ≤ q ∨ q = a) → upd F (a + i) (nI (48 + x.toInt.natAbs / 10 ^ (dg_m x - (i + 1)) % 10)) q = tl_rep T0 a a (dg_w x) (dg_m x) q := by
  intro q hq h2
  by_cases c : q = a + i
  · subst c
    rw [pk_us, tl_rep_in (i := i) rfl hi, dg_w_at hi (fun z => by omega)]
  · rw [pk_un c]
    exact hF q hq (by omega)
theorem pu_up {k : Nat} {G G0 : Nat → Int32} {x : Int32} (hG : ∀ j, j < k → G j = G0 j) : ∀ j, j < k + 1 → upd G k x j = upd G0 k x j := by
  intro j hj
  by_cases c : j = k
  · subst c
    rw [pk_us, pk_us]
  · rw [pk_un c, pk_un c]
    exact hG j (by omega)
theorem pu_ups {n a : Nat} {T T0 : Nat → Int32} {x : Int32} (hT : ∀ j, j < n → T j = T0 j) : ∀ j, j < n → upd T a x j = upd T0 a x j := by
  intro j hj
  by_cases c : j = a
  · subst c
    rw [pk_us, pk_us]
  · rw [pk_un c, pk_un c]
    exact hT j hj
theorem pu_take {n k a : Nat} {T G T0 G0 : Nat → Int32} (hT : ∀ j, j < n → T j = T0 j) (hG : ∀ j, j < k → G j = G0 j) (hn : n ≤ 3000) (hk : k ≤ 40) (h : a < n) : tE (n - (a + 1 - a) + 0, va_cpy T T (a + 1) (a + 0) (n - (a + 1)), k, G) (n - 1, tl_rep T0 a (a + 1) G0 0, k, G0) := by
  have h1 := pu_cut (w := G0) hT (show a ≤ a + 1 by omega) (show a + 1 ≤ n by omega)
  rw [show n - 1 = n - (a + 1 - a) + 0 by omega]
  exact tE_mk h1 hG (by omega) hk
theorem pu_turn0 {n : Nat} {T T0 : Nat → Int32} (hT : ∀ j, j < n → T j = T0 j) : ∀ i, i < n → T i = if i < 0 ∨ n - 1 - 0 < i then T0 (n - 1 - i) else T0 i := by
  intro i hi
  rw [if_neg (by omega)]
  exact hT i hi
theorem pu_len {n j : Nat} {F T0 : Nat → Int32} (hj : n ≤ j) (hF : ∀ i, i < j → F i = if i < n then T0 i else 0) : ∀ i, i < j + 1 → upd F j (nI 0) i = if i < n then T0 i else 0 := by
  intro i hi
  by_cases c : i = j
  · subst c
    rw [pk_us, if_neg (by omega)]
    rfl
  · rw [pk_un c]
    exact hF i (by omega)
theorem pu_lift {n a b : Nat} {T G T0 : Nat → Int32} (hT : ∀ j, j < n → T j = T0 j) (h1 : a ≤ b) (h2 : b ≤ n) : ∀ j, j < b - a → va_cpy T G a 0 (b - a) j = T0 (a + j) := by
  intro j hj
  rw [pk_cpy_in (by omega) (by omega), hT _ (by omega)]
  congr 1
theorem tl_ordI {n k : Nat} (hn : n < 2 ^ 31) (hk : k < 2 ^ 31) : (if (nI n).toInt = (nI k).toInt then (0 : Int32) else if (nI n).toInt < (nI k).toInt then -1 else 1) = tl_ord n k := by
  rw [nI_toInt hn, nI_toInt hk]
  unfold tl_ord
  (repeat' split) <;> first | rfl | (exfalso; omega)
theorem tl_bw_i1 {n k : Nat} {x y : Int32} (e : y.toInt = ((n : Nat) : Int) - ((k : Nat) : Int)) : (if y < x then y else x).toInt + k ≤ n ∨ (if y < x then y else x).toInt < 0 := by
  by_cases h : y < x
  · rw [if_pos h]
    omega
  · rw [if_neg h]
    rw [Int32.lt_iff_toInt_lt] at h
    omega
theorem tl_bw_i2 {n k : Nat} {x y : Int32} (e : y.toInt = ((n : Nat) : Int) - ((k : Nat) : Int)) : ((if y < x then y else x).toInt = x.toInt ∧ x.toInt + k ≤ n) ∨ ((if y < x then y else x).toInt = (n : Int) - k ∧ (n : Int) < x.toInt + k) := by
  by_cases h : y < x
  · rw [if_pos h]
    rw [Int32.lt_iff_toInt_lt] at h
    omega
  · rw [if_neg h]
    rw [Int32.lt_iff_toInt_lt] at h
    omega
