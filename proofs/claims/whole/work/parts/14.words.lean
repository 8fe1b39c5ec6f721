/-! what stands in the heap from the start: the two text constants, the reference's two tables -/
def sK (a v N : Nat) (f : Nat → Int32) (A : Nat → Prop) (U : State) (H : Heap) : Prop := va_O "java/lang/String" a A U H ∧ va_OF "java/lang/String" "coder" "B" (.int 0) a A U H ∧ va_OF "java/lang/String" "value" "[B" (.ref v) a A U H ∧ va_T .byte v N (fun j => .int (f j)) A U H ∧ va_Z "java/lang/String" "COMPACT_STRINGS" "Z" (.int 1) A U H ∧ va_Zq "jdk/internal/util/Preconditions" "SIOOBE_FORMATTER" "Ljava/util/function/BiFunction;" A U H
def mK (tY tN : Nat) (A : Nat → Prop) (U : State) (H : Heap) : Prop := va_Z "TextLoomModel" "YES" "[I" (.ref tY) A U H ∧ va_T .int tY 4 (fun j => .int (tl_yes j)) A U H ∧ va_Z "TextLoomModel" "NO" "[I" (.ref tN) A U H ∧ va_T .int tN 5 (fun j => .int (tl_no j)) A U H
theorem sK_moved {a v N : Nat} {f : Nat → Int32} {A : Nat → Prop} {u U : State} {H : Heap} (hvm : u.vm.Alike U.vm) (h : sK a v N f A u H) : sK a v N f A U H := ⟨va_O.moved hvm h.1, va_OF.moved hvm h.2.1, va_OF.moved hvm h.2.2.1, va_T.moved hvm h.2.2.2.1, va_Z.moved hvm h.2.2.2.2.1, va_Zq.moved hvm h.2.2.2.2.2⟩
theorem mK_moved {tY tN : Nat} {A : Nat → Prop} {u U : State} {H : Heap} (hvm : u.vm.Alike U.vm) (h : mK tY tN A u H) : mK tY tN A U H := ⟨va_Z.moved hvm h.1, va_T.moved hvm h.2.1, va_Z.moved hvm h.2.2.1, va_T.moved hvm h.2.2.2⟩
theorem sK_at {a v N : Nat} {f : Nat → Int32} {A B : Nat → Prop} {s U : State} {H : Heap} {locs : List Loc} (h : sK a v N f A s s.heap) (hS : va_S A s.heap H locs) (hB : ∀ q, B q → A q) (hW : s.vm.Alike U.vm) (hU : U.heap = H) : sK a v N f B U U.heap := by
  rw [hU]
  exact sK_moved hW ⟨(h.1.kept hS.2.1).narrow hB, (h.2.1.kept hS.2.1).narrow hB, (h.2.2.1.kept hS.2.1).narrow hB, (h.2.2.2.1.kept hS.2.1).narrow hB, (h.2.2.2.2.1.kept hS.2.1).narrow hB, (h.2.2.2.2.2.kept hS.2.1).narrow hB⟩
theorem mK_at {tY tN : Nat} {A B : Nat → Prop} {s U : State} {H : Heap} {locs : List Loc} (h : mK tY tN A s s.heap) (hS : va_S A s.heap H locs) (hB : ∀ q, B q → A q) (hW : s.vm.Alike U.vm) (hU : U.heap = H) : mK tY tN B U U.heap := by
  rw [hU]
  exact mK_moved hW ⟨(h.1.kept hS.2.1).narrow hB, (h.2.1.kept hS.2.1).narrow hB, (h.2.2.1.kept hS.2.1).narrow hB, (h.2.2.2.kept hS.2.1).narrow hB⟩
def tl_chr (N : Nat) (f : Nat → Int32) : Prop := ∀ j, j < N → ((f j &&& nI 255).toUInt32 % 65536).toInt32 = f j ∧ narrow .char (.int (f j)) = .int (f j)
theorem tl_chr_yes : tl_chr 4 tl_yes := by
  intro j hj
  unfold tl_yes
  (repeat' split) <;> exact ⟨by decide, by decide⟩
theorem tl_chr_no : tl_chr 5 tl_no := by
  intro j hj
  unfold tl_no
  (repeat' split) <;> exact ⟨by decide, by decide⟩
theorem pu_puts {n a m j : Nat} {F T0 w : Nat → Int32} (hj : j < m) (hF : ∀ i, i < n - (a - a) + m → (i < a + j ∨ a + m ≤ i) → F i = tl_rep T0 a a w m i) : ∀ i, i < n - (a - a) + m → (i < a + (j + 1) ∨ a + m ≤ i) → upd F (a + j) (w j) i = tl_rep T0 a a w m i := by
  intro i hi h
  by_cases c : i = a + j
  · subst c
    rw [pk_us, tl_rep_in (i := j) rfl hj]
  · rw [pk_un c]
    exact hF i hi (by omega)
theorem pm_let0 {n m : Nat} {T T0 w : Nat → Int32} (hT : ∀ j, j < n → T j = T0 j) : ∀ i, i < n + m → (i < n + 0 ∨ n + m ≤ i) → T i = tl_rep T0 n n w m i := by
  intro i hi h
  unfold tl_rep
  rw [if_pos (by omega)]
  exact hT i (by omega)
theorem pm_sign {n : Nat} {T T0 : Nat → Int32} {y : Int32} (hT : ∀ j, j < n → T j = T0 j) : ∀ j, j < n + 1 → upd T n y j = tl_rep T0 n n (fun _ => y) 1 j := by
  intro j hj
  by_cases c : j = n
  · subst c
    rw [pk_us, tl_rep_in (a := j) (m := 1) (i := 0) (j := j) rfl (by omega)]
  · rw [pk_un c]
    unfold tl_rep
    rw [if_pos (by omega)]
    exact hT j (by omega)
/-- a text constant, out of what the Statement says of it -/
theorem tl_str {args : Array Value} {s : State} {A : Nat → Prop} (hA : ∀ a : Nat, a < s.heap.size → ¬ A a) (hCS : va_Z "java/lang/String" "COMPACT_STRINGS" "Z" (.int 1) A s s.heap) (hSI : va_Zq "jdk/internal/util/Preconditions" "SIOOBE_FORMATTER" "Ljava/util/function/BiFunction;" A s s.heap) (i N : Nat) (f : Nat → Int32) (hN : N < 2 ^ 31)
    (hex : (Cond.exactly (.string "TextLoom" i) "java/lang/String").before args s = true) (hco : (Cond.eq (.field (.string "TextLoom" i) "java/lang/String" "coder" "B") (.int 0)).before args s = true) (har : (Cond.arrayOf (.field (.string "TextLoom" i) "java/lang/String" "value" "[B") .byte).before args s = true)
    (hle : (Cond.eq (.length (.field (.string "TextLoom" i) "java/lang/String" "value" "[B")) (.int (Int32.ofNat N))).before args s = true) (hel : ∀ j, j < N → (Cond.eq (.elem (.field (.string "TextLoom" i) "java/lang/String" "value" "[B") (.int (Int32.ofNat j))) (.int (f j))).before args s = true) :
    ∃ a v : Nat, (Term.string "TextLoom" i).eval args s none [] s = some (.ref a) ∧ sK a v N f A s s.heap := by
  obtain ⟨a, c, cA, kA, q1, -⟩ := Cond.exactly_spec (args := args) (first := s) (o := none) (s := s) (idx := []) (t := .string "TextLoom" i) (cls := "java/lang/String") hex
  obtain ⟨v, q2, q3⟩ := va_Tof (tm := .field (.string "TextLoom" i) "java/lang/String" "value" "[B") (ty := .byte) (N := N) (f := fun j => .int (f j)) (A := A) hN har (va_eqt hle) (fun j hj => va_eqt (hel j hj)) hA
  exact ⟨a, v, q1, va_Oof hex q1 hA, vk_OFof q1 (va_eqt hco) hA, vk_OFof q1 q2 hA, q3, hCS, hSI⟩
