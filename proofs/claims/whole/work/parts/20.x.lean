set_option maxHeartbeats 4000000 in
set_option maxRecDepth 100000 in
theorem c_X_order (l : Launch) (x y : Int32) : Met l yX0_order wsX0_order ({ frames := 0, cells := 0, slots := 0, locals := 0 } : Room) (va_Pc [.int x, .int y] (fun _ => True)) (vp_Si (fun r : Int32 => r = (if x.toInt = y.toInt then 0 else if x.toInt < y.toInt then -1 else 1))) 0 0 (fun _ => False) := by
  refine Met.ofW (cc := cX0_order) (maxL := 2) (ret := (some .int)) (by decide) rfl ?_
  intro p e s m args below meth c s₁ B hml hv
  obtain ⟨rfl, -⟩ := hv
  have hx := B.exec
  have hb := B.bytes
  have hr := B.returns
  have hts := atoms_spec (ws := wsX0_order) B.pre
  have hown : s.vm.findClass RX0 = some m.cls := findClass_of_methodNamed B.named
  have hlocks := B.notSynchronized
  have hl := lv_entry ([.int x, .int y]) (n := 2) (Nat.le_of_ble_eq_true rfl)
  rw [lg_entry_eq]
  generalize (lg_sl ([.int x, .int y]) ++ List.replicate (2 - (lg_sl ([.int x, .int y])).length) Slot.unset).toArray = ls at hl ⊢
  have hl : lv_has ls 2 [(0, .int x), (1, .int y)] := hl
  refine tl_q (fun Q hQ => ?_)
  refine lv_iload_n hx hb dX0_order_0 rfl (lv_at hl 0 rfl) ?_
  refine lv_iload_n hx hb dX0_order_1 rfl (lv_at hl 1 rfl) ?_
  refine lv_icmp_ne (tgt := 7) hx hb dX0_order_2 rfl (fun h2 => ?_) (fun h2 => ?_)
  · skip
    have h2 := (not_congr (tl_eq (show x.toInt = x.toInt from rfl) (show y.toInt = y.toInt from rfl))).mp h2
    refine lv_iload_n hx hb dX0_order_7 rfl (lv_at hl 0 rfl) ?_
    refine lv_iload_n hx hb dX0_order_8 rfl (lv_at hl 1 rfl) ?_
    refine lv_icmp_ge (tgt := 16) hx hb dX0_order_9 rfl (fun h9 => ?_) (fun h9 => ?_)
    · skip
      have h9 := (tl_le (show y.toInt = y.toInt from rfl) (show x.toInt = x.toInt from rfl)).mp h9
      refine lv_iconst (v := nI 1) hx hb dX0_order_16 (by decide) ?_
      subst hQ
      exact W.iret (v := nI 1) hx hb hr (fun t ht hW => ⟨nI 1, rfl, (by (repeat' split) <;> first | rfl | (exfalso; omega)), ht⟩) (fun q h => absurd h List.not_mem_nil) dX0_order_17
    · skip
      have h9 := (not_congr (tl_le (show y.toInt = y.toInt from rfl) (show x.toInt = x.toInt from rfl))).mp h9
      refine lv_iconst (v := (-1 : Int32)) hx hb dX0_order_12 (by decide) ?_
      refine lv_goto (tgt := 17) hx hb dX0_order_13 rfl ?_
      subst hQ
      exact W.iret (v := (-1 : Int32)) hx hb hr (fun t ht hW => ⟨(-1 : Int32), rfl, (by (repeat' split) <;> first | rfl | (exfalso; omega)), ht⟩) (fun q h => absurd h List.not_mem_nil) dX0_order_17
  · skip
    have h2 := (tl_eq (show x.toInt = x.toInt from rfl) (show y.toInt = y.toInt from rfl)).mp h2
    refine lv_iconst (v := nI 0) hx hb dX0_order_5 (by decide) ?_
    subst hQ
    exact W.iret (v := nI 0) hx hb hr (fun t ht hW => ⟨nI 0, rfl, (by (repeat' split) <;> first | rfl | (exfalso; omega)), ht⟩) (fun q h => absurd h List.not_mem_nil) dX0_order_6
set_option maxHeartbeats 4000000 in
set_option maxRecDepth 100000 in
theorem c_X_isSign (l : Launch) (x : Int64) : Met l yX0_isSign wsX0_isSign ({ frames := 0, cells := 0, slots := 0, locals := 0 } : Room) (va_Pc [.long x] (fun _ => True)) (vp_Si (fun r : Int32 => (r = 1 ∧ (0 ≤ x.toInt ∧ x.toInt ≤ 65535 ∧ (x.toInt < 55296 ∨ 57343 < x.toInt))) ∨ (r = 0 ∧ ¬ (0 ≤ x.toInt ∧ x.toInt ≤ 65535 ∧ (x.toInt < 55296 ∨ 57343 < x.toInt))))) 0 0 (fun _ => False) := by
  refine Met.ofW (cc := cX0_isSign) (maxL := 2) (ret := (some .boolean)) (by decide) rfl ?_
  intro p e s m args below meth c s₁ B hml hv
  obtain ⟨rfl, -⟩ := hv
  have hx := B.exec
  have hb := B.bytes
  have hr := B.returns
  have hts := atoms_spec (ws := wsX0_isSign) B.pre
  have hown : s.vm.findClass RX0 = some m.cls := findClass_of_methodNamed B.named
  have hlocks := B.notSynchronized
  have hl := lv_entry ([.long x]) (n := 2) (Nat.le_of_ble_eq_true rfl)
  rw [lg_entry_eq]
  generalize (lg_sl ([.long x]) ++ List.replicate (2 - (lg_sl ([.long x])).length) Slot.unset).toArray = ls at hl ⊢
  have hl : lv_has ls 2 [(0, .long x)] := hl
  refine tl_q (fun Q hQ => ?_)
  refine lv_lload_n hx hb dX0_isSign_0 rfl (lv_at hl 0 rfl) ?_
  refine lv_lconst (v := (0 : Int64)) hx hb dX0_isSign_1 (by decide) ?_
  refine W.lcmp hx hb dX0_isSign_2 ?_
  refine lv_if_lt (tgt := 34) hx hb dX0_isSign_3 rfl (fun h3 => ?_) (fun h3 => ?_)
  · skip
    have h3 := (tl_llt (show x.toInt = x.toInt from rfl) (show ((0 : Int64)).toInt = (0 : Int) from (by decide))).mp h3
    refine lv_iconst (v := nI 0) hx hb dX0_isSign_34 (by decide) ?_
    subst hQ
    exact W.zret (v := nI 0) hx hb hr (by decide) (fun t ht hW => ⟨nI 0, rfl, (Or.inr ⟨by decide, by omega⟩), ht⟩) (fun q h => absurd h List.not_mem_nil) dX0_isSign_35
  · skip
    have h3 := (not_congr (tl_llt (show x.toInt = x.toInt from rfl) (show ((0 : Int64)).toInt = (0 : Int) from (by decide)))).mp h3
    refine lv_lload_n hx hb dX0_isSign_6 rfl (lv_at hl 0 rfl) ?_
    refine lv_ldc2 (v := (65536 : Int64)) hx hb hown (hts _ (List.mem_cons_of_mem _ k58)) dX0_isSign_7 ?_
    refine W.lcmp hx hb dX0_isSign_10 ?_
    refine lv_if_ge (tgt := 34) hx hb dX0_isSign_11 rfl (fun h11 => ?_) (fun h11 => ?_)
    · skip
      have h11 := (tl_lge (show x.toInt = x.toInt from rfl) (show ((65536 : Int64)).toInt = (65536 : Int) from (by decide))).mp h11
      refine lv_iconst (v := nI 0) hx hb dX0_isSign_34 (by decide) ?_
      subst hQ
      exact W.zret (v := nI 0) hx hb hr (by decide) (fun t ht hW => ⟨nI 0, rfl, (Or.inr ⟨by decide, by omega⟩), ht⟩) (fun q h => absurd h List.not_mem_nil) dX0_isSign_35
    · skip
      have h11 := (not_congr (tl_lge (show x.toInt = x.toInt from rfl) (show ((65536 : Int64)).toInt = (65536 : Int) from (by decide)))).mp h11
      refine lv_lload_n hx hb dX0_isSign_14 rfl (lv_at hl 0 rfl) ?_
      refine lv_ldc2 (v := (55296 : Int64)) hx hb hown (hts _ (List.mem_cons_of_mem _ k59)) dX0_isSign_15 ?_
      refine W.lcmp hx hb dX0_isSign_18 ?_
      refine lv_if_lt (tgt := 30) hx hb dX0_isSign_19 rfl (fun h19 => ?_) (fun h19 => ?_)
      · skip
        have h19 := (tl_llt (show x.toInt = x.toInt from rfl) (show ((55296 : Int64)).toInt = (55296 : Int) from (by decide))).mp h19
        refine lv_iconst (v := nI 1) hx hb dX0_isSign_30 (by decide) ?_
        refine lv_goto (tgt := 35) hx hb dX0_isSign_31 rfl ?_
        subst hQ
        exact W.zret (v := nI 1) hx hb hr (by decide) (fun t ht hW => ⟨nI 1, rfl, (Or.inl ⟨by decide, by omega⟩), ht⟩) (fun q h => absurd h List.not_mem_nil) dX0_isSign_35
      · skip
        have h19 := (not_congr (tl_llt (show x.toInt = x.toInt from rfl) (show ((55296 : Int64)).toInt = (55296 : Int) from (by decide)))).mp h19
        refine lv_lload_n hx hb dX0_isSign_22 rfl (lv_at hl 0 rfl) ?_
        refine lv_ldc2 (v := (57343 : Int64)) hx hb hown (hts _ (List.mem_cons_of_mem _ k60)) dX0_isSign_23 ?_
        refine W.lcmp hx hb dX0_isSign_26 ?_
        refine lv_if_le (tgt := 34) hx hb dX0_isSign_27 rfl (fun h27 => ?_) (fun h27 => ?_)
        · skip
          have h27 := (tl_lle (show x.toInt = x.toInt from rfl) (show ((57343 : Int64)).toInt = (57343 : Int) from (by decide))).mp h27
          refine lv_iconst (v := nI 0) hx hb dX0_isSign_34 (by decide) ?_
          subst hQ
          exact W.zret (v := nI 0) hx hb hr (by decide) (fun t ht hW => ⟨nI 0, rfl, (Or.inr ⟨by decide, by omega⟩), ht⟩) (fun q h => absurd h List.not_mem_nil) dX0_isSign_35
        · skip
          have h27 := (not_congr (tl_lle (show x.toInt = x.toInt from rfl) (show ((57343 : Int64)).toInt = (57343 : Int) from (by decide)))).mp h27
          refine lv_iconst (v := nI 1) hx hb dX0_isSign_30 (by decide) ?_
          refine lv_goto (tgt := 35) hx hb dX0_isSign_31 rfl ?_
          subst hQ
          exact W.zret (v := nI 1) hx hb hr (by decide) (fun t ht hW => ⟨nI 1, rfl, (Or.inl ⟨by decide, by omega⟩), ht⟩) (fun q h => absurd h List.not_mem_nil) dX0_isSign_35
set_option maxHeartbeats 4000000 in
set_option maxRecDepth 100000 in
theorem c_X_isPlace (l : Launch) (dC : Nat → ClassId) (dI : Nat → Nat → Nat) (h0 q0 q1 n k : Nat) (cA cB : ClassId) (T G T0 G0 : Nat → Int32) (hT : ∀ j, j < n → T j = T0 j) (hG : ∀ j, j < k → G j = G0 j) (hn : n ≤ 3000) (hk : k ≤ 40) (x : Int32) : Met l yX0_isPlace wsX0_isPlace ({ frames := 0, cells := 0, slots := 0, locals := 0 } : Room) (va_Pc [.ref h0, .int x] (fun U => va_P (dC, dI) vwCl [(h0, .inr (0, [.ref q0, .ref q1, .int (nI n), .int (nI k)])), (q0, .inl (cA, 3000, .inl T)), (q1, .inl (cB, 40, .inl G))] U.heap ∧ va_K (dC, dI) vwCl [(cA, .int), (cB, .int)] U)) (vp_Si (fun r : Int32 => (r = 1 ∧ (0 ≤ x.toInt ∧ x.toInt < (n : Int))) ∨ (r = 0 ∧ ¬ (0 ≤ x.toInt ∧ x.toInt < (n : Int))))) 0 0 (fun _ => False) := by
  refine Met.ofW (cc := cX0_isPlace) (maxL := 2) (ret := (some .boolean)) (by decide) rfl ?_
  intro p e s m args below meth c s₁ B hml hv
  obtain ⟨rfl, hP, hK⟩ := hv
  have hx := B.exec
  have hb := B.bytes
  have hr := B.returns
  have hts := atoms_spec (ws := wsX0_isPlace) B.pre
  have hown : s.vm.findClass RX0 = some m.cls := findClass_of_methodNamed B.named
  have hlocks := B.notSynchronized
  have hP : va_P (dC, dI) vwCl [(h0, .inr (0, [.ref q0, .ref q1, .int (nI n), .int (nI k)])), (q0, .inl (cA, 3000, .inl T)), (q1, .inl (cB, 40, .inl G))] s.heap := hP
  have hinX0 : ∀ w ∈ u_ws RX0 TX0 4, w ∈ wsX0_isPlace := fun w h => List.mem_cons_of_mem _ (inX0 w h)
  have hl := lv_entry ([.ref h0, .int x]) (n := 2) (Nat.le_of_ble_eq_true rfl)
  rw [lg_entry_eq]
  generalize (lg_sl ([.ref h0, .int x]) ++ List.replicate (2 - (lg_sl ([.ref h0, .int x])).length) Slot.unset).toArray = ls at hl ⊢
  have hl : lv_has ls 2 [(0, .ref h0), (1, .int x)] := hl
  refine tl_q (fun Q hQ => ?_)
  refine lv_iload_n hx hb dX0_isPlace_0 rfl (lv_at hl 1 rfl) ?_
  refine lv_if_lt (tgt := 16) hx hb dX0_isPlace_1 rfl (fun h1 => ?_) (fun h1 => ?_)
  · skip
    have h1 := (tl_lt (show x.toInt = x.toInt from rfl) (show (0 : Int32).toInt = (0 : Int) from Int32.toInt_zero)).mp h1
    refine lv_iconst (v := nI 0) hx hb dX0_isPlace_16 (by decide) ?_
    subst hQ
    exact W.zret (v := nI 0) hx hb hr (by decide) (fun t ht hW => ⟨nI 0, rfl, (Or.inr ⟨by decide, by omega⟩), ht⟩) (fun q h => absurd h List.not_mem_nil) dX0_isPlace_17
  · skip
    have h1 := (not_congr (tl_lt (show x.toInt = x.toInt from rfl) (show (0 : Int32).toInt = (0 : Int) from Int32.toInt_zero))).mp h1
    refine lv_iload_n hx hb dX0_isPlace_4 rfl (lv_at hl 1 rfl) ?_
    refine lv_aload_n hx hb dX0_isPlace_5 rfl (lv_at hl 0 rfl) ?_
    refine va_get (D := (dC, dI)) (ci := 0) (v := .int (nI n)) (C := RX0) (T := TX0) (N := 4) hx hb hts hinX0 hown hK hP 0 rfl rfl 2 (by decide) (hts _ (List.mem_cons_of_mem _ k39)) (fun _ h9 => h9) rfl dX0_isPlace_6 ?_
    refine lv_icmp_ge (tgt := 16) hx hb dX0_isPlace_9 rfl (fun h9 => ?_) (fun h9 => ?_)
    · skip
      have h9 := (tl_le (show (nI n).toInt = ((n : Nat) : Int) from (nI_toInt (by omega))) (show x.toInt = x.toInt from rfl)).mp h9
      refine lv_iconst (v := nI 0) hx hb dX0_isPlace_16 (by decide) ?_
      subst hQ
      exact W.zret (v := nI 0) hx hb hr (by decide) (fun t ht hW => ⟨nI 0, rfl, (Or.inr ⟨by decide, by omega⟩), ht⟩) (fun q h => absurd h List.not_mem_nil) dX0_isPlace_17
    · skip
      have h9 := (not_congr (tl_le (show (nI n).toInt = ((n : Nat) : Int) from (nI_toInt (by omega))) (show x.toInt = x.toInt from rfl))).mp h9
      refine lv_iconst (v := nI 1) hx hb dX0_isPlace_12 (by decide) ?_
      refine lv_goto (tgt := 17) hx hb dX0_isPlace_13 rfl ?_
      subst hQ
      exact W.zret (v := nI 1) hx hb hr (by decide) (fun t ht hW => ⟨nI 1, rfl, (Or.inl ⟨by decide, by omega⟩), ht⟩) (fun q h => absurd h List.not_mem_nil) dX0_isPlace_17
set_option maxHeartbeats 4000000 in
set_option maxRecDepth 100000 in
theorem c_X_isPlaceOrEnd (l : Launch) (dC : Nat → ClassId) (dI : Nat → Nat → Nat) (h0 q0 q1 n k : Nat) (cA cB : ClassId) (T G T0 G0 : Nat → Int32) (hT : ∀ j, j < n → T j = T0 j) (hG : ∀ j, j < k → G j = G0 j) (hn : n ≤ 3000) (hk : k ≤ 40) (x : Int32) : Met l yX0_isPlaceOrEnd wsX0_isPlaceOrEnd ({ frames := 0, cells := 0, slots := 0, locals := 0 } : Room) (va_Pc [.ref h0, .int x] (fun U => va_P (dC, dI) vwCl [(h0, .inr (0, [.ref q0, .ref q1, .int (nI n), .int (nI k)])), (q0, .inl (cA, 3000, .inl T)), (q1, .inl (cB, 40, .inl G))] U.heap ∧ va_K (dC, dI) vwCl [(cA, .int), (cB, .int)] U)) (vp_Si (fun r : Int32 => (r = 1 ∧ (0 ≤ x.toInt ∧ x.toInt ≤ (n : Int))) ∨ (r = 0 ∧ ¬ (0 ≤ x.toInt ∧ x.toInt ≤ (n : Int))))) 0 0 (fun _ => False) := by
  refine Met.ofW (cc := cX0_isPlaceOrEnd) (maxL := 2) (ret := (some .boolean)) (by decide) rfl ?_
  intro p e s m args below meth c s₁ B hml hv
  obtain ⟨rfl, hP, hK⟩ := hv
  have hx := B.exec
  have hb := B.bytes
  have hr := B.returns
  have hts := atoms_spec (ws := wsX0_isPlaceOrEnd) B.pre
  have hown : s.vm.findClass RX0 = some m.cls := findClass_of_methodNamed B.named
  have hlocks := B.notSynchronized
  have hP : va_P (dC, dI) vwCl [(h0, .inr (0, [.ref q0, .ref q1, .int (nI n), .int (nI k)])), (q0, .inl (cA, 3000, .inl T)), (q1, .inl (cB, 40, .inl G))] s.heap := hP
  have hinX0 : ∀ w ∈ u_ws RX0 TX0 4, w ∈ wsX0_isPlaceOrEnd := fun w h => List.mem_cons_of_mem _ (inX0 w h)
  have hl := lv_entry ([.ref h0, .int x]) (n := 2) (Nat.le_of_ble_eq_true rfl)
  rw [lg_entry_eq]
  generalize (lg_sl ([.ref h0, .int x]) ++ List.replicate (2 - (lg_sl ([.ref h0, .int x])).length) Slot.unset).toArray = ls at hl ⊢
  have hl : lv_has ls 2 [(0, .ref h0), (1, .int x)] := hl
  refine tl_q (fun Q hQ => ?_)
  refine lv_iload_n hx hb dX0_isPlaceOrEnd_0 rfl (lv_at hl 1 rfl) ?_
  refine lv_if_lt (tgt := 16) hx hb dX0_isPlaceOrEnd_1 rfl (fun h1 => ?_) (fun h1 => ?_)
  · skip
    have h1 := (tl_lt (show x.toInt = x.toInt from rfl) (show (0 : Int32).toInt = (0 : Int) from Int32.toInt_zero)).mp h1
    refine lv_iconst (v := nI 0) hx hb dX0_isPlaceOrEnd_16 (by decide) ?_
    subst hQ
    exact W.zret (v := nI 0) hx hb hr (by decide) (fun t ht hW => ⟨nI 0, rfl, (Or.inr ⟨by decide, by omega⟩), ht⟩) (fun q h => absurd h List.not_mem_nil) dX0_isPlaceOrEnd_17
  · skip
    have h1 := (not_congr (tl_lt (show x.toInt = x.toInt from rfl) (show (0 : Int32).toInt = (0 : Int) from Int32.toInt_zero))).mp h1
    refine lv_iload_n hx hb dX0_isPlaceOrEnd_4 rfl (lv_at hl 1 rfl) ?_
    refine lv_aload_n hx hb dX0_isPlaceOrEnd_5 rfl (lv_at hl 0 rfl) ?_
    refine va_get (D := (dC, dI)) (ci := 0) (v := .int (nI n)) (C := RX0) (T := TX0) (N := 4) hx hb hts hinX0 hown hK hP 0 rfl rfl 2 (by decide) (hts _ (List.mem_cons_of_mem _ k39)) (fun _ h9 => h9) rfl dX0_isPlaceOrEnd_6 ?_
    refine lv_icmp_gt (tgt := 16) hx hb dX0_isPlaceOrEnd_9 rfl (fun h9 => ?_) (fun h9 => ?_)
    · skip
      have h9 := (tl_lt (show (nI n).toInt = ((n : Nat) : Int) from (nI_toInt (by omega))) (show x.toInt = x.toInt from rfl)).mp h9
      refine lv_iconst (v := nI 0) hx hb dX0_isPlaceOrEnd_16 (by decide) ?_
      subst hQ
      exact W.zret (v := nI 0) hx hb hr (by decide) (fun t ht hW => ⟨nI 0, rfl, (Or.inr ⟨by decide, by omega⟩), ht⟩) (fun q h => absurd h List.not_mem_nil) dX0_isPlaceOrEnd_17
    · skip
      have h9 := (not_congr (tl_lt (show (nI n).toInt = ((n : Nat) : Int) from (nI_toInt (by omega))) (show x.toInt = x.toInt from rfl))).mp h9
      refine lv_iconst (v := nI 1) hx hb dX0_isPlaceOrEnd_12 (by decide) ?_
      refine lv_goto (tgt := 17) hx hb dX0_isPlaceOrEnd_13 rfl ?_
      subst hQ
      exact W.zret (v := nI 1) hx hb hr (by decide) (fun t ht hW => ⟨nI 1, rfl, (Or.inl ⟨by decide, by omega⟩), ht⟩) (fun q h => absurd h List.not_mem_nil) dX0_isPlaceOrEnd_17
set_option maxHeartbeats 4000000 in
set_option maxRecDepth 100000 in
theorem c_X_hasRoom (l : Launch) (dC : Nat → ClassId) (dI : Nat → Nat → Nat) (h0 q0 q1 n k : Nat) (cA cB : ClassId) (T G T0 G0 : Nat → Int32) (hT : ∀ j, j < n → T j = T0 j) (hG : ∀ j, j < k → G j = G0 j) (hn : n ≤ 3000) (hk : k ≤ 40) (x : Int32) (hx1 : -3000 ≤ x.toInt) (hx2 : x.toInt ≤ 3000) : Met l yX0_hasRoom wsX0_hasRoom ({ frames := 0, cells := 0, slots := 0, locals := 0 } : Room) (va_Pc [.ref h0, .int x] (fun U => va_P (dC, dI) vwCl [(h0, .inr (0, [.ref q0, .ref q1, .int (nI n), .int (nI k)])), (q0, .inl (cA, 3000, .inl T)), (q1, .inl (cB, 40, .inl G))] U.heap ∧ va_K (dC, dI) vwCl [(cA, .int), (cB, .int)] U)) (vp_Si (fun r : Int32 => (r = 1 ∧ ((n : Int) + x.toInt ≤ 3000)) ∨ (r = 0 ∧ ¬ ((n : Int) + x.toInt ≤ 3000)))) 0 0 (fun _ => False) := by
  refine Met.ofW (cc := cX0_hasRoom) (maxL := 2) (ret := (some .boolean)) (by decide) rfl ?_
  intro p e s m args below meth c s₁ B hml hv
  obtain ⟨rfl, hP, hK⟩ := hv
  have hx := B.exec
  have hb := B.bytes
  have hr := B.returns
  have hts := atoms_spec (ws := wsX0_hasRoom) B.pre
  have hown : s.vm.findClass RX0 = some m.cls := findClass_of_methodNamed B.named
  have hlocks := B.notSynchronized
  have hP : va_P (dC, dI) vwCl [(h0, .inr (0, [.ref q0, .ref q1, .int (nI n), .int (nI k)])), (q0, .inl (cA, 3000, .inl T)), (q1, .inl (cB, 40, .inl G))] s.heap := hP
  have hinX0 : ∀ w ∈ u_ws RX0 TX0 4, w ∈ wsX0_hasRoom := fun w h => List.mem_cons_of_mem _ (inX0 w h)
  have hl := lv_entry ([.ref h0, .int x]) (n := 2) (Nat.le_of_ble_eq_true rfl)
  rw [lg_entry_eq]
  generalize (lg_sl ([.ref h0, .int x]) ++ List.replicate (2 - (lg_sl ([.ref h0, .int x])).length) Slot.unset).toArray = ls at hl ⊢
  have hl : lv_has ls 2 [(0, .ref h0), (1, .int x)] := hl
  refine tl_q (fun Q hQ => ?_)
  refine lv_aload_n hx hb dX0_hasRoom_0 rfl (lv_at hl 0 rfl) ?_
  refine va_get (D := (dC, dI)) (ci := 0) (v := .int (nI n)) (C := RX0) (T := TX0) (N := 4) hx hb hts hinX0 hown hK hP 0 rfl rfl 2 (by decide) (hts _ (List.mem_cons_of_mem _ k39)) (fun _ h9 => h9) rfl dX0_hasRoom_1 ?_
  refine lv_iload_n hx hb dX0_hasRoom_4 rfl (lv_at hl 1 rfl) ?_
  refine lv_iadd hx hb dX0_hasRoom_5 ?_
  have e5 : ((nI n) + x).toInt = ((n : Nat) : Int) + x.toInt := tl_addv (nI_toInt (by omega)) rfl (by omega) (by omega)
  refine lv_sipush (v := nI 3000) hx hb dX0_hasRoom_6 (by decide) ?_
  refine lv_icmp_gt (tgt := 16) hx hb dX0_hasRoom_9 rfl (fun h9 => ?_) (fun h9 => ?_)
  · skip
    have h9 := (tl_lt (show (nI 3000).toInt = (3000 : Int) from (by decide)) (show ((nI n) + x).toInt = (((n : Nat) : Int) + x.toInt) from e5)).mp h9
    refine lv_iconst (v := nI 0) hx hb dX0_hasRoom_16 (by decide) ?_
    subst hQ
    exact W.zret (v := nI 0) hx hb hr (by decide) (fun t ht hW => ⟨nI 0, rfl, (Or.inr ⟨by decide, by omega⟩), ht⟩) (fun q h => absurd h List.not_mem_nil) dX0_hasRoom_17
  · skip
    have h9 := (not_congr (tl_lt (show (nI 3000).toInt = (3000 : Int) from (by decide)) (show ((nI n) + x).toInt = (((n : Nat) : Int) + x.toInt) from e5))).mp h9
    refine lv_iconst (v := nI 1) hx hb dX0_hasRoom_12 (by decide) ?_
    refine lv_goto (tgt := 17) hx hb dX0_hasRoom_13 rfl ?_
    subst hQ
    exact W.zret (v := nI 1) hx hb hr (by decide) (fun t ht hW => ⟨nI 1, rfl, (Or.inl ⟨by decide, by omega⟩), ht⟩) (fun q h => absurd h List.not_mem_nil) dX0_hasRoom_17
set_option maxHeartbeats 4000000 in
set_option maxRecDepth 100000 in
theorem c_X_makeGap (l : Launch) (dC : Nat → ClassId) (dI : Nat → Nat → Nat) (h0 q0 q1 sz n k : Nat) (cA cB : ClassId) (T G T0 G0 : Nat → Int32) (hT : ∀ j, j < n → T j = T0 j) (hG : ∀ j, j < k → G j = G0 j) (hn : n ≤ 3000) (hk : k ≤ 40) (a b cz : Nat) (hab : a ≤ b) (hbn : b ≤ n) (hcn : n - (b - a) + cz ≤ 3000) : Met l yX0_makeGap wsX0_makeGap ({ frames := 1, cells := 0, slots := 0, locals := 21 } : Room) (va_Pc [.ref h0, .int (nI a), .int (nI b), .int (nI cz)] (fun U => U.heap.size = sz ∧ va_P (dC, dI) vwCl [(h0, .inr (0, [.ref q0, .ref q1, .int (nI n), .int (nI k)])), (q0, .inl (cA, 3000, .inl T)), (q1, .inl (cB, 40, .inl G))] U.heap ∧ va_K (dC, dI) vwCl [(cA, .int), (cB, .int)] U ∧ va_D (fun _ => True) [(h0, .inr (0, [.ref q0, .ref q1, .int (nI n), .int (nI k)])), (q0, .inl (cA, 3000, .inl T)), (q1, .inl (cB, 40, .inl G))])) (va_Qv (fun (u : tS) => u = (n - (b - a) + cz, va_cpy T T b (a + cz) (n - b), k, G)) (at_X dC dI (va_A [(h0, .inr (0, [.ref q0, .ref q1, .int (nI n), .int (nI k)])), (q0, .inl (cA, 3000, .inl T)), (q1, .inl (cB, 40, .inl G))] sz) h0 q0 q1 cA cB) (va_A [(h0, .inr (0, [.ref q0, .ref q1, .int (nI n), .int (nI k)])), (q0, .inl (cA, 3000, .inl T)), (q1, .inl (cB, 40, .inl G))] sz)) 0 0 (va_A [(h0, .inr (0, [.ref q0, .ref q1, .int (nI n), .int (nI k)])), (q0, .inl (cA, 3000, .inl T)), (q1, .inl (cB, 40, .inl G))] sz) := by
  refine Met.ofW (cc := cX0_makeGap) (maxL := 4) (ret := none) (by decide) rfl ?_
  intro p e s m args below meth c s₁ B hml hv
  obtain ⟨rfl, hsz, hP, hK, hD0⟩ := hv
  have hx := B.exec
  have hb := B.bytes
  have hr := B.returns
  have hts := atoms_spec (ws := wsX0_makeGap) B.pre
  have hown : s.vm.findClass RX0 = some m.cls := findClass_of_methodNamed B.named
  have hlocks := B.notSynchronized
  subst hsz
  have hD := hD0.self (sz := s.heap.size)
  generalize hAe : va_A [(h0, .inr (0, [.ref q0, .ref q1, .int (nI n), .int (nI k)])), (q0, .inl (cA, 3000, .inl T)), (q1, .inl (cB, 40, .inl G))] s.heap.size = A at hD ⊢
  have hA : ∀ q : Nat, s.heap.size ≤ q → A q := fun q h => by rw [← hAe]; exact Or.inr h
  have hS : va_S A s.heap s.heap [] := va_S.rf
  have hP : va_P (dC, dI) vwCl [(h0, .inr (0, [.ref q0, .ref q1, .int (nI n), .int (nI k)])), (q0, .inl (cA, 3000, .inl T)), (q1, .inl (cB, 40, .inl G))] s.heap := hP
  have hinX0 : ∀ w ∈ u_ws RX0 TX0 4, w ∈ wsX0_makeGap := fun w h => List.mem_cons_of_mem _ (inX0 w h)
  have hl := lv_entry ([.ref h0, .int (nI a), .int (nI b), .int (nI cz)]) (n := 4) (Nat.le_of_ble_eq_true rfl)
  rw [lg_entry_eq]
  generalize (lg_sl ([.ref h0, .int (nI a), .int (nI b), .int (nI cz)]) ++ List.replicate (4 - (lg_sl ([.ref h0, .int (nI a), .int (nI b), .int (nI cz)])).length) Slot.unset).toArray = ls at hl ⊢
  have hl : lv_has ls 4 [(0, .ref h0), (1, .int (nI a)), (2, .int (nI b)), (3, .int (nI cz))] := hl
  refine tl_q (fun Q hQ => ?_)
  refine lv_aload_n hx hb dX0_makeGap_0 rfl (lv_at hl 0 rfl) ?_
  refine va_get (D := (dC, dI)) (ci := 0) (v := .ref q0) (C := RX0) (T := TX0) (N := 4) hx hb hts hinX0 hown hK hP 0 rfl rfl 0 (by decide) (hts _ (List.mem_cons_of_mem _ k37)) (fun _ h9 => h9) rfl dX0_makeGap_1 ?_
  refine lv_iload_n hx hb dX0_makeGap_4 rfl (lv_at hl 2 rfl) ?_
  refine lv_aload_n hx hb dX0_makeGap_5 rfl (lv_at hl 0 rfl) ?_
  refine va_get (D := (dC, dI)) (ci := 0) (v := .ref q0) (C := RX0) (T := TX0) (N := 4) hx hb hts hinX0 hown hK hP 0 rfl rfl 0 (by decide) (hts _ (List.mem_cons_of_mem _ k37)) (fun _ h9 => h9) rfl dX0_makeGap_6 ?_
  refine lv_iload_n hx hb dX0_makeGap_9 rfl (lv_at hl 1 rfl) ?_
  refine lv_iload_n hx hb dX0_makeGap_10 rfl (lv_at hl 3 rfl) ?_
  refine lv_iadd hx hb dX0_makeGap_11 ?_
  refine tl_top (nI_add _ _) ?_
  refine lv_aload_n hx hb dX0_makeGap_12 rfl (lv_at hl 0 rfl) ?_
  refine va_get (D := (dC, dI)) (ci := 0) (v := .int (nI n)) (C := RX0) (T := TX0) (N := 4) hx hb hts hinX0 hown hK hP 0 rfl rfl 2 (by decide) (hts _ (List.mem_cons_of_mem _ k39)) (fun _ h9 => h9) rfl dX0_makeGap_13 ?_
  refine lv_iload_n hx hb dX0_makeGap_16 rfl (lv_at hl 2 rfl) ?_
  refine lv_isub hx hb dX0_makeGap_17 ?_
  refine tl_top (pk_sub (by omega)) ?_
  refine tl_copy hx hb (hml.trans hl.1.symm) hown (hts _ (List.mem_cons_of_mem _ k85)) (hts _ (List.mem_cons_of_mem _ k87)) (hts _ (List.mem_cons_of_mem _ k86)) (hts _ (List.mem_cons_of_mem _ k23)) hK hP hD hS 1 1 0 0 rfl rfl rfl rfl (by decide) (by decide) (by omega) (by omega) (Nat.le_of_ble_eq_true rfl) (Nat.le_of_ble_eq_true rfl) dX0_makeGap_18 (fun H locs hP hD hS => ?_)
  have hP : va_P (dC, dI) vwCl [(h0, .inr (0, [.ref q0, .ref q1, .int (nI n), .int (nI k)])), (q0, .inl (cA, 3000, .inl (va_cpy T T b (a + cz) (n - b)))), (q1, .inl (cB, 40, .inl G))] H := hP
  have hD : va_D A [(h0, .inr (0, [.ref q0, .ref q1, .int (nI n), .int (nI k)])), (q0, .inl (cA, 3000, .inl (va_cpy T T b (a + cz) (n - b)))), (q1, .inl (cB, 40, .inl G))] := hD
  refine lv_aload_n hx hb dX0_makeGap_21 rfl (lv_at hl 0 rfl) ?_
  refine lv_aload_n hx hb dX0_makeGap_22 rfl (lv_at hl 0 rfl) ?_
  refine va_get (D := (dC, dI)) (ci := 0) (v := .int (nI n)) (C := RX0) (T := TX0) (N := 4) hx hb hts hinX0 hown hK hP 0 rfl rfl 2 (by decide) (hts _ (List.mem_cons_of_mem _ k39)) (fun _ h9 => h9) rfl dX0_makeGap_23 ?_
  refine lv_iload_n hx hb dX0_makeGap_26 rfl (lv_at hl 2 rfl) ?_
  refine lv_iload_n hx hb dX0_makeGap_27 rfl (lv_at hl 1 rfl) ?_
  refine lv_isub hx hb dX0_makeGap_28 ?_
  refine tl_top (pk_sub (by omega)) ?_
  refine lv_isub hx hb dX0_makeGap_29 ?_
  refine tl_top (pk_sub (by omega)) ?_
  refine lv_iload_n hx hb dX0_makeGap_30 rfl (lv_at hl 3 rfl) ?_
  refine lv_iadd hx hb dX0_makeGap_31 ?_
  refine tl_top (nI_add _ _) ?_
  refine va_put (D := (dC, dI)) (ci := 0) (v := .int (nI ((n - (b - a)) + cz))) (ty := .int) (C := RX0) (T := TX0) (N := 4) hx hb hts hinX0 tyX0 tyX0_ok nmX0 hown hK hP hD hS 0 rfl rfl 2 (by decide) (hts _ (List.mem_cons_of_mem _ k39)) (fun _ h9 => h9) rfl (by decide +kernel) rfl rfl (Nat.le_of_ble_eq_true rfl) dX0_makeGap_32 (fun H locs hP hD hS => ?_)
  have hP : va_P (dC, dI) vwCl [(h0, .inr (0, [.ref q0, .ref q1, .int (nI ((n - (b - a)) + cz)), .int (nI k)])), (q0, .inl (cA, 3000, .inl (va_cpy T T b (a + cz) (n - b)))), (q1, .inl (cB, 40, .inl G))] H := hP
  have hD : va_D A [(h0, .inr (0, [.ref q0, .ref q1, .int (nI ((n - (b - a)) + cz)), .int (nI k)])), (q0, .inl (cA, 3000, .inl (va_cpy T T b (a + cz) (n - b)))), (q1, .inl (cB, 40, .inl G))] := hD
  subst hQ
  exact W.vret hx hb hr (fun t ht hW => ⟨⟨((n - (b - a)) + cz, va_cpy T T b (a + cz) (n - b), k, G), rfl, rfl, by rw [ht]; exact hP, va_K.moved hW.alike hK, hD⟩, hS.F ht⟩) hS.2.2 dX0_makeGap_35
