set_option maxHeartbeats 4000000 in
set_option maxRecDepth 100000 in
theorem c_M_isSign (l : Launch) (x : Int64) : Met l yX1_isSign wsX1_isSign ({ frames := 0, cells := 0, slots := 0, locals := 0 } : Room) (va_Pc [.long x] (fun _ => True)) (vp_Si (fun r : Int32 => (r = 1 ∧ (0 ≤ x.toInt ∧ x.toInt ≤ 65535 ∧ (x.toInt < 55296 ∨ 57343 < x.toInt))) ∨ (r = 0 ∧ ¬ (0 ≤ x.toInt ∧ x.toInt ≤ 65535 ∧ (x.toInt < 55296 ∨ 57343 < x.toInt))))) 0 0 (fun _ => False) := by
  refine Met.ofW (cc := cX1_isSign) (maxL := 2) (ret := (some .boolean)) (by decide) rfl ?_
  intro p e s m args below meth c s₁ B hml hv
  obtain ⟨rfl, -⟩ := hv
  have hx := B.exec
  have hb := B.bytes
  have hr := B.returns
  have hts := atoms_spec (ws := wsX1_isSign) B.pre
  have hown : s.vm.findClass RX1 = some m.cls := findClass_of_methodNamed B.named
  have hlocks := B.notSynchronized
  have hl := lv_entry ([.long x]) (n := 2) (Nat.le_of_ble_eq_true rfl)
  rw [lg_entry_eq]
  generalize (lg_sl ([.long x]) ++ List.replicate (2 - (lg_sl ([.long x])).length) Slot.unset).toArray = ls at hl ⊢
  have hl : lv_has ls 2 [(0, .long x)] := hl
  refine tl_q (fun Q hQ => ?_)
  refine lv_lload_n hx hb dX1_isSign_0 rfl (lv_at hl 0 rfl) ?_
  refine lv_lconst (v := (0 : Int64)) hx hb dX1_isSign_1 (by decide) ?_
  refine W.lcmp hx hb dX1_isSign_2 ?_
  refine lv_if_lt (tgt := 34) hx hb dX1_isSign_3 rfl (fun h3 => ?_) (fun h3 => ?_)
  · skip
    have h3 := (tl_llt (show x.toInt = x.toInt from rfl) (show ((0 : Int64)).toInt = (0 : Int) from (by decide))).mp h3
    refine lv_iconst (v := nI 0) hx hb dX1_isSign_34 (by decide) ?_
    subst hQ
    exact W.zret (v := nI 0) hx hb hr (by decide) (fun t ht hW => ⟨nI 0, rfl, (Or.inr ⟨by decide, by omega⟩), ht⟩) (fun q h => absurd h List.not_mem_nil) dX1_isSign_35
  · skip
    have h3 := (not_congr (tl_llt (show x.toInt = x.toInt from rfl) (show ((0 : Int64)).toInt = (0 : Int) from (by decide)))).mp h3
    refine lv_lload_n hx hb dX1_isSign_6 rfl (lv_at hl 0 rfl) ?_
    refine lv_ldc2 (v := (65535 : Int64)) hx hb hown (hts _ (List.mem_cons_of_mem _ k271)) dX1_isSign_7 ?_
    refine W.lcmp hx hb dX1_isSign_10 ?_
    refine lv_if_gt (tgt := 34) hx hb dX1_isSign_11 rfl (fun h11 => ?_) (fun h11 => ?_)
    · skip
      have h11 := (tl_lgt (show x.toInt = x.toInt from rfl) (show ((65535 : Int64)).toInt = (65535 : Int) from (by decide))).mp h11
      refine lv_iconst (v := nI 0) hx hb dX1_isSign_34 (by decide) ?_
      subst hQ
      exact W.zret (v := nI 0) hx hb hr (by decide) (fun t ht hW => ⟨nI 0, rfl, (Or.inr ⟨by decide, by omega⟩), ht⟩) (fun q h => absurd h List.not_mem_nil) dX1_isSign_35
    · skip
      have h11 := (not_congr (tl_lgt (show x.toInt = x.toInt from rfl) (show ((65535 : Int64)).toInt = (65535 : Int) from (by decide)))).mp h11
      refine lv_lload_n hx hb dX1_isSign_14 rfl (lv_at hl 0 rfl) ?_
      refine lv_ldc2 (v := (55296 : Int64)) hx hb hown (hts _ (List.mem_cons_of_mem _ k272)) dX1_isSign_15 ?_
      refine W.lcmp hx hb dX1_isSign_18 ?_
      refine lv_if_lt (tgt := 30) hx hb dX1_isSign_19 rfl (fun h19 => ?_) (fun h19 => ?_)
      · skip
        have h19 := (tl_llt (show x.toInt = x.toInt from rfl) (show ((55296 : Int64)).toInt = (55296 : Int) from (by decide))).mp h19
        refine lv_iconst (v := nI 1) hx hb dX1_isSign_30 (by decide) ?_
        refine lv_goto (tgt := 35) hx hb dX1_isSign_31 rfl ?_
        subst hQ
        exact W.zret (v := nI 1) hx hb hr (by decide) (fun t ht hW => ⟨nI 1, rfl, (Or.inl ⟨by decide, by omega⟩), ht⟩) (fun q h => absurd h List.not_mem_nil) dX1_isSign_35
      · skip
        have h19 := (not_congr (tl_llt (show x.toInt = x.toInt from rfl) (show ((55296 : Int64)).toInt = (55296 : Int) from (by decide)))).mp h19
        refine lv_lload_n hx hb dX1_isSign_22 rfl (lv_at hl 0 rfl) ?_
        refine lv_ldc2 (v := (57343 : Int64)) hx hb hown (hts _ (List.mem_cons_of_mem _ k273)) dX1_isSign_23 ?_
        refine W.lcmp hx hb dX1_isSign_26 ?_
        refine lv_if_le (tgt := 34) hx hb dX1_isSign_27 rfl (fun h27 => ?_) (fun h27 => ?_)
        · skip
          have h27 := (tl_lle (show x.toInt = x.toInt from rfl) (show ((57343 : Int64)).toInt = (57343 : Int) from (by decide))).mp h27
          refine lv_iconst (v := nI 0) hx hb dX1_isSign_34 (by decide) ?_
          subst hQ
          exact W.zret (v := nI 0) hx hb hr (by decide) (fun t ht hW => ⟨nI 0, rfl, (Or.inr ⟨by decide, by omega⟩), ht⟩) (fun q h => absurd h List.not_mem_nil) dX1_isSign_35
        · skip
          have h27 := (not_congr (tl_lle (show x.toInt = x.toInt from rfl) (show ((57343 : Int64)).toInt = (57343 : Int) from (by decide)))).mp h27
          refine lv_iconst (v := nI 1) hx hb dX1_isSign_30 (by decide) ?_
          refine lv_goto (tgt := 35) hx hb dX1_isSign_31 rfl ?_
          subst hQ
          exact W.zret (v := nI 1) hx hb hr (by decide) (fun t ht hW => ⟨nI 1, rfl, (Or.inl ⟨by decide, by omega⟩), ht⟩) (fun q h => absurd h List.not_mem_nil) dX1_isSign_35
set_option maxHeartbeats 4000000 in
set_option maxRecDepth 100000 in
theorem c_M_full (l : Launch) (dC : Nat → ClassId) (dI : Nat → Nat → Nat) (h0 q0 q1 q2 n k : Nat) (cA cB cC : ClassId) (T G T0 G0 : Nat → Int32) (hT : ∀ j, j < n → T j = T0 j) (hG : ∀ j, j < k → G j = G0 j) (hn : n ≤ 3000) (hk : k ≤ 40) (E : Nat → Int32) (d : Int32) (x : Int32) (hx1 : 0 ≤ x.toInt) (hx2 : x.toInt ≤ 3000) : Met l yX1_full wsX1_full ({ frames := 0, cells := 0, slots := 0, locals := 0 } : Room) (va_Pc [.ref h0, .int x] (fun U => va_P (dC, dI) vwCl [(h0, .inr (1, [.ref q0, .ref q1, .ref q2, .int (nI n), .int (nI k), .int d])), (q0, .inl (cA, 3000, .inl T)), (q1, .inl (cB, 40, .inl G)), (q2, .inl (cC, 20, .inl E))] U.heap ∧ va_K (dC, dI) vwCl [(cA, .int), (cB, .int), (cC, .int)] U)) (vp_Si (fun r : Int32 => (r = 1 ∧ (3000 < (n : Int) + x.toInt)) ∨ (r = 0 ∧ ¬ (3000 < (n : Int) + x.toInt)))) 0 0 (fun _ => False) := by
  refine Met.ofW (cc := cX1_full) (maxL := 2) (ret := (some .boolean)) (by decide) rfl ?_
  intro p e s m args below meth c s₁ B hml hv
  obtain ⟨rfl, hP, hK⟩ := hv
  have hx := B.exec
  have hb := B.bytes
  have hr := B.returns
  have hts := atoms_spec (ws := wsX1_full) B.pre
  have hown : s.vm.findClass RX1 = some m.cls := findClass_of_methodNamed B.named
  have hlocks := B.notSynchronized
  have hP : va_P (dC, dI) vwCl [(h0, .inr (1, [.ref q0, .ref q1, .ref q2, .int (nI n), .int (nI k), .int d])), (q0, .inl (cA, 3000, .inl T)), (q1, .inl (cB, 40, .inl G)), (q2, .inl (cC, 20, .inl E))] s.heap := hP
  have hinX1 : ∀ w ∈ u_ws RX1 TX1 6, w ∈ wsX1_full := fun w h => List.mem_cons_of_mem _ (inX1 w h)
  have hl := lv_entry ([.ref h0, .int x]) (n := 2) (Nat.le_of_ble_eq_true rfl)
  rw [lg_entry_eq]
  generalize (lg_sl ([.ref h0, .int x]) ++ List.replicate (2 - (lg_sl ([.ref h0, .int x])).length) Slot.unset).toArray = ls at hl ⊢
  have hl : lv_has ls 2 [(0, .ref h0), (1, .int x)] := hl
  refine tl_q (fun Q hQ => ?_)
  refine lv_aload_n hx hb dX1_full_0 rfl (lv_at hl 0 rfl) ?_
  refine va_get (D := (dC, dI)) (ci := 1) (v := .int (nI n)) (C := RX1) (T := TX1) (N := 6) hx hb hts hinX1 hown hK hP 0 rfl rfl 3 (by decide) (hts _ (List.mem_cons_of_mem _ k248)) (fun _ h9 => h9) rfl dX1_full_1 ?_
  refine lv_iload_n hx hb dX1_full_4 rfl (lv_at hl 1 rfl) ?_
  refine lv_iadd hx hb dX1_full_5 ?_
  have e5 : ((nI n) + x).toInt = ((n : Nat) : Int) + x.toInt := tl_addv (nI_toInt (by omega)) rfl (by omega) (by omega)
  refine lv_sipush (v := nI 3000) hx hb dX1_full_6 (by decide) ?_
  refine lv_icmp_le (tgt := 16) hx hb dX1_full_9 rfl (fun h9 => ?_) (fun h9 => ?_)
  · skip
    have h9 := (tl_le (show ((nI n) + x).toInt = (((n : Nat) : Int) + x.toInt) from e5) (show (nI 3000).toInt = (3000 : Int) from (by decide))).mp h9
    refine lv_iconst (v := nI 0) hx hb dX1_full_16 (by decide) ?_
    subst hQ
    exact W.zret (v := nI 0) hx hb hr (by decide) (fun t ht hW => ⟨nI 0, rfl, (Or.inr ⟨by decide, by omega⟩), ht⟩) (fun q h => absurd h List.not_mem_nil) dX1_full_17
  · skip
    have h9 := (not_congr (tl_le (show ((nI n) + x).toInt = (((n : Nat) : Int) + x.toInt) from e5) (show (nI 3000).toInt = (3000 : Int) from (by decide)))).mp h9
    refine lv_iconst (v := nI 1) hx hb dX1_full_12 (by decide) ?_
    refine lv_goto (tgt := 17) hx hb dX1_full_13 rfl ?_
    subst hQ
    exact W.zret (v := nI 1) hx hb hr (by decide) (fun t ht hW => ⟨nI 1, rfl, (Or.inl ⟨by decide, by omega⟩), ht⟩) (fun q h => absurd h List.not_mem_nil) dX1_full_17
set_option maxHeartbeats 4000000 in
set_option maxRecDepth 100000 in
theorem c_M_digits (l : Launch) (dC : Nat → ClassId) (dI : Nat → Nat → Nat) (h0 q0 q1 q2 sz n k : Nat) (cA cB cC : ClassId) (T G T0 G0 : Nat → Int32) (hT : ∀ j, j < n → T j = T0 j) (hG : ∀ j, j < k → G j = G0 j) (hn : n ≤ 3000) (hk : k ≤ 40) (E : Nat → Int32) (d : Int32) (x : Int64) : Met l yX1_digits wsX1_digits ({ frames := 0, cells := 0, slots := 0, locals := 0 } : Room) (va_Pc [.ref h0, .long x] (fun U => U.heap.size = sz ∧ va_P (dC, dI) vwCl [(h0, .inr (1, [.ref q0, .ref q1, .ref q2, .int (nI n), .int (nI k), .int d])), (q0, .inl (cA, 3000, .inl T)), (q1, .inl (cB, 40, .inl G)), (q2, .inl (cC, 20, .inl E))] U.heap ∧ va_K (dC, dI) vwCl [(cA, .int), (cB, .int), (cC, .int)] U ∧ va_D (fun _ => True) [(h0, .inr (1, [.ref q0, .ref q1, .ref q2, .int (nI n), .int (nI k), .int d])), (q0, .inl (cA, 3000, .inl T)), (q1, .inl (cB, 40, .inl G)), (q2, .inl (cC, 20, .inl E))])) (va_Qv (fun (u : tM) => u.1 = (n, T, k, G) ∧ u.2.2 = nI (dg_m x) ∧ ∀ i, i < dg_m x → u.2.1 i = dg_w x (dg_m x - 1 - i)) (at_M dC dI (va_A [(h0, .inr (1, [.ref q0, .ref q1, .ref q2, .int (nI n), .int (nI k), .int d])), (q0, .inl (cA, 3000, .inl T)), (q1, .inl (cB, 40, .inl G)), (q2, .inl (cC, 20, .inl E))] sz) h0 q0 q1 q2 cA cB cC) (va_A [(h0, .inr (1, [.ref q0, .ref q1, .ref q2, .int (nI n), .int (nI k), .int d])), (q0, .inl (cA, 3000, .inl T)), (q1, .inl (cB, 40, .inl G)), (q2, .inl (cC, 20, .inl E))] sz)) 0 0 (va_A [(h0, .inr (1, [.ref q0, .ref q1, .ref q2, .int (nI n), .int (nI k), .int d])), (q0, .inl (cA, 3000, .inl T)), (q1, .inl (cB, 40, .inl G)), (q2, .inl (cC, 20, .inl E))] sz) := by
  refine Met.ofW (cc := cX1_digits) (maxL := 6) (ret := none) (by decide) rfl ?_
  intro p e s m args below meth c s₁ B hml hv
  obtain ⟨rfl, hsz, hP, hK, hD0⟩ := hv
  have hx := B.exec
  have hb := B.bytes
  have hr := B.returns
  have hts := atoms_spec (ws := wsX1_digits) B.pre
  have hown : s.vm.findClass RX1 = some m.cls := findClass_of_methodNamed B.named
  have hlocks := B.notSynchronized
  subst hsz
  have hD := hD0.self (sz := s.heap.size)
  generalize hAe : va_A [(h0, .inr (1, [.ref q0, .ref q1, .ref q2, .int (nI n), .int (nI k), .int d])), (q0, .inl (cA, 3000, .inl T)), (q1, .inl (cB, 40, .inl G)), (q2, .inl (cC, 20, .inl E))] s.heap.size = A at hD ⊢
  have hA : ∀ q : Nat, s.heap.size ≤ q → A q := fun q h => by rw [← hAe]; exact Or.inr h
  have hS : va_S A s.heap s.heap [] := va_S.rf
  have hP : va_P (dC, dI) vwCl [(h0, .inr (1, [.ref q0, .ref q1, .ref q2, .int (nI n), .int (nI k), .int d])), (q0, .inl (cA, 3000, .inl T)), (q1, .inl (cB, 40, .inl G)), (q2, .inl (cC, 20, .inl E))] s.heap := hP
  have hinX1 : ∀ w ∈ u_ws RX1 TX1 6, w ∈ wsX1_digits := fun w h => List.mem_cons_of_mem _ (inX1 w h)
  have hl := lv_entry ([.ref h0, .long x]) (n := 6) (Nat.le_of_ble_eq_true rfl)
  rw [lg_entry_eq]
  generalize (lg_sl ([.ref h0, .long x]) ++ List.replicate (6 - (lg_sl ([.ref h0, .long x])).length) Slot.unset).toArray = ls at hl ⊢
  have hl : lv_has ls 6 [(0, .ref h0), (1, .long x)] := hl
  refine tl_q (fun Q hQ => ?_)
  refine lv_aload_n hx hb dX1_digits_0 rfl (lv_at hl 0 rfl) ?_
  refine lv_iconst (v := nI 0) hx hb dX1_digits_1 (by decide) ?_
  refine va_put (D := (dC, dI)) (ci := 1) (v := .int (nI 0)) (ty := .int) (C := RX1) (T := TX1) (N := 6) hx hb hts hinX1 tyX1 tyX1_ok nmX1 hown hK hP hD hS 0 rfl rfl 5 (by decide) (hts _ (List.mem_cons_of_mem _ k250)) (fun _ h9 => h9) rfl (by decide +kernel) rfl rfl (Nat.le_of_ble_eq_true rfl) dX1_digits_2 (fun H locs hP hD hS => ?_)
  have hP : va_P (dC, dI) vwCl [(h0, .inr (1, [.ref q0, .ref q1, .ref q2, .int (nI n), .int (nI k), .int (nI 0)])), (q0, .inl (cA, 3000, .inl T)), (q1, .inl (cB, 40, .inl G)), (q2, .inl (cC, 20, .inl E))] H := hP
  have hD : va_D A [(h0, .inr (1, [.ref q0, .ref q1, .ref q2, .int (nI n), .int (nI k), .int (nI 0)])), (q0, .inl (cA, 3000, .inl T)), (q1, .inl (cB, 40, .inl G)), (q2, .inl (cC, 20, .inl E))] := hD
  refine lv_lload_n hx hb dX1_digits_5 rfl (lv_at hl 1 rfl) ?_
  refine lv_lstore_n (lv' := [(3, .long x), (0, .ref h0), (1, .long x)]) hx hb dX1_digits_6 rfl hl (by decide) rfl (fun ls hl => ?_)
  have LP7 : ∀ (fu : Nat) (cn : Nat) (y : Int64) (F : Nat → Int32) (H : Heap) (locs : List Loc) (ls : Array Slot), 19 - cn < fu → cn ≤ 18 → y.toInt.natAbs = x.toInt.natAbs / 10 ^ cn → cn = 0 ∨ 10 ^ cn ≤ x.toInt.natAbs → (∀ i, i < cn → F i = nI (48 + x.toInt.natAbs / 10 ^ i % 10)) → lv_has ls 6 [(0, .ref h0), (1, .long x), (3, .long y)] → va_P (dC, dI) vwCl [(h0, .inr (1, [.ref q0, .ref q1, .ref q2, .int (nI n), .int (nI k), .int (nI cn)])), (q0, .inl (cA, 3000, .inl T)), (q1, .inl (cB, 40, .inl G)), (q2, .inl (cC, 20, .inl F))] H → va_D A [(h0, .inr (1, [.ref q0, .ref q1, .ref q2, .int (nI n), .int (nI k), .int (nI cn)])), (q0, .inl (cA, 3000, .inl T)), (q1, .inl (cB, 40, .inl G)), (q2, .inl (cC, 20, .inl F))] → va_S A s.heap H locs → W p l e (headSpec wsX1_digits ({ frames := 0, cells := 0, slots := 0, locals := 0 } : Room)).room s m ([.ref h0, .long x] : List Value).toArray below meth c H locs 0 0 Q (F0 m 7 ls []) := by
    intro fu
    induction fu with
    | zero => intro cn y F H locs ls hfu; exact absurd hfu (Nat.not_lt_zero _)
    | succ fu ih =>
      intro cn y F H locs ls hfu hc hy hc2 hF hl hP hD hS
      refine lv_lload_n hx hb dX1_digits_7 rfl (lv_at hl 2 rfl) ?_
      refine lv_ldc2 (v := (10 : Int64)) hx hb hown (hts _ (List.mem_cons_of_mem _ k294)) dX1_digits_8 ?_
      refine lv_lrem hx hb dX1_digits_11 (by decide) ?_
      refine lv_l2i hx hb dX1_digits_12 rfl ?_
      refine lv_istore (lv' := [(5, .int ((y - y / ((10 : Int64)) * ((10 : Int64))).toInt32)), (0, .ref h0), (1, .long x), (3, .long y)]) hx hb dX1_digits_13 hl (by decide) rfl (fun ls hl => ?_)
      refine lv_aload_n hx hb dX1_digits_15 rfl (lv_at hl 1 rfl) ?_
      refine va_get (D := (dC, dI)) (ci := 1) (v := .ref q2) (C := RX1) (T := TX1) (N := 6) hx hb hts hinX1 hown hK hP 0 rfl rfl 2 (by decide) (hts _ (List.mem_cons_of_mem _ k247)) (fun _ h9 => h9) rfl dX1_digits_16 ?_
      refine lv_aload_n hx hb dX1_digits_19 rfl (lv_at hl 1 rfl) ?_
      refine lv_dup hx hb dX1_digits_20 rfl ?_
      refine va_get (D := (dC, dI)) (ci := 1) (v := .int (nI cn)) (C := RX1) (T := TX1) (N := 6) hx hb hts hinX1 hown hK hP 0 rfl rfl 5 (by decide) (hts _ (List.mem_cons_of_mem _ k250)) (fun _ h9 => h9) rfl dX1_digits_21 ?_
      refine lv_dup_x1 hx hb dX1_digits_24 rfl rfl ?_
      refine lv_iconst (v := nI 1) hx hb dX1_digits_25 (by decide) ?_
      refine lv_iadd hx hb dX1_digits_26 ?_
      refine tl_top (nI_add _ _) ?_
      refine va_put (D := (dC, dI)) (ci := 1) (v := .int (nI (cn + 1))) (ty := .int) (C := RX1) (T := TX1) (N := 6) hx hb hts hinX1 tyX1 tyX1_ok nmX1 hown hK hP hD hS 0 rfl rfl 5 (by decide) (hts _ (List.mem_cons_of_mem _ k250)) (fun _ h9 => h9) rfl (by decide +kernel) rfl rfl (Nat.le_of_ble_eq_true rfl) dX1_digits_27 (fun H locs hP hD hS => ?_)
      have hP : va_P (dC, dI) vwCl [(h0, .inr (1, [.ref q0, .ref q1, .ref q2, .int (nI n), .int (nI k), .int (nI (cn + 1))])), (q0, .inl (cA, 3000, .inl T)), (q1, .inl (cB, 40, .inl G)), (q2, .inl (cC, 20, .inl F))] H := hP
      have hD : va_D A [(h0, .inr (1, [.ref q0, .ref q1, .ref q2, .int (nI n), .int (nI k), .int (nI (cn + 1))])), (q0, .inl (cA, 3000, .inl T)), (q1, .inl (cB, 40, .inl G)), (q2, .inl (cC, 20, .inl F))] := hD
      refine lv_bipush (v := nI 48) hx hb dX1_digits_30 (by decide) ?_
      refine lv_iload hx hb dX1_digits_32 (lv_at hl 0 rfl) ?_
      refine lv_if_ge (tgt := 43) hx hb dX1_digits_34 rfl (fun h34 => ?_) (fun h34 => ?_)
      · skip
        have h34 := (tl_le (show (0 : Int32).toInt = (0 : Int) from Int32.toInt_zero) (show ((y - y / ((10 : Int64)) * ((10 : Int64))).toInt32).toInt = ((y - y / ((10 : Int64)) * ((10 : Int64))).toInt32).toInt from rfl)).mp h34
        refine lv_iload hx hb dX1_digits_43 (lv_at hl 0 rfl) ?_
        refine tl_top (y := nI (x.toInt.natAbs / 10 ^ cn % 10)) (by have q := dg_dig2 hy; rw [if_neg (by omega)] at q; exact q) ?_
        refine lv_iadd hx hb dX1_digits_45 ?_
        refine tl_top (nI_add _ _) ?_
        refine tl_iast hx hb hK hP hD hS 3 2 rfl rfl (by omega) (by decide) dX1_digits_46 (fun H locs hP hD hS => ?_)
        have hP : va_P (dC, dI) vwCl [(h0, .inr (1, [.ref q0, .ref q1, .ref q2, .int (nI n), .int (nI k), .int (nI (cn + 1))])), (q0, .inl (cA, 3000, .inl T)), (q1, .inl (cB, 40, .inl G)), (q2, .inl (cC, 20, .inl (upd F cn (nI (48 + (x.toInt.natAbs / 10 ^ cn % 10))))))] H := hP
        have hD : va_D A [(h0, .inr (1, [.ref q0, .ref q1, .ref q2, .int (nI n), .int (nI k), .int (nI (cn + 1))])), (q0, .inl (cA, 3000, .inl T)), (q1, .inl (cB, 40, .inl G)), (q2, .inl (cC, 20, .inl (upd F cn (nI (48 + (x.toInt.natAbs / 10 ^ cn % 10))))))] := hD
        refine lv_lload_n hx hb dX1_digits_47 rfl (lv_at hl 3 rfl) ?_
        refine lv_ldc2 (v := (10 : Int64)) hx hb hown (hts _ (List.mem_cons_of_mem _ k294)) dX1_digits_48 ?_
        refine lv_ldiv hx hb dX1_digits_51 (by decide) ?_
        refine lv_lstore_n (lv' := [(3, .long (y / ((10 : Int64)))), (5, .int ((y - y / ((10 : Int64)) * ((10 : Int64))).toInt32)), (0, .ref h0), (1, .long x)]) hx hb dX1_digits_52 rfl hl (by decide) rfl (fun ls hl => ?_)
        have hy5 : (y / (10 : Int64)).toInt.natAbs = x.toInt.natAbs / 10 ^ (cn + 1) := by rw [dg_div, hy, Nat.div_div_eq_div_mul, Nat.pow_succ]
        refine lv_lload_n hx hb dX1_digits_53 rfl (lv_at hl 0 rfl) ?_
        refine lv_lconst (v := (0 : Int64)) hx hb dX1_digits_54 (by decide) ?_
        refine W.lcmp hx hb dX1_digits_55 ?_
        refine lv_if_ne (tgt := 7) hx hb dX1_digits_56 rfl (fun h56 => ?_) (fun h56 => ?_)
        · skip
          have h56 := (not_congr (tl_leq (show (y / ((10 : Int64))).toInt = (y / ((10 : Int64))).toInt from rfl) (show ((0 : Int64)).toInt = (0 : Int) from (by decide)))).mp h56
          exact ih (cn + 1) (y / (10 : Int64)) (upd F cn (nI (48 + (x.toInt.natAbs / 10 ^ cn % 10)))) _ _ ls (by omega) (by exact dg_cap (x := x) (dg_more2 hy5 (by omega))) (hy5) (Or.inr (dg_more2 hy5 (by omega))) (pm_dgF hF) (lv_sub hl [2, 3, 0] rfl) hP hD hS
        · skip
          have h56 := (tl_leq (show (y / ((10 : Int64))).toInt = (y / ((10 : Int64))).toInt from rfl) (show ((0 : Int64)).toInt = (0 : Int) from (by decide))).mp h56
          have hcc : dg_c x.toInt.natAbs = cn + 1 := dg_c_uni (by omega) (by omega) (dg_less hy5 (by omega)) (by rcases hc2 with q | q; exact Or.inl (by omega); exact Or.inr q)
          refine lv_lload_n hx hb dX1_digits_59 rfl (lv_at hl 3 rfl) ?_
          refine lv_lconst (v := (0 : Int64)) hx hb dX1_digits_60 (by decide) ?_
          refine W.lcmp hx hb dX1_digits_61 ?_
          refine lv_if_ge (tgt := 83) hx hb dX1_digits_62 rfl (fun h62 => ?_) (fun h62 => ?_)
          · skip
            have h62 := (tl_lge (show x.toInt = x.toInt from rfl) (show ((0 : Int64)).toInt = (0 : Int) from (by decide))).mp h62
            subst hQ
            exact W.vret hx hb hr (fun t ht hW => ⟨⟨((n, T, k, G), upd F cn (nI (48 + (x.toInt.natAbs / 10 ^ cn % 10))), nI (cn + 1)), rfl, ⟨rfl, pm_dg_np h62 hcc, pm_dg_wp h62 hcc (pm_dgF hF)⟩, by rw [ht]; exact hP, va_K.moved hW.alike hK, hD⟩, hS.F ht⟩) hS.2.2 dX1_digits_83
          · skip
            have h62 := (not_congr (tl_lge (show x.toInt = x.toInt from rfl) (show ((0 : Int64)).toInt = (0 : Int) from (by decide)))).mp h62
            refine lv_aload_n hx hb dX1_digits_65 rfl (lv_at hl 2 rfl) ?_
            refine va_get (D := (dC, dI)) (ci := 1) (v := .ref q2) (C := RX1) (T := TX1) (N := 6) hx hb hts hinX1 hown hK hP 0 rfl rfl 2 (by decide) (hts _ (List.mem_cons_of_mem _ k247)) (fun _ h9 => h9) rfl dX1_digits_66 ?_
            refine lv_aload_n hx hb dX1_digits_69 rfl (lv_at hl 2 rfl) ?_
            refine lv_dup hx hb dX1_digits_70 rfl ?_
            refine va_get (D := (dC, dI)) (ci := 1) (v := .int (nI (cn + 1))) (C := RX1) (T := TX1) (N := 6) hx hb hts hinX1 hown hK hP 0 rfl rfl 5 (by decide) (hts _ (List.mem_cons_of_mem _ k250)) (fun _ h9 => h9) rfl dX1_digits_71 ?_
            refine lv_dup_x1 hx hb dX1_digits_74 rfl rfl ?_
            refine lv_iconst (v := nI 1) hx hb dX1_digits_75 (by decide) ?_
            refine lv_iadd hx hb dX1_digits_76 ?_
            refine tl_top (nI_add _ _) ?_
            refine va_put (D := (dC, dI)) (ci := 1) (v := .int (nI (cn + 1 + 1))) (ty := .int) (C := RX1) (T := TX1) (N := 6) hx hb hts hinX1 tyX1 tyX1_ok nmX1 hown hK hP hD hS 0 rfl rfl 5 (by decide) (hts _ (List.mem_cons_of_mem _ k250)) (fun _ h9 => h9) rfl (by decide +kernel) rfl rfl (Nat.le_of_ble_eq_true rfl) dX1_digits_77 (fun H locs hP hD hS => ?_)
            have hP : va_P (dC, dI) vwCl [(h0, .inr (1, [.ref q0, .ref q1, .ref q2, .int (nI n), .int (nI k), .int (nI (cn + 1 + 1))])), (q0, .inl (cA, 3000, .inl T)), (q1, .inl (cB, 40, .inl G)), (q2, .inl (cC, 20, .inl (upd F cn (nI (48 + (x.toInt.natAbs / 10 ^ cn % 10))))))] H := hP
            have hD : va_D A [(h0, .inr (1, [.ref q0, .ref q1, .ref q2, .int (nI n), .int (nI k), .int (nI (cn + 1 + 1))])), (q0, .inl (cA, 3000, .inl T)), (q1, .inl (cB, 40, .inl G)), (q2, .inl (cC, 20, .inl (upd F cn (nI (48 + (x.toInt.natAbs / 10 ^ cn % 10))))))] := hD
            refine lv_bipush (v := nI 45) hx hb dX1_digits_80 (by decide) ?_
            refine tl_iast hx hb hK hP hD hS 3 2 rfl rfl (by omega) (by decide) dX1_digits_82 (fun H locs hP hD hS => ?_)
            have hP : va_P (dC, dI) vwCl [(h0, .inr (1, [.ref q0, .ref q1, .ref q2, .int (nI n), .int (nI k), .int (nI (cn + 1 + 1))])), (q0, .inl (cA, 3000, .inl T)), (q1, .inl (cB, 40, .inl G)), (q2, .inl (cC, 20, .inl (upd (upd F cn (nI (48 + (x.toInt.natAbs / 10 ^ cn % 10)))) (cn + 1) (nI 45))))] H := hP
            have hD : va_D A [(h0, .inr (1, [.ref q0, .ref q1, .ref q2, .int (nI n), .int (nI k), .int (nI (cn + 1 + 1))])), (q0, .inl (cA, 3000, .inl T)), (q1, .inl (cB, 40, .inl G)), (q2, .inl (cC, 20, .inl (upd (upd F cn (nI (48 + (x.toInt.natAbs / 10 ^ cn % 10)))) (cn + 1) (nI 45))))] := hD
            subst hQ
            exact W.vret hx hb hr (fun t ht hW => ⟨⟨((n, T, k, G), upd (upd F cn (nI (48 + (x.toInt.natAbs / 10 ^ cn % 10)))) (cn + 1) (nI 45), nI (cn + 1 + 1)), rfl, ⟨rfl, pm_dg_nn h62 hcc, pm_dg_wn h62 hcc (pm_dgF hF)⟩, by rw [ht]; exact hP, va_K.moved hW.alike hK, hD⟩, hS.F ht⟩) hS.2.2 dX1_digits_83
      · skip
        have h34 := (not_congr (tl_le (show (0 : Int32).toInt = (0 : Int) from Int32.toInt_zero) (show ((y - y / ((10 : Int64)) * ((10 : Int64))).toInt32).toInt = ((y - y / ((10 : Int64)) * ((10 : Int64))).toInt32).toInt from rfl))).mp h34
        refine lv_iload hx hb dX1_digits_37 (lv_at hl 0 rfl) ?_
        refine lv_ineg hx hb dX1_digits_39 ?_
        refine tl_top (y := nI (x.toInt.natAbs / 10 ^ cn % 10)) (by have q := dg_dig2 hy; rw [if_pos (by omega)] at q; exact q) ?_
        refine lv_goto (tgt := 45) hx hb dX1_digits_40 rfl ?_
        refine lv_iadd hx hb dX1_digits_45 ?_
        refine tl_top (nI_add _ _) ?_
        refine tl_iast hx hb hK hP hD hS 3 2 rfl rfl (by omega) (by decide) dX1_digits_46 (fun H locs hP hD hS => ?_)
        have hP : va_P (dC, dI) vwCl [(h0, .inr (1, [.ref q0, .ref q1, .ref q2, .int (nI n), .int (nI k), .int (nI (cn + 1))])), (q0, .inl (cA, 3000, .inl T)), (q1, .inl (cB, 40, .inl G)), (q2, .inl (cC, 20, .inl (upd F cn (nI (48 + (x.toInt.natAbs / 10 ^ cn % 10))))))] H := hP
        have hD : va_D A [(h0, .inr (1, [.ref q0, .ref q1, .ref q2, .int (nI n), .int (nI k), .int (nI (cn + 1))])), (q0, .inl (cA, 3000, .inl T)), (q1, .inl (cB, 40, .inl G)), (q2, .inl (cC, 20, .inl (upd F cn (nI (48 + (x.toInt.natAbs / 10 ^ cn % 10))))))] := hD
        refine lv_lload_n hx hb dX1_digits_47 rfl (lv_at hl 3 rfl) ?_
        refine lv_ldc2 (v := (10 : Int64)) hx hb hown (hts _ (List.mem_cons_of_mem _ k294)) dX1_digits_48 ?_
        refine lv_ldiv hx hb dX1_digits_51 (by decide) ?_
        refine lv_lstore_n (lv' := [(3, .long (y / ((10 : Int64)))), (5, .int ((y - y / ((10 : Int64)) * ((10 : Int64))).toInt32)), (0, .ref h0), (1, .long x)]) hx hb dX1_digits_52 rfl hl (by decide) rfl (fun ls hl => ?_)
        have hy5 : (y / (10 : Int64)).toInt.natAbs = x.toInt.natAbs / 10 ^ (cn + 1) := by rw [dg_div, hy, Nat.div_div_eq_div_mul, Nat.pow_succ]
        refine lv_lload_n hx hb dX1_digits_53 rfl (lv_at hl 0 rfl) ?_
        refine lv_lconst (v := (0 : Int64)) hx hb dX1_digits_54 (by decide) ?_
        refine W.lcmp hx hb dX1_digits_55 ?_
        refine lv_if_ne (tgt := 7) hx hb dX1_digits_56 rfl (fun h56 => ?_) (fun h56 => ?_)
        · skip
          have h56 := (not_congr (tl_leq (show (y / ((10 : Int64))).toInt = (y / ((10 : Int64))).toInt from rfl) (show ((0 : Int64)).toInt = (0 : Int) from (by decide)))).mp h56
          exact ih (cn + 1) (y / (10 : Int64)) (upd F cn (nI (48 + (x.toInt.natAbs / 10 ^ cn % 10)))) _ _ ls (by omega) (by exact dg_cap (x := x) (dg_more2 hy5 (by omega))) (hy5) (Or.inr (dg_more2 hy5 (by omega))) (pm_dgF hF) (lv_sub hl [2, 3, 0] rfl) hP hD hS
        · skip
          have h56 := (tl_leq (show (y / ((10 : Int64))).toInt = (y / ((10 : Int64))).toInt from rfl) (show ((0 : Int64)).toInt = (0 : Int) from (by decide))).mp h56
          have hcc : dg_c x.toInt.natAbs = cn + 1 := dg_c_uni (by omega) (by omega) (dg_less hy5 (by omega)) (by rcases hc2 with q | q; exact Or.inl (by omega); exact Or.inr q)
          refine lv_lload_n hx hb dX1_digits_59 rfl (lv_at hl 3 rfl) ?_
          refine lv_lconst (v := (0 : Int64)) hx hb dX1_digits_60 (by decide) ?_
          refine W.lcmp hx hb dX1_digits_61 ?_
          refine lv_if_ge (tgt := 83) hx hb dX1_digits_62 rfl (fun h62 => ?_) (fun h62 => ?_)
          · skip
            have h62 := (tl_lge (show x.toInt = x.toInt from rfl) (show ((0 : Int64)).toInt = (0 : Int) from (by decide))).mp h62
            subst hQ
            exact W.vret hx hb hr (fun t ht hW => ⟨⟨((n, T, k, G), upd F cn (nI (48 + (x.toInt.natAbs / 10 ^ cn % 10))), nI (cn + 1)), rfl, ⟨rfl, pm_dg_np h62 hcc, pm_dg_wp h62 hcc (pm_dgF hF)⟩, by rw [ht]; exact hP, va_K.moved hW.alike hK, hD⟩, hS.F ht⟩) hS.2.2 dX1_digits_83
          · skip
            have h62 := (not_congr (tl_lge (show x.toInt = x.toInt from rfl) (show ((0 : Int64)).toInt = (0 : Int) from (by decide)))).mp h62
            refine lv_aload_n hx hb dX1_digits_65 rfl (lv_at hl 2 rfl) ?_
            refine va_get (D := (dC, dI)) (ci := 1) (v := .ref q2) (C := RX1) (T := TX1) (N := 6) hx hb hts hinX1 hown hK hP 0 rfl rfl 2 (by decide) (hts _ (List.mem_cons_of_mem _ k247)) (fun _ h9 => h9) rfl dX1_digits_66 ?_
            refine lv_aload_n hx hb dX1_digits_69 rfl (lv_at hl 2 rfl) ?_
            refine lv_dup hx hb dX1_digits_70 rfl ?_
            refine va_get (D := (dC, dI)) (ci := 1) (v := .int (nI (cn + 1))) (C := RX1) (T := TX1) (N := 6) hx hb hts hinX1 hown hK hP 0 rfl rfl 5 (by decide) (hts _ (List.mem_cons_of_mem _ k250)) (fun _ h9 => h9) rfl dX1_digits_71 ?_
            refine lv_dup_x1 hx hb dX1_digits_74 rfl rfl ?_
            refine lv_iconst (v := nI 1) hx hb dX1_digits_75 (by decide) ?_
            refine lv_iadd hx hb dX1_digits_76 ?_
            refine tl_top (nI_add _ _) ?_
            refine va_put (D := (dC, dI)) (ci := 1) (v := .int (nI (cn + 1 + 1))) (ty := .int) (C := RX1) (T := TX1) (N := 6) hx hb hts hinX1 tyX1 tyX1_ok nmX1 hown hK hP hD hS 0 rfl rfl 5 (by decide) (hts _ (List.mem_cons_of_mem _ k250)) (fun _ h9 => h9) rfl (by decide +kernel) rfl rfl (Nat.le_of_ble_eq_true rfl) dX1_digits_77 (fun H locs hP hD hS => ?_)
            have hP : va_P (dC, dI) vwCl [(h0, .inr (1, [.ref q0, .ref q1, .ref q2, .int (nI n), .int (nI k), .int (nI (cn + 1 + 1))])), (q0, .inl (cA, 3000, .inl T)), (q1, .inl (cB, 40, .inl G)), (q2, .inl (cC, 20, .inl (upd F cn (nI (48 + (x.toInt.natAbs / 10 ^ cn % 10))))))] H := hP
            have hD : va_D A [(h0, .inr (1, [.ref q0, .ref q1, .ref q2, .int (nI n), .int (nI k), .int (nI (cn + 1 + 1))])), (q0, .inl (cA, 3000, .inl T)), (q1, .inl (cB, 40, .inl G)), (q2, .inl (cC, 20, .inl (upd F cn (nI (48 + (x.toInt.natAbs / 10 ^ cn % 10))))))] := hD
            refine lv_bipush (v := nI 45) hx hb dX1_digits_80 (by decide) ?_
            refine tl_iast hx hb hK hP hD hS 3 2 rfl rfl (by omega) (by decide) dX1_digits_82 (fun H locs hP hD hS => ?_)
            have hP : va_P (dC, dI) vwCl [(h0, .inr (1, [.ref q0, .ref q1, .ref q2, .int (nI n), .int (nI k), .int (nI (cn + 1 + 1))])), (q0, .inl (cA, 3000, .inl T)), (q1, .inl (cB, 40, .inl G)), (q2, .inl (cC, 20, .inl (upd (upd F cn (nI (48 + (x.toInt.natAbs / 10 ^ cn % 10)))) (cn + 1) (nI 45))))] H := hP
            have hD : va_D A [(h0, .inr (1, [.ref q0, .ref q1, .ref q2, .int (nI n), .int (nI k), .int (nI (cn + 1 + 1))])), (q0, .inl (cA, 3000, .inl T)), (q1, .inl (cB, 40, .inl G)), (q2, .inl (cC, 20, .inl (upd (upd F cn (nI (48 + (x.toInt.natAbs / 10 ^ cn % 10)))) (cn + 1) (nI 45))))] := hD
            subst hQ
            exact W.vret hx hb hr (fun t ht hW => ⟨⟨((n, T, k, G), upd (upd F cn (nI (48 + (x.toInt.natAbs / 10 ^ cn % 10)))) (cn + 1) (nI 45), nI (cn + 1 + 1)), rfl, ⟨rfl, pm_dg_nn h62 hcc, pm_dg_wn h62 hcc (pm_dgF hF)⟩, by rw [ht]; exact hP, va_K.moved hW.alike hK, hD⟩, hS.F ht⟩) hS.2.2 dX1_digits_83
  exact LP7 _ 0 x E _ _ ls (Nat.lt_succ_self _) (by omega) (by rw [Nat.pow_zero, Nat.div_one]) (by exact Or.inl rfl) (by intro i hi; omega) (lv_sub hl [1, 2, 0] rfl) hP hD hS
