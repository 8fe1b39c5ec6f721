set_option maxHeartbeats 4000000 in
set_option maxRecDepth 100000 in
theorem c_M_open (l : Launch) (dC : Nat → ClassId) (dI : Nat → Nat → Nat) (h0 q0 q1 q2 sz n k : Nat) (cA cB cC : ClassId) (T G T0 G0 : Nat → Int32) (hT : ∀ j, j < n → T j = T0 j) (hG : ∀ j, j < k → G j = G0 j) (hn : n ≤ 3000) (hk : k ≤ 40) (E : Nat → Int32) (d : Int32) (a mm : Nat) (han : a ≤ n) (hnm : n + mm ≤ 3000) : Met l yX1_open wsX1_open ({ frames := 0, cells := 0, slots := 0, locals := 0 } : Room) (va_Pc [.ref h0, .int (nI a), .int (nI mm)] (fun U => U.heap.size = sz ∧ va_P (dC, dI) vwCl [(h0, .inr (1, [.ref q0, .ref q1, .ref q2, .int (nI n), .int (nI k), .int d])), (q0, .inl (cA, 3000, .inl T)), (q1, .inl (cB, 40, .inl G)), (q2, .inl (cC, 20, .inl E))] U.heap ∧ va_K (dC, dI) vwCl [(cA, .int), (cB, .int), (cC, .int)] U ∧ va_D (fun _ => True) [(h0, .inr (1, [.ref q0, .ref q1, .ref q2, .int (nI n), .int (nI k), .int d])), (q0, .inl (cA, 3000, .inl T)), (q1, .inl (cB, 40, .inl G)), (q2, .inl (cC, 20, .inl E))])) (va_Qv (fun (u : tM) => ∃ F : Nat → Int32, u = ((n + mm, F, k, G), E, d) ∧ (∀ i, i < a → F i = T i) ∧ ∀ i, a ≤ i → i < n → F (i + mm) = T i) (at_M dC dI (va_A [(h0, .inr (1, [.ref q0, .ref q1, .ref q2, .int (nI n), .int (nI k), .int d])), (q0, .inl (cA, 3000, .inl T)), (q1, .inl (cB, 40, .inl G)), (q2, .inl (cC, 20, .inl E))] sz) h0 q0 q1 q2 cA cB cC) (va_A [(h0, .inr (1, [.ref q0, .ref q1, .ref q2, .int (nI n), .int (nI k), .int d])), (q0, .inl (cA, 3000, .inl T)), (q1, .inl (cB, 40, .inl G)), (q2, .inl (cC, 20, .inl E))] sz)) 0 0 (va_A [(h0, .inr (1, [.ref q0, .ref q1, .ref q2, .int (nI n), .int (nI k), .int d])), (q0, .inl (cA, 3000, .inl T)), (q1, .inl (cB, 40, .inl G)), (q2, .inl (cC, 20, .inl E))] sz) := by
  refine Met.ofW (cc := cX1_open) (maxL := 4) (ret := none) (by decide) rfl ?_
  intro p e s m args below meth c s₁ B hml hv
  obtain ⟨rfl, hsz, hP, hK, hD0⟩ := hv
  have hx := B.exec
  have hb := B.bytes
  have hr := B.returns
  have hts := atoms_spec (ws := wsX1_open) B.pre
  have hown : s.vm.findClass RX1 = some m.cls := findClass_of_methodNamed B.named
  have hlocks := B.notSynchronized
  subst hsz
  have hD := hD0.self (sz := s.heap.size)
  generalize hAe : va_A [(h0, .inr (1, [.ref q0, .ref q1, .ref q2, .int (nI n), .int (nI k), .int d])), (q0, .inl (cA, 3000, .inl T)), (q1, .inl (cB, 40, .inl G)), (q2, .inl (cC, 20, .inl E))] s.heap.size = A at hD ⊢
  have hA : ∀ q : Nat, s.heap.size ≤ q → A q := fun q h => by rw [← hAe]; exact Or.inr h
  have hS : va_S A s.heap s.heap [] := va_S.rf
  have hP : va_P (dC, dI) vwCl [(h0, .inr (1, [.ref q0, .ref q1, .ref q2, .int (nI n), .int (nI k), .int d])), (q0, .inl (cA, 3000, .inl T)), (q1, .inl (cB, 40, .inl G)), (q2, .inl (cC, 20, .inl E))] s.heap := hP
  have hinX1 : ∀ w ∈ u_ws RX1 TX1 6, w ∈ wsX1_open := fun w h => List.mem_cons_of_mem _ (inX1 w h)
  have hl := lv_entry ([.ref h0, .int (nI a), .int (nI mm)]) (n := 4) (Nat.le_of_ble_eq_true rfl)
  rw [lg_entry_eq]
  generalize (lg_sl ([.ref h0, .int (nI a), .int (nI mm)]) ++ List.replicate (4 - (lg_sl ([.ref h0, .int (nI a), .int (nI mm)])).length) Slot.unset).toArray = ls at hl ⊢
  have hl : lv_has ls 4 [(0, .ref h0), (1, .int (nI a)), (2, .int (nI mm))] := hl
  refine tl_q (fun Q hQ => ?_)
  refine lv_aload_n hx hb dX1_open_0 rfl (lv_at hl 0 rfl) ?_
  refine va_get (D := (dC, dI)) (ci := 1) (v := .int (nI n)) (C := RX1) (T := TX1) (N := 6) hx hb hts hinX1 hown hK hP 0 rfl rfl 3 (by decide) (hts _ (List.mem_cons_of_mem _ k248)) (fun _ h9 => h9) rfl dX1_open_1 ?_
  refine lv_iconst (v := nI 1) hx hb dX1_open_4 (by decide) ?_
  refine lv_isub hx hb dX1_open_5 ?_
  have e5 : ((nI n) - (nI 1)).toInt = ((n : Nat) : Int) - ((1 : Int)) := tl_subv (nI_toInt (by omega)) (by decide) (by omega) (by omega)
  refine lv_istore_n (lv' := [(3, .int ((nI n) - (nI 1))), (0, .ref h0), (1, .int (nI a)), (2, .int (nI mm))]) hx hb dX1_open_6 rfl hl (by decide) rfl (fun ls hl => ?_)
  have LP7 : ∀ (fu : Nat) (j : Nat) (F : Nat → Int32) (H : Heap) (locs : List Loc) (ls : Array Slot), j < fu → a ≤ j → j ≤ n → (∀ i, i < j → F i = T i) → (∀ i, j ≤ i → i < n → F (i + mm) = T i) → lv_has ls 4 [(0, .ref h0), (1, .int (nI a)), (2, .int (nI mm)), (3, .int (nI j - nI 1))] → va_P (dC, dI) vwCl [(h0, .inr (1, [.ref q0, .ref q1, .ref q2, .int (nI n), .int (nI k), .int d])), (q0, .inl (cA, 3000, .inl F)), (q1, .inl (cB, 40, .inl G)), (q2, .inl (cC, 20, .inl E))] H → va_D A [(h0, .inr (1, [.ref q0, .ref q1, .ref q2, .int (nI n), .int (nI k), .int d])), (q0, .inl (cA, 3000, .inl F)), (q1, .inl (cB, 40, .inl G)), (q2, .inl (cC, 20, .inl E))] → va_S A s.heap H locs → W p l e (headSpec wsX1_open ({ frames := 0, cells := 0, slots := 0, locals := 0 } : Room)).room s m ([.ref h0, .int (nI a), .int (nI mm)] : List Value).toArray below meth c H locs 0 0 Q (F0 m 7 ls []) := by
    intro fu
    induction fu with
    | zero => intro j F H locs ls hfu; exact absurd hfu (Nat.not_lt_zero _)
    | succ fu ih =>
      intro j F H locs ls hfu hj1 hj2 hF1 hF2 hl hP hD hS
      refine lv_iload_n hx hb dX1_open_7 rfl (lv_at hl 3 rfl) ?_
      refine lv_iload_n hx hb dX1_open_8 rfl (lv_at hl 1 rfl) ?_
      refine lv_icmp_lt (tgt := 32) hx hb dX1_open_9 rfl (fun h9 => ?_) (fun h9 => ?_)
      · skip
        have h9 := (tl_lt (show (nI j - nI 1).toInt = ((j : Int) - 1) from (tl_predv (by omega))) (show (nI a).toInt = ((a : Nat) : Int) from (nI_toInt (by omega)))).mp h9
        refine lv_aload_n hx hb dX1_open_32 rfl (lv_at hl 0 rfl) ?_
        refine lv_dup hx hb dX1_open_33 rfl ?_
        refine va_get (D := (dC, dI)) (ci := 1) (v := .int (nI n)) (C := RX1) (T := TX1) (N := 6) hx hb hts hinX1 hown hK hP 0 rfl rfl 3 (by decide) (hts _ (List.mem_cons_of_mem _ k248)) (fun _ h9 => h9) rfl dX1_open_34 ?_
        refine lv_iload_n hx hb dX1_open_37 rfl (lv_at hl 2 rfl) ?_
        refine lv_iadd hx hb dX1_open_38 ?_
        refine tl_top (nI_add _ _) ?_
        refine va_put (D := (dC, dI)) (ci := 1) (v := .int (nI (n + mm))) (ty := .int) (C := RX1) (T := TX1) (N := 6) hx hb hts hinX1 tyX1 tyX1_ok nmX1 hown hK hP hD hS 0 rfl rfl 3 (by decide) (hts _ (List.mem_cons_of_mem _ k248)) (fun _ h9 => h9) rfl (by decide +kernel) rfl rfl (Nat.le_of_ble_eq_true rfl) dX1_open_39 (fun H locs hP hD hS => ?_)
        have hP : va_P (dC, dI) vwCl [(h0, .inr (1, [.ref q0, .ref q1, .ref q2, .int (nI (n + mm)), .int (nI k), .int d])), (q0, .inl (cA, 3000, .inl F)), (q1, .inl (cB, 40, .inl G)), (q2, .inl (cC, 20, .inl E))] H := hP
        have hD : va_D A [(h0, .inr (1, [.ref q0, .ref q1, .ref q2, .int (nI (n + mm)), .int (nI k), .int d])), (q0, .inl (cA, 3000, .inl F)), (q1, .inl (cB, 40, .inl G)), (q2, .inl (cC, 20, .inl E))] := hD
        subst hQ
        exact W.vret hx hb hr (fun t ht hW => ⟨⟨((n + mm, F, k, G), E, d), rfl, ⟨_, rfl, fun i hi => hF1 i (by omega), fun i hi1 hi2 => hF2 i (by omega) hi2⟩, by rw [ht]; exact hP, va_K.moved hW.alike hK, hD⟩, hS.F ht⟩) hS.2.2 dX1_open_42
      · skip
        have h9 := (not_congr (tl_lt (show (nI j - nI 1).toInt = ((j : Int) - 1) from (tl_predv (by omega))) (show (nI a).toInt = ((a : Nat) : Int) from (nI_toInt (by omega))))).mp h9
        obtain ⟨i, rfl⟩ : ∃ i, j = i + 1 := ⟨j - 1, by omega⟩
        rw [show nI (i + 1) - nI 1 = nI i from pk_sub (by omega)] at hl
        have hl : lv_has ls 4 [(0, .ref h0), (1, .int (nI a)), (2, .int (nI mm)), (3, .int (nI i))] := hl
        refine lv_aload_n hx hb dX1_open_12 rfl (lv_at hl 0 rfl) ?_
        refine va_get (D := (dC, dI)) (ci := 1) (v := .ref q0) (C := RX1) (T := TX1) (N := 6) hx hb hts hinX1 hown hK hP 0 rfl rfl 0 (by decide) (hts _ (List.mem_cons_of_mem _ k245)) (fun _ h9 => h9) rfl dX1_open_13 ?_
        refine lv_iload_n hx hb dX1_open_16 rfl (lv_at hl 3 rfl) ?_
        refine lv_iload_n hx hb dX1_open_17 rfl (lv_at hl 2 rfl) ?_
        refine lv_iadd hx hb dX1_open_18 ?_
        refine tl_top (nI_add _ _) ?_
        refine lv_aload_n hx hb dX1_open_19 rfl (lv_at hl 0 rfl) ?_
        refine va_get (D := (dC, dI)) (ci := 1) (v := .ref q0) (C := RX1) (T := TX1) (N := 6) hx hb hts hinX1 hown hK hP 0 rfl rfl 0 (by decide) (hts _ (List.mem_cons_of_mem _ k245)) (fun _ h9 => h9) rfl dX1_open_20 ?_
        refine lv_iload_n hx hb dX1_open_23 rfl (lv_at hl 3 rfl) ?_
        refine tl_iald (v := T i) hx hb hK hP 1 0 rfl rfl (by omega) (by decide) (hF1 i (by omega)) dX1_open_24 ?_
        refine tl_iast hx hb hK hP hD hS 1 0 rfl rfl (by omega) (by decide) dX1_open_25 (fun H locs hP hD hS => ?_)
        have hP : va_P (dC, dI) vwCl [(h0, .inr (1, [.ref q0, .ref q1, .ref q2, .int (nI n), .int (nI k), .int d])), (q0, .inl (cA, 3000, .inl (upd F (i + mm) (T i)))), (q1, .inl (cB, 40, .inl G)), (q2, .inl (cC, 20, .inl E))] H := hP
        have hD : va_D A [(h0, .inr (1, [.ref q0, .ref q1, .ref q2, .int (nI n), .int (nI k), .int d])), (q0, .inl (cA, 3000, .inl (upd F (i + mm) (T i)))), (q1, .inl (cB, 40, .inl G)), (q2, .inl (cC, 20, .inl E))] := hD
        refine lv_iinc (lv' := [(3, .int (nI i - nI 1)), (0, .ref h0), (1, .int (nI a)), (2, .int (nI mm))]) (k := 3) (v := nI i - nI 1) hx hb dX1_open_26 hl rfl (tl_dec i) (by decide) rfl (fun ls hl => ?_)
        refine lv_goto (tgt := 7) hx hb dX1_open_29 rfl ?_
        exact ih i (upd F (i + mm) (T i)) _ _ ls (by omega) (by omega) (by omega) (pm_op1 hF1) (pm_op2 hF1 hF2) (lv_sub hl [1, 2, 3, 0] rfl) hP hD hS
  exact LP7 _ n T _ _ ls (Nat.lt_succ_self _) (by omega) (by omega) (by intro i hi; rfl) (by intro i hi1 hi2; omega) (lv_sub hl [1, 2, 3, 0] rfl) hP hD hS
set_option maxHeartbeats 4000000 in
set_option maxRecDepth 100000 in
theorem c_M_close (l : Launch) (dC : Nat → ClassId) (dI : Nat → Nat → Nat) (h0 q0 q1 q2 sz n k : Nat) (cA cB cC : ClassId) (T G T0 G0 : Nat → Int32) (hT : ∀ j, j < n → T j = T0 j) (hG : ∀ j, j < k → G j = G0 j) (hn : n ≤ 3000) (hk : k ≤ 40) (E : Nat → Int32) (d : Int32) (a b : Nat) (hab : a ≤ b) (hbn : b ≤ n) : Met l yX1_close wsX1_close ({ frames := 0, cells := 0, slots := 0, locals := 0 } : Room) (va_Pc [.ref h0, .int (nI a), .int (nI b)] (fun U => U.heap.size = sz ∧ va_P (dC, dI) vwCl [(h0, .inr (1, [.ref q0, .ref q1, .ref q2, .int (nI n), .int (nI k), .int d])), (q0, .inl (cA, 3000, .inl T)), (q1, .inl (cB, 40, .inl G)), (q2, .inl (cC, 20, .inl E))] U.heap ∧ va_K (dC, dI) vwCl [(cA, .int), (cB, .int), (cC, .int)] U ∧ va_D (fun _ => True) [(h0, .inr (1, [.ref q0, .ref q1, .ref q2, .int (nI n), .int (nI k), .int d])), (q0, .inl (cA, 3000, .inl T)), (q1, .inl (cB, 40, .inl G)), (q2, .inl (cC, 20, .inl E))])) (va_Qv (fun (u : tM) => ∃ F : Nat → Int32, u = ((n - (b - a), F, k, G), E, d) ∧ (∀ i, i < a → F i = T i) ∧ ∀ i, b ≤ i → i < n → F (i - (b - a)) = T i) (at_M dC dI (va_A [(h0, .inr (1, [.ref q0, .ref q1, .ref q2, .int (nI n), .int (nI k), .int d])), (q0, .inl (cA, 3000, .inl T)), (q1, .inl (cB, 40, .inl G)), (q2, .inl (cC, 20, .inl E))] sz) h0 q0 q1 q2 cA cB cC) (va_A [(h0, .inr (1, [.ref q0, .ref q1, .ref q2, .int (nI n), .int (nI k), .int d])), (q0, .inl (cA, 3000, .inl T)), (q1, .inl (cB, 40, .inl G)), (q2, .inl (cC, 20, .inl E))] sz)) 0 0 (va_A [(h0, .inr (1, [.ref q0, .ref q1, .ref q2, .int (nI n), .int (nI k), .int d])), (q0, .inl (cA, 3000, .inl T)), (q1, .inl (cB, 40, .inl G)), (q2, .inl (cC, 20, .inl E))] sz) := by
  refine Met.ofW (cc := cX1_close) (maxL := 5) (ret := none) (by decide) rfl ?_
  intro p e s m args below meth c s₁ B hml hv
  obtain ⟨rfl, hsz, hP, hK, hD0⟩ := hv
  have hx := B.exec
  have hb := B.bytes
  have hr := B.returns
  have hts := atoms_spec (ws := wsX1_close) B.pre
  have hown : s.vm.findClass RX1 = some m.cls := findClass_of_methodNamed B.named
  have hlocks := B.notSynchronized
  subst hsz
  have hD := hD0.self (sz := s.heap.size)
  generalize hAe : va_A [(h0, .inr (1, [.ref q0, .ref q1, .ref q2, .int (nI n), .int (nI k), .int d])), (q0, .inl (cA, 3000, .inl T)), (q1, .inl (cB, 40, .inl G)), (q2, .inl (cC, 20, .inl E))] s.heap.size = A at hD ⊢
  have hA : ∀ q : Nat, s.heap.size ≤ q → A q := fun q h => by rw [← hAe]; exact Or.inr h
  have hS : va_S A s.heap s.heap [] := va_S.rf
  have hP : va_P (dC, dI) vwCl [(h0, .inr (1, [.ref q0, .ref q1, .ref q2, .int (nI n), .int (nI k), .int d])), (q0, .inl (cA, 3000, .inl T)), (q1, .inl (cB, 40, .inl G)), (q2, .inl (cC, 20, .inl E))] s.heap := hP
  have hinX1 : ∀ w ∈ u_ws RX1 TX1 6, w ∈ wsX1_close := fun w h => List.mem_cons_of_mem _ (inX1 w h)
  have hl := lv_entry ([.ref h0, .int (nI a), .int (nI b)]) (n := 5) (Nat.le_of_ble_eq_true rfl)
  rw [lg_entry_eq]
  generalize (lg_sl ([.ref h0, .int (nI a), .int (nI b)]) ++ List.replicate (5 - (lg_sl ([.ref h0, .int (nI a), .int (nI b)])).length) Slot.unset).toArray = ls at hl ⊢
  have hl : lv_has ls 5 [(0, .ref h0), (1, .int (nI a)), (2, .int (nI b))] := hl
  refine tl_q (fun Q hQ => ?_)
  refine lv_iload_n hx hb dX1_close_0 rfl (lv_at hl 2 rfl) ?_
  refine lv_iload_n hx hb dX1_close_1 rfl (lv_at hl 1 rfl) ?_
  refine lv_isub hx hb dX1_close_2 ?_
  refine tl_top (pk_sub (by omega)) ?_
  refine lv_istore_n (lv' := [(3, .int (nI (b - a))), (0, .ref h0), (1, .int (nI a)), (2, .int (nI b))]) hx hb dX1_close_3 rfl hl (by decide) rfl (fun ls hl => ?_)
  refine lv_iload_n hx hb dX1_close_4 rfl (lv_at hl 3 rfl) ?_
  refine lv_istore (lv' := [(4, .int (nI b)), (3, .int (nI (b - a))), (0, .ref h0), (1, .int (nI a)), (2, .int (nI b))]) hx hb dX1_close_5 hl (by decide) rfl (fun ls hl => ?_)
  have LP7 : ∀ (fu : Nat) (j : Nat) (F : Nat → Int32) (H : Heap) (locs : List Loc) (ls : Array Slot), n - j < fu → b ≤ j → j ≤ n → (∀ i, i < a → F i = T i) → (∀ i, b ≤ i → i < j → F (i - (b - a)) = T i) → (∀ i, j ≤ i → i < n → F i = T i) → lv_has ls 5 [(0, .ref h0), (3, .int (nI (b - a))), (4, .int (nI j))] → va_P (dC, dI) vwCl [(h0, .inr (1, [.ref q0, .ref q1, .ref q2, .int (nI n), .int (nI k), .int d])), (q0, .inl (cA, 3000, .inl F)), (q1, .inl (cB, 40, .inl G)), (q2, .inl (cC, 20, .inl E))] H → va_D A [(h0, .inr (1, [.ref q0, .ref q1, .ref q2, .int (nI n), .int (nI k), .int d])), (q0, .inl (cA, 3000, .inl F)), (q1, .inl (cB, 40, .inl G)), (q2, .inl (cC, 20, .inl E))] → va_S A s.heap H locs → W p l e (headSpec wsX1_close ({ frames := 0, cells := 0, slots := 0, locals := 0 } : Room)).room s m ([.ref h0, .int (nI a), .int (nI b)] : List Value).toArray below meth c H locs 0 0 Q (F0 m 7 ls []) := by
    intro fu
    induction fu with
    | zero => intro j F H locs ls hfu; exact absurd hfu (Nat.not_lt_zero _)
    | succ fu ih =>
      intro j F H locs ls hfu hj1 hj2 hF1 hF2 hF3 hl hP hD hS
      refine lv_iload hx hb dX1_close_7 (lv_at hl 2 rfl) ?_
      refine lv_aload_n hx hb dX1_close_9 rfl (lv_at hl 0 rfl) ?_
      refine va_get (D := (dC, dI)) (ci := 1) (v := .int (nI n)) (C := RX1) (T := TX1) (N := 6) hx hb hts hinX1 hown hK hP 0 rfl rfl 3 (by decide) (hts _ (List.mem_cons_of_mem _ k248)) (fun _ h9 => h9) rfl dX1_close_10 ?_
      refine lv_icmp_ge (tgt := 38) hx hb dX1_close_13 rfl (fun h13 => ?_) (fun h13 => ?_)
      · skip
        have h13 := (tl_le (show (nI n).toInt = ((n : Nat) : Int) from (nI_toInt (by omega))) (show (nI j).toInt = ((j : Nat) : Int) from (nI_toInt (by omega)))).mp h13
        refine lv_aload_n hx hb dX1_close_38 rfl (lv_at hl 0 rfl) ?_
        refine lv_dup hx hb dX1_close_39 rfl ?_
        refine va_get (D := (dC, dI)) (ci := 1) (v := .int (nI n)) (C := RX1) (T := TX1) (N := 6) hx hb hts hinX1 hown hK hP 0 rfl rfl 3 (by decide) (hts _ (List.mem_cons_of_mem _ k248)) (fun _ h9 => h9) rfl dX1_close_40 ?_
        refine lv_iload_n hx hb dX1_close_43 rfl (lv_at hl 1 rfl) ?_
        refine lv_isub hx hb dX1_close_44 ?_
        refine tl_top (pk_sub (by omega)) ?_
        refine va_put (D := (dC, dI)) (ci := 1) (v := .int (nI (n - (b - a)))) (ty := .int) (C := RX1) (T := TX1) (N := 6) hx hb hts hinX1 tyX1 tyX1_ok nmX1 hown hK hP hD hS 0 rfl rfl 3 (by decide) (hts _ (List.mem_cons_of_mem _ k248)) (fun _ h9 => h9) rfl (by decide +kernel) rfl rfl (Nat.le_of_ble_eq_true rfl) dX1_close_45 (fun H locs hP hD hS => ?_)
        have hP : va_P (dC, dI) vwCl [(h0, .inr (1, [.ref q0, .ref q1, .ref q2, .int (nI (n - (b - a))), .int (nI k), .int d])), (q0, .inl (cA, 3000, .inl F)), (q1, .inl (cB, 40, .inl G)), (q2, .inl (cC, 20, .inl E))] H := hP
        have hD : va_D A [(h0, .inr (1, [.ref q0, .ref q1, .ref q2, .int (nI (n - (b - a))), .int (nI k), .int d])), (q0, .inl (cA, 3000, .inl F)), (q1, .inl (cB, 40, .inl G)), (q2, .inl (cC, 20, .inl E))] := hD
        subst hQ
        exact W.vret hx hb hr (fun t ht hW => ⟨⟨((n - (b - a), F, k, G), E, d), rfl, ⟨_, rfl, hF1, fun i hi1 hi2 => hF2 i hi1 (by omega)⟩, by rw [ht]; exact hP, va_K.moved hW.alike hK, hD⟩, hS.F ht⟩) hS.2.2 dX1_close_48
      · skip
        have h13 := (not_congr (tl_le (show (nI n).toInt = ((n : Nat) : Int) from (nI_toInt (by omega))) (show (nI j).toInt = ((j : Nat) : Int) from (nI_toInt (by omega))))).mp h13
        refine lv_aload_n hx hb dX1_close_16 rfl (lv_at hl 0 rfl) ?_
        refine va_get (D := (dC, dI)) (ci := 1) (v := .ref q0) (C := RX1) (T := TX1) (N := 6) hx hb hts hinX1 hown hK hP 0 rfl rfl 0 (by decide) (hts _ (List.mem_cons_of_mem _ k245)) (fun _ h9 => h9) rfl dX1_close_17 ?_
        refine lv_iload hx hb dX1_close_20 (lv_at hl 2 rfl) ?_
        refine lv_iload_n hx hb dX1_close_22 rfl (lv_at hl 1 rfl) ?_
        refine lv_isub hx hb dX1_close_23 ?_
        refine tl_top (pk_sub (by omega)) ?_
        refine lv_aload_n hx hb dX1_close_24 rfl (lv_at hl 0 rfl) ?_
        refine va_get (D := (dC, dI)) (ci := 1) (v := .ref q0) (C := RX1) (T := TX1) (N := 6) hx hb hts hinX1 hown hK hP 0 rfl rfl 0 (by decide) (hts _ (List.mem_cons_of_mem _ k245)) (fun _ h9 => h9) rfl dX1_close_25 ?_
        refine lv_iload hx hb dX1_close_28 (lv_at hl 2 rfl) ?_
        refine tl_iald (v := T j) hx hb hK hP 1 0 rfl rfl (by omega) (by decide) (hF3 j (by omega) (by omega)) dX1_close_30 ?_
        refine tl_iast hx hb hK hP hD hS 1 0 rfl rfl (by omega) (by decide) dX1_close_31 (fun H locs hP hD hS => ?_)
        have hP : va_P (dC, dI) vwCl [(h0, .inr (1, [.ref q0, .ref q1, .ref q2, .int (nI n), .int (nI k), .int d])), (q0, .inl (cA, 3000, .inl (upd F (j - (b - a)) (T j)))), (q1, .inl (cB, 40, .inl G)), (q2, .inl (cC, 20, .inl E))] H := hP
        have hD : va_D A [(h0, .inr (1, [.ref q0, .ref q1, .ref q2, .int (nI n), .int (nI k), .int d])), (q0, .inl (cA, 3000, .inl (upd F (j - (b - a)) (T j)))), (q1, .inl (cB, 40, .inl G)), (q2, .inl (cC, 20, .inl E))] := hD
        refine lv_iinc (lv' := [(4, .int (nI (j + 1))), (0, .ref h0), (3, .int (nI (b - a)))]) (k := 2) (v := nI (j + 1)) hx hb dX1_close_32 hl rfl (tl_inc1 _) (by decide) rfl (fun ls hl => ?_)
        refine lv_goto (tgt := 7) hx hb dX1_close_35 rfl ?_
        exact ih (j + 1) (upd F (j - (b - a)) (T j)) _ _ ls (by omega) (by omega) (by omega) (pm_cl1 hab hj1 hF1) (pm_cl2 hab hj1 hF2) (pm_cl3 hab hj1 hF3) (lv_sub hl [1, 2, 0] rfl) hP hD hS
  exact LP7 _ b T _ _ ls (Nat.lt_succ_self _) (by omega) (by omega) (by intro i hi; rfl) (by intro i hi1 hi2; omega) (by intro i hi1 hi2; rfl) (lv_sub hl [2, 1, 0] rfl) hP hD hS
set_option maxHeartbeats 4000000 in
set_option maxRecDepth 100000 in
theorem c_M_putDigits (l : Launch) (dC : Nat → ClassId) (dI : Nat → Nat → Nat) (h0 q0 q1 q2 sz n k : Nat) (cA cB cC : ClassId) (T G T0 G0 : Nat → Int32) (hT : ∀ j, j < n → T j = T0 j) (hG : ∀ j, j < k → G j = G0 j) (hn : n ≤ 3000) (hk : k ≤ 40) (E : Nat → Int32) (mm : Nat) (ww : Nat → Int32) (hmm : mm ≤ 20) (hE : ∀ i, i < mm → E i = ww (mm - 1 - i)) (a : Nat) (han : a ≤ n) : Met l yX1_putDigits wsX1_putDigits ({ frames := 1, cells := 0, slots := 0, locals := 23 } : Room) (va_Pc [.ref h0, .int (nI a)] (fun U => U.heap.size = sz ∧ va_P (dC, dI) vwCl [(h0, .inr (1, [.ref q0, .ref q1, .ref q2, .int (nI n), .int (nI k), .int (nI mm)])), (q0, .inl (cA, 3000, .inl T)), (q1, .inl (cB, 40, .inl G)), (q2, .inl (cC, 20, .inl E))] U.heap ∧ va_K (dC, dI) vwCl [(cA, .int), (cB, .int), (cC, .int)] U ∧ va_D (fun _ => True) [(h0, .inr (1, [.ref q0, .ref q1, .ref q2, .int (nI n), .int (nI k), .int (nI mm)])), (q0, .inl (cA, 3000, .inl T)), (q1, .inl (cB, 40, .inl G)), (q2, .inl (cC, 20, .inl E))])) (va_Qi (fun (r : Int32) (u : tM) => r = (sp_put a a ww mm n T0 k G0).1 ∧ tE u.1 (sp_put a a ww mm n T0 k G0).2) (at_M dC dI (va_A [(h0, .inr (1, [.ref q0, .ref q1, .ref q2, .int (nI n), .int (nI k), .int (nI mm)])), (q0, .inl (cA, 3000, .inl T)), (q1, .inl (cB, 40, .inl G)), (q2, .inl (cC, 20, .inl E))] sz) h0 q0 q1 q2 cA cB cC) (va_A [(h0, .inr (1, [.ref q0, .ref q1, .ref q2, .int (nI n), .int (nI k), .int (nI mm)])), (q0, .inl (cA, 3000, .inl T)), (q1, .inl (cB, 40, .inl G)), (q2, .inl (cC, 20, .inl E))] sz)) 0 0 (va_A [(h0, .inr (1, [.ref q0, .ref q1, .ref q2, .int (nI n), .int (nI k), .int (nI mm)])), (q0, .inl (cA, 3000, .inl T)), (q1, .inl (cB, 40, .inl G)), (q2, .inl (cC, 20, .inl E))] sz) := by
  refine Met.ofW (cc := cX1_putDigits) (maxL := 3) (ret := (some .int)) (by decide) rfl ?_
  intro p e s m args below meth c s₁ B hml hv
  obtain ⟨rfl, hsz, hP, hK, hD0⟩ := hv
  have hx := B.exec
  have hb := B.bytes
  have hr := B.returns
  have hts := atoms_spec (ws := wsX1_putDigits) B.pre
  have hown : s.vm.findClass RX1 = some m.cls := findClass_of_methodNamed B.named
  have hlocks := B.notSynchronized
  subst hsz
  have hD := hD0.self (sz := s.heap.size)
  generalize hAe : va_A [(h0, .inr (1, [.ref q0, .ref q1, .ref q2, .int (nI n), .int (nI k), .int (nI mm)])), (q0, .inl (cA, 3000, .inl T)), (q1, .inl (cB, 40, .inl G)), (q2, .inl (cC, 20, .inl E))] s.heap.size = A at hD ⊢
  have hA : ∀ q : Nat, s.heap.size ≤ q → A q := fun q h => by rw [← hAe]; exact Or.inr h
  have hS : va_S A s.heap s.heap [] := va_S.rf
  have hP : va_P (dC, dI) vwCl [(h0, .inr (1, [.ref q0, .ref q1, .ref q2, .int (nI n), .int (nI k), .int (nI mm)])), (q0, .inl (cA, 3000, .inl T)), (q1, .inl (cB, 40, .inl G)), (q2, .inl (cC, 20, .inl E))] s.heap := hP
  have hinX1 : ∀ w ∈ u_ws RX1 TX1 6, w ∈ wsX1_putDigits := fun w h => List.mem_cons_of_mem _ (inX1 w h)
  have hl := lv_entry ([.ref h0, .int (nI a)]) (n := 3) (Nat.le_of_ble_eq_true rfl)
  rw [lg_entry_eq]
  generalize (lg_sl ([.ref h0, .int (nI a)]) ++ List.replicate (3 - (lg_sl ([.ref h0, .int (nI a)])).length) Slot.unset).toArray = ls at hl ⊢
  have hl : lv_has ls 3 [(0, .ref h0), (1, .int (nI a))] := hl
  refine tl_q (fun Q hQ => ?_)
  refine lv_aload_n hx hb dX1_putDigits_0 rfl (lv_at hl 0 rfl) ?_
  refine lv_aload_n hx hb dX1_putDigits_1 rfl (lv_at hl 0 rfl) ?_
  refine va_get (D := (dC, dI)) (ci := 1) (v := .int (nI mm)) (C := RX1) (T := TX1) (N := 6) hx hb hts hinX1 hown hK hP 0 rfl rfl 5 (by decide) (hts _ (List.mem_cons_of_mem _ k250)) (fun _ h9 => h9) rfl dX1_putDigits_2 ?_
  have ea5_0 : (nI mm).toInt = ((mm : Nat) : Int) := (nI_toInt (by omega))
  refine vp_callSi ((va_runV (As := [.int (nI mm)]) (rest := []) ⟨hx, hb, hml, hown, hts⟩ (c_M_full l dC dI h0 q0 q1 q2 n k cA cB cC T G T0 G0 hT hG (by omega) hk E (nI mm) (nI mm) (by omega) (by omega)) (cwV 1 hts (gV_ (fun w h => List.mem_cons_of_mem _ h) k299 k301 k14 k22 k302) rfl rfl rfl (by decide +kernel) ⟨Nat.le_of_ble_eq_true rfl, Nat.le_of_ble_eq_true rfl⟩) ⟨fun a U g mk q => by obtain ⟨q0, qP, qK⟩ := q; exact ⟨q0, qP, va_K.moved (u := U) (U := U.calling g mk a) (Vm.Alike.refl U.vm) qK⟩, va_recv hK hP (ci := 1) (q0 := 0) rfl rfl, fun U hU hW => ⟨rfl, by rw [hU]; exact hP, va_K.moved hW.alike hK⟩⟩ rfl rfl hl.1 rfl (lv_room (Nat.le_of_ble_eq_true rfl)) dX1_putDigits_5 ⟨Nat.le_of_ble_eq_true rfl, Nat.le_of_ble_eq_true rfl⟩).run) (fun r5 w5 => ?_)
  try dsimp only at w5
  refine lv_if_eq (tgt := 14) hx hb dX1_putDigits_8 rfl (fun h8 => ?_) (fun h8 => ?_)
  · skip
    have h8 := (tl_b0 w5).mp h8
    refine lv_aload_n hx hb dX1_putDigits_14 rfl (lv_at hl 0 rfl) ?_
    refine lv_iload_n hx hb dX1_putDigits_15 rfl (lv_at hl 1 rfl) ?_
    refine lv_aload_n hx hb dX1_putDigits_16 rfl (lv_at hl 0 rfl) ?_
    refine va_get (D := (dC, dI)) (ci := 1) (v := .int (nI mm)) (C := RX1) (T := TX1) (N := 6) hx hb hts hinX1 hown hK hP 0 rfl rfl 5 (by decide) (hts _ (List.mem_cons_of_mem _ k250)) (fun _ h9 => h9) rfl dX1_putDigits_17 ?_
    have hPc := hP.sub (ws' := [(h0, .inr (1, [.ref q0, .ref q1, .ref q2, .int (nI n), .int (nI k), .int (nI mm)])), (q0, .inl (cA, 3000, .inl T)), (q1, .inl (cB, 40, .inl G)), (q2, .inl (cC, 20, .inl E))]) [0, 1, 2, 3] rfl
    have hDc := hD.sub (ws' := [(h0, .inr (1, [.ref q0, .ref q1, .ref q2, .int (nI n), .int (nI k), .int (nI mm)])), (q0, .inl (cA, 3000, .inl T)), (q1, .inl (cB, 40, .inl G)), (q2, .inl (cC, 20, .inl E))]) [0, 1, 2, 3] (by decide) rfl
    have hKc := hK
    have hFc := va_free (wc := [(h0, .inr (1, [.ref q0, .ref q1, .ref q2, .int (nI n), .int (nI k), .int (nI mm)])), (q0, .inl (cA, 3000, .inl T)), (q1, .inl (cB, 40, .inl G)), (q2, .inl (cC, 20, .inl E))]) hD hS hA [0, 1, 2, 3] rfl
    refine va_callv (va_runV (As := [.int (nI a), .int (nI mm)]) (rest := []) ⟨hx, hb, hml, hown, hts⟩ (c_M_open l dC dI h0 q0 q1 q2 s.heap.size n k cA cB cC T G T0 G0 hT hG (by omega) hk E (nI mm) a mm (by omega) (by omega)) (cwV 2 hts (gV_ (fun w h => List.mem_cons_of_mem _ h) k303 k305 k15 k22 k306) rfl rfl rfl (by decide +kernel) ⟨Nat.le_of_ble_eq_true rfl, Nat.le_of_ble_eq_true rfl⟩) ⟨fun a U g mk q => by obtain ⟨q0, q1, qP, qK, qD⟩ := q; exact ⟨q0, q1, qP, va_K.moved (u := U) (U := U.calling g mk a) (Vm.Alike.refl U.vm) qK, qD⟩, va_recv hKc hPc (ci := 1) (q0 := 0) rfl rfl, fun U hU hW => ⟨rfl, by rw [hU], by rw [hU]; exact hPc, va_K.moved hW.alike hKc, hDc.weaken (fun _ _ _ _ => trivial)⟩⟩ rfl rfl hl.1 rfl (lv_room (Nat.le_of_ble_eq_true rfl)) dX1_putDigits_20 ⟨Nat.le_of_ble_eq_true rfl, Nat.le_of_ble_eq_true rfl⟩) hS (fun q _ h => hFc q h) hFc (fun u20 t H locs ht hvm w20 hB hz1 hk1 hS => ?_)
    try dsimp only at w20
    obtain ⟨F2, rfl, hO1, hO2⟩ := w20
    obtain ⟨hP1, hK1, hD1⟩ := hB
    rw [ht] at hP1
    obtain ⟨hP, hD⟩ := va_join (wr := []) (w1 := [(h0, .inr (1, [.ref q0, .ref q1, .ref q2, .int (nI (n + mm)), .int (nI k), .int (nI mm)])), (q0, .inl (cA, 3000, .inl F2)), (q1, .inl (cB, 40, .inl G)), (q2, .inl (cC, 20, .inl E))]) hP hD [0, 1, 2, 3] [] rfl rfl (by decide) (by decide) hk1 hFc hP1 hD1
    have hP : va_P (dC, dI) vwCl [(h0, .inr (1, [.ref q0, .ref q1, .ref q2, .int (nI (n + mm)), .int (nI k), .int (nI mm)])), (q0, .inl (cA, 3000, .inl F2)), (q1, .inl (cB, 40, .inl G)), (q2, .inl (cC, 20, .inl E))] H := hP
    have hD : va_D A [(h0, .inr (1, [.ref q0, .ref q1, .ref q2, .int (nI (n + mm)), .int (nI k), .int (nI mm)])), (q0, .inl (cA, 3000, .inl F2)), (q1, .inl (cB, 40, .inl G)), (q2, .inl (cC, 20, .inl E))] := hD
    refine lv_iconst (v := nI 0) hx hb dX1_putDigits_23 (by decide) ?_
    refine lv_istore_n (lv' := [(2, .int (nI 0)), (0, .ref h0), (1, .int (nI a))]) hx hb dX1_putDigits_24 rfl hl (by decide) rfl (fun ls hl => ?_)
    have LP25 : ∀ (fu : Nat) (j : Nat) (F : Nat → Int32) (H : Heap) (locs : List Loc) (ls : Array Slot), mm - j < fu → j ≤ mm → (∀ i, i < n + mm → (i < a + j ∨ a + mm ≤ i) → F i = tl_rep T0 a a ww mm i) → lv_has ls 3 [(0, .ref h0), (1, .int (nI a)), (2, .int (nI j))] → va_P (dC, dI) vwCl [(h0, .inr (1, [.ref q0, .ref q1, .ref q2, .int (nI (n + mm)), .int (nI k), .int (nI mm)])), (q0, .inl (cA, 3000, .inl F)), (q1, .inl (cB, 40, .inl G)), (q2, .inl (cC, 20, .inl E))] H → va_D A [(h0, .inr (1, [.ref q0, .ref q1, .ref q2, .int (nI (n + mm)), .int (nI k), .int (nI mm)])), (q0, .inl (cA, 3000, .inl F)), (q1, .inl (cB, 40, .inl G)), (q2, .inl (cC, 20, .inl E))] → va_S A s.heap H locs → W p l e (headSpec wsX1_putDigits ({ frames := 1, cells := 0, slots := 0, locals := 23 } : Room)).room s m ([.ref h0, .int (nI a)] : List Value).toArray below meth c H locs 0 0 Q (F0 m 25 ls []) := by
      intro fu
      induction fu with
      | zero => intro j F H locs ls hfu; exact absurd hfu (Nat.not_lt_zero _)
      | succ fu ih =>
        intro j F H locs ls hfu hj hF hl hP hD hS
        refine lv_iload_n hx hb dX1_putDigits_25 rfl (lv_at hl 2 rfl) ?_
        refine lv_aload_n hx hb dX1_putDigits_26 rfl (lv_at hl 0 rfl) ?_
        refine va_get (D := (dC, dI)) (ci := 1) (v := .int (nI mm)) (C := RX1) (T := TX1) (N := 6) hx hb hts hinX1 hown hK hP 0 rfl rfl 5 (by decide) (hts _ (List.mem_cons_of_mem _ k250)) (fun _ h9 => h9) rfl dX1_putDigits_27 ?_
        refine lv_icmp_ge (tgt := 60) hx hb dX1_putDigits_30 rfl (fun h30 => ?_) (fun h30 => ?_)
        · skip
          have h30 := (tl_le (show (nI mm).toInt = ((mm : Nat) : Int) from (nI_toInt (by omega))) (show (nI j).toInt = ((j : Nat) : Int) from (nI_toInt (by omega)))).mp h30
          refine lv_aload_n hx hb dX1_putDigits_60 rfl (lv_at hl 0 rfl) ?_
          refine va_get (D := (dC, dI)) (ci := 1) (v := .int (nI (n + mm))) (C := RX1) (T := TX1) (N := 6) hx hb hts hinX1 hown hK hP 0 rfl rfl 3 (by decide) (hts _ (List.mem_cons_of_mem _ k248)) (fun _ h9 => h9) rfl dX1_putDigits_61 ?_
          subst hQ
          exact W.iret (v := nI (n + mm)) hx hb hr (fun t ht hW => ⟨⟨nI (n + mm), ((n + mm, F, k, G), E, nI mm), rfl, (by unfold sp_put; rw [if_pos (by omega), Nat.sub_self, Nat.sub_zero]; exact ⟨rfl, tE_mk (fun i hi => hF i hi (by omega)) hG (by omega) hk⟩), by rw [ht]; exact hP, va_K.moved hW.alike hK, hD⟩, hS.F ht⟩) hS.2.2 dX1_putDigits_64
        · skip
          have h30 := (not_congr (tl_le (show (nI mm).toInt = ((mm : Nat) : Int) from (nI_toInt (by omega))) (show (nI j).toInt = ((j : Nat) : Int) from (nI_toInt (by omega))))).mp h30
          refine lv_aload_n hx hb dX1_putDigits_33 rfl (lv_at hl 0 rfl) ?_
          refine va_get (D := (dC, dI)) (ci := 1) (v := .ref q0) (C := RX1) (T := TX1) (N := 6) hx hb hts hinX1 hown hK hP 0 rfl rfl 0 (by decide) (hts _ (List.mem_cons_of_mem _ k245)) (fun _ h9 => h9) rfl dX1_putDigits_34 ?_
          refine lv_iload_n hx hb dX1_putDigits_37 rfl (lv_at hl 1 rfl) ?_
          refine lv_iload_n hx hb dX1_putDigits_38 rfl (lv_at hl 2 rfl) ?_
          refine lv_iadd hx hb dX1_putDigits_39 ?_
          refine tl_top (nI_add _ _) ?_
          refine lv_aload_n hx hb dX1_putDigits_40 rfl (lv_at hl 0 rfl) ?_
          refine va_get (D := (dC, dI)) (ci := 1) (v := .ref q2) (C := RX1) (T := TX1) (N := 6) hx hb hts hinX1 hown hK hP 0 rfl rfl 2 (by decide) (hts _ (List.mem_cons_of_mem _ k247)) (fun _ h9 => h9) rfl dX1_putDigits_41 ?_
          refine lv_aload_n hx hb dX1_putDigits_44 rfl (lv_at hl 0 rfl) ?_
          refine va_get (D := (dC, dI)) (ci := 1) (v := .int (nI mm)) (C := RX1) (T := TX1) (N := 6) hx hb hts hinX1 hown hK hP 0 rfl rfl 5 (by decide) (hts _ (List.mem_cons_of_mem _ k250)) (fun _ h9 => h9) rfl dX1_putDigits_45 ?_
          refine lv_iconst (v := nI 1) hx hb dX1_putDigits_48 (by decide) ?_
          refine lv_isub hx hb dX1_putDigits_49 ?_
          refine tl_top (pk_sub (by omega)) ?_
          refine lv_iload_n hx hb dX1_putDigits_50 rfl (lv_at hl 2 rfl) ?_
          refine lv_isub hx hb dX1_putDigits_51 ?_
          refine tl_top (pk_sub (by omega)) ?_
          refine tl_iald (v := ww j) hx hb hK hP 3 2 rfl rfl (by omega) (by decide) (by rw [hE _ (by omega)]; congr 1; omega) dX1_putDigits_52 ?_
          refine tl_iast hx hb hK hP hD hS 1 0 rfl rfl (by omega) (by decide) dX1_putDigits_53 (fun H locs hP hD hS => ?_)
          have hP : va_P (dC, dI) vwCl [(h0, .inr (1, [.ref q0, .ref q1, .ref q2, .int (nI (n + mm)), .int (nI k), .int (nI mm)])), (q0, .inl (cA, 3000, .inl (upd F (a + j) (ww j)))), (q1, .inl (cB, 40, .inl G)), (q2, .inl (cC, 20, .inl E))] H := hP
          have hD : va_D A [(h0, .inr (1, [.ref q0, .ref q1, .ref q2, .int (nI (n + mm)), .int (nI k), .int (nI mm)])), (q0, .inl (cA, 3000, .inl (upd F (a + j) (ww j)))), (q1, .inl (cB, 40, .inl G)), (q2, .inl (cC, 20, .inl E))] := hD
          refine lv_iinc (lv' := [(2, .int (nI (j + 1))), (0, .ref h0), (1, .int (nI a))]) (k := 2) (v := nI (j + 1)) hx hb dX1_putDigits_54 hl rfl (tl_inc1 _) (by decide) rfl (fun ls hl => ?_)
          refine lv_goto (tgt := 25) hx hb dX1_putDigits_57 rfl ?_
          exact ih (j + 1) (upd F (a + j) (ww j)) _ _ ls (by omega) (by omega) (pm_puts (by omega) hF) (lv_sub hl [1, 2, 0] rfl) hP hD hS
    exact LP25 _ 0 F2 _ _ ls (Nat.lt_succ_self _) (by omega) (pm_put0 hT han hO1 hO2) (lv_sub hl [1, 2, 0] rfl) hP hD hS
  · skip
    have h8 := (tl_b1 w5).mp h8
    refine lv_bipush (v := (-3 : Int32)) hx hb dX1_putDigits_11 (by decide) ?_
    subst hQ
    exact W.iret (v := (-3 : Int32)) hx hb hr (fun t ht hW => ⟨⟨(-3 : Int32), ((n, T, k, G), E, nI mm), rfl, (by unfold sp_put; rw [if_neg (by omega)]; exact ⟨rfl, tE_mk hT hG hn hk⟩), by rw [ht]; exact hP, va_K.moved hW.alike hK, hD⟩, hS.F ht⟩) hS.2.2 dX1_putDigits_13
set_option maxHeartbeats 4000000 in
set_option maxRecDepth 100000 in
theorem c_M_putScrap (l : Launch) (dC : Nat → ClassId) (dI : Nat → Nat → Nat) (h0 q0 q1 q2 sz n k : Nat) (cA cB cC : ClassId) (T G T0 G0 : Nat → Int32) (hT : ∀ j, j < n → T j = T0 j) (hG : ∀ j, j < k → G j = G0 j) (hn : n ≤ 3000) (hk : k ≤ 40) (E : Nat → Int32) (d : Int32) (a : Nat) (han : a ≤ n) : Met l yX1_putScrap wsX1_putScrap ({ frames := 1, cells := 0, slots := 0, locals := 23 } : Room) (va_Pc [.ref h0, .int (nI a)] (fun U => U.heap.size = sz ∧ va_P (dC, dI) vwCl [(h0, .inr (1, [.ref q0, .ref q1, .ref q2, .int (nI n), .int (nI k), .int d])), (q0, .inl (cA, 3000, .inl T)), (q1, .inl (cB, 40, .inl G)), (q2, .inl (cC, 20, .inl E))] U.heap ∧ va_K (dC, dI) vwCl [(cA, .int), (cB, .int), (cC, .int)] U ∧ va_D (fun _ => True) [(h0, .inr (1, [.ref q0, .ref q1, .ref q2, .int (nI n), .int (nI k), .int d])), (q0, .inl (cA, 3000, .inl T)), (q1, .inl (cB, 40, .inl G)), (q2, .inl (cC, 20, .inl E))])) (va_Qi (fun (r : Int32) (u : tM) => r = (sp_put a a G0 k n T0 k G0).1 ∧ tE u.1 (sp_put a a G0 k n T0 k G0).2) (at_M dC dI (va_A [(h0, .inr (1, [.ref q0, .ref q1, .ref q2, .int (nI n), .int (nI k), .int d])), (q0, .inl (cA, 3000, .inl T)), (q1, .inl (cB, 40, .inl G)), (q2, .inl (cC, 20, .inl E))] sz) h0 q0 q1 q2 cA cB cC) (va_A [(h0, .inr (1, [.ref q0, .ref q1, .ref q2, .int (nI n), .int (nI k), .int d])), (q0, .inl (cA, 3000, .inl T)), (q1, .inl (cB, 40, .inl G)), (q2, .inl (cC, 20, .inl E))] sz)) 0 0 (va_A [(h0, .inr (1, [.ref q0, .ref q1, .ref q2, .int (nI n), .int (nI k), .int d])), (q0, .inl (cA, 3000, .inl T)), (q1, .inl (cB, 40, .inl G)), (q2, .inl (cC, 20, .inl E))] sz) := by
  refine Met.ofW (cc := cX1_putScrap) (maxL := 3) (ret := (some .int)) (by decide) rfl ?_
  intro p e s m args below meth c s₁ B hml hv
  obtain ⟨rfl, hsz, hP, hK, hD0⟩ := hv
  have hx := B.exec
  have hb := B.bytes
  have hr := B.returns
  have hts := atoms_spec (ws := wsX1_putScrap) B.pre
  have hown : s.vm.findClass RX1 = some m.cls := findClass_of_methodNamed B.named
  have hlocks := B.notSynchronized
  subst hsz
  have hD := hD0.self (sz := s.heap.size)
  generalize hAe : va_A [(h0, .inr (1, [.ref q0, .ref q1, .ref q2, .int (nI n), .int (nI k), .int d])), (q0, .inl (cA, 3000, .inl T)), (q1, .inl (cB, 40, .inl G)), (q2, .inl (cC, 20, .inl E))] s.heap.size = A at hD ⊢
  have hA : ∀ q : Nat, s.heap.size ≤ q → A q := fun q h => by rw [← hAe]; exact Or.inr h
  have hS : va_S A s.heap s.heap [] := va_S.rf
  have hP : va_P (dC, dI) vwCl [(h0, .inr (1, [.ref q0, .ref q1, .ref q2, .int (nI n), .int (nI k), .int d])), (q0, .inl (cA, 3000, .inl T)), (q1, .inl (cB, 40, .inl G)), (q2, .inl (cC, 20, .inl E))] s.heap := hP
  have hinX1 : ∀ w ∈ u_ws RX1 TX1 6, w ∈ wsX1_putScrap := fun w h => List.mem_cons_of_mem _ (inX1 w h)
  have hl := lv_entry ([.ref h0, .int (nI a)]) (n := 3) (Nat.le_of_ble_eq_true rfl)
  rw [lg_entry_eq]
  generalize (lg_sl ([.ref h0, .int (nI a)]) ++ List.replicate (3 - (lg_sl ([.ref h0, .int (nI a)])).length) Slot.unset).toArray = ls at hl ⊢
  have hl : lv_has ls 3 [(0, .ref h0), (1, .int (nI a))] := hl
  refine tl_q (fun Q hQ => ?_)
  refine lv_aload_n hx hb dX1_putScrap_0 rfl (lv_at hl 0 rfl) ?_
  refine lv_aload_n hx hb dX1_putScrap_1 rfl (lv_at hl 0 rfl) ?_
  refine va_get (D := (dC, dI)) (ci := 1) (v := .int (nI k)) (C := RX1) (T := TX1) (N := 6) hx hb hts hinX1 hown hK hP 0 rfl rfl 4 (by decide) (hts _ (List.mem_cons_of_mem _ k249)) (fun _ h9 => h9) rfl dX1_putScrap_2 ?_
  have ea5_0 : (nI k).toInt = ((k : Nat) : Int) := (nI_toInt (by omega))
  refine vp_callSi ((va_runV (As := [.int (nI k)]) (rest := []) ⟨hx, hb, hml, hown, hts⟩ (c_M_full l dC dI h0 q0 q1 q2 n k cA cB cC T G T0 G0 hT hG (by omega) hk E d (nI k) (by omega) (by omega)) (cwV 1 hts (gV_ (fun w h => List.mem_cons_of_mem _ h) k299 k301 k14 k22 k302) rfl rfl rfl (by decide +kernel) ⟨Nat.le_of_ble_eq_true rfl, Nat.le_of_ble_eq_true rfl⟩) ⟨fun a U g mk q => by obtain ⟨q0, qP, qK⟩ := q; exact ⟨q0, qP, va_K.moved (u := U) (U := U.calling g mk a) (Vm.Alike.refl U.vm) qK⟩, va_recv hK hP (ci := 1) (q0 := 0) rfl rfl, fun U hU hW => ⟨rfl, by rw [hU]; exact hP, va_K.moved hW.alike hK⟩⟩ rfl rfl hl.1 rfl (lv_room (Nat.le_of_ble_eq_true rfl)) dX1_putScrap_5 ⟨Nat.le_of_ble_eq_true rfl, Nat.le_of_ble_eq_true rfl⟩).run) (fun r5 w5 => ?_)
  try dsimp only at w5
  refine lv_if_eq (tgt := 14) hx hb dX1_putScrap_8 rfl (fun h8 => ?_) (fun h8 => ?_)
  · skip
    have h8 := (tl_b0 w5).mp h8
    refine lv_aload_n hx hb dX1_putScrap_14 rfl (lv_at hl 0 rfl) ?_
    refine lv_iload_n hx hb dX1_putScrap_15 rfl (lv_at hl 1 rfl) ?_
    refine lv_aload_n hx hb dX1_putScrap_16 rfl (lv_at hl 0 rfl) ?_
    refine va_get (D := (dC, dI)) (ci := 1) (v := .int (nI k)) (C := RX1) (T := TX1) (N := 6) hx hb hts hinX1 hown hK hP 0 rfl rfl 4 (by decide) (hts _ (List.mem_cons_of_mem _ k249)) (fun _ h9 => h9) rfl dX1_putScrap_17 ?_
    have hPc := hP.sub (ws' := [(h0, .inr (1, [.ref q0, .ref q1, .ref q2, .int (nI n), .int (nI k), .int d])), (q0, .inl (cA, 3000, .inl T)), (q1, .inl (cB, 40, .inl G)), (q2, .inl (cC, 20, .inl E))]) [0, 1, 2, 3] rfl
    have hDc := hD.sub (ws' := [(h0, .inr (1, [.ref q0, .ref q1, .ref q2, .int (nI n), .int (nI k), .int d])), (q0, .inl (cA, 3000, .inl T)), (q1, .inl (cB, 40, .inl G)), (q2, .inl (cC, 20, .inl E))]) [0, 1, 2, 3] (by decide) rfl
    have hKc := hK
    have hFc := va_free (wc := [(h0, .inr (1, [.ref q0, .ref q1, .ref q2, .int (nI n), .int (nI k), .int d])), (q0, .inl (cA, 3000, .inl T)), (q1, .inl (cB, 40, .inl G)), (q2, .inl (cC, 20, .inl E))]) hD hS hA [0, 1, 2, 3] rfl
    refine va_callv (va_runV (As := [.int (nI a), .int (nI k)]) (rest := []) ⟨hx, hb, hml, hown, hts⟩ (c_M_open l dC dI h0 q0 q1 q2 s.heap.size n k cA cB cC T G T0 G0 hT hG (by omega) hk E d a k (by omega) (by omega)) (cwV 2 hts (gV_ (fun w h => List.mem_cons_of_mem _ h) k303 k305 k15 k22 k306) rfl rfl rfl (by decide +kernel) ⟨Nat.le_of_ble_eq_true rfl, Nat.le_of_ble_eq_true rfl⟩) ⟨fun a U g mk q => by obtain ⟨q0, q1, qP, qK, qD⟩ := q; exact ⟨q0, q1, qP, va_K.moved (u := U) (U := U.calling g mk a) (Vm.Alike.refl U.vm) qK, qD⟩, va_recv hKc hPc (ci := 1) (q0 := 0) rfl rfl, fun U hU hW => ⟨rfl, by rw [hU], by rw [hU]; exact hPc, va_K.moved hW.alike hKc, hDc.weaken (fun _ _ _ _ => trivial)⟩⟩ rfl rfl hl.1 rfl (lv_room (Nat.le_of_ble_eq_true rfl)) dX1_putScrap_20 ⟨Nat.le_of_ble_eq_true rfl, Nat.le_of_ble_eq_true rfl⟩) hS (fun q _ h => hFc q h) hFc (fun u20 t H locs ht hvm w20 hB hz1 hk1 hS => ?_)
    try dsimp only at w20
    obtain ⟨F2, rfl, hO1, hO2⟩ := w20
    obtain ⟨hP1, hK1, hD1⟩ := hB
    rw [ht] at hP1
    obtain ⟨hP, hD⟩ := va_join (wr := []) (w1 := [(h0, .inr (1, [.ref q0, .ref q1, .ref q2, .int (nI (n + k)), .int (nI k), .int d])), (q0, .inl (cA, 3000, .inl F2)), (q1, .inl (cB, 40, .inl G)), (q2, .inl (cC, 20, .inl E))]) hP hD [0, 1, 2, 3] [] rfl rfl (by decide) (by decide) hk1 hFc hP1 hD1
    have hP : va_P (dC, dI) vwCl [(h0, .inr (1, [.ref q0, .ref q1, .ref q2, .int (nI (n + k)), .int (nI k), .int d])), (q0, .inl (cA, 3000, .inl F2)), (q1, .inl (cB, 40, .inl G)), (q2, .inl (cC, 20, .inl E))] H := hP
    have hD : va_D A [(h0, .inr (1, [.ref q0, .ref q1, .ref q2, .int (nI (n + k)), .int (nI k), .int d])), (q0, .inl (cA, 3000, .inl F2)), (q1, .inl (cB, 40, .inl G)), (q2, .inl (cC, 20, .inl E))] := hD
    refine lv_iconst (v := nI 0) hx hb dX1_putScrap_23 (by decide) ?_
    refine lv_istore_n (lv' := [(2, .int (nI 0)), (0, .ref h0), (1, .int (nI a))]) hx hb dX1_putScrap_24 rfl hl (by decide) rfl (fun ls hl => ?_)
    have LP25 : ∀ (fu : Nat) (j : Nat) (F : Nat → Int32) (H : Heap) (locs : List Loc) (ls : Array Slot), k - j < fu → j ≤ k → (∀ i, i < n + k → (i < a + j ∨ a + k ≤ i) → F i = tl_rep T0 a a G0 k i) → lv_has ls 3 [(0, .ref h0), (1, .int (nI a)), (2, .int (nI j))] → va_P (dC, dI) vwCl [(h0, .inr (1, [.ref q0, .ref q1, .ref q2, .int (nI (n + k)), .int (nI k), .int d])), (q0, .inl (cA, 3000, .inl F)), (q1, .inl (cB, 40, .inl G)), (q2, .inl (cC, 20, .inl E))] H → va_D A [(h0, .inr (1, [.ref q0, .ref q1, .ref q2, .int (nI (n + k)), .int (nI k), .int d])), (q0, .inl (cA, 3000, .inl F)), (q1, .inl (cB, 40, .inl G)), (q2, .inl (cC, 20, .inl E))] → va_S A s.heap H locs → W p l e (headSpec wsX1_putScrap ({ frames := 1, cells := 0, slots := 0, locals := 23 } : Room)).room s m ([.ref h0, .int (nI a)] : List Value).toArray below meth c H locs 0 0 Q (F0 m 25 ls []) := by
      intro fu
      induction fu with
      | zero => intro j F H locs ls hfu; exact absurd hfu (Nat.not_lt_zero _)
      | succ fu ih =>
        intro j F H locs ls hfu hj hF hl hP hD hS
        refine lv_iload_n hx hb dX1_putScrap_25 rfl (lv_at hl 2 rfl) ?_
        refine lv_aload_n hx hb dX1_putScrap_26 rfl (lv_at hl 0 rfl) ?_
        refine va_get (D := (dC, dI)) (ci := 1) (v := .int (nI k)) (C := RX1) (T := TX1) (N := 6) hx hb hts hinX1 hown hK hP 0 rfl rfl 4 (by decide) (hts _ (List.mem_cons_of_mem _ k249)) (fun _ h9 => h9) rfl dX1_putScrap_27 ?_
        refine lv_icmp_ge (tgt := 53) hx hb dX1_putScrap_30 rfl (fun h30 => ?_) (fun h30 => ?_)
        · skip
          have h30 := (tl_le (show (nI k).toInt = ((k : Nat) : Int) from (nI_toInt (by omega))) (show (nI j).toInt = ((j : Nat) : Int) from (nI_toInt (by omega)))).mp h30
          refine lv_aload_n hx hb dX1_putScrap_53 rfl (lv_at hl 0 rfl) ?_
          refine va_get (D := (dC, dI)) (ci := 1) (v := .int (nI (n + k))) (C := RX1) (T := TX1) (N := 6) hx hb hts hinX1 hown hK hP 0 rfl rfl 3 (by decide) (hts _ (List.mem_cons_of_mem _ k248)) (fun _ h9 => h9) rfl dX1_putScrap_54 ?_
          subst hQ
          exact W.iret (v := nI (n + k)) hx hb hr (fun t ht hW => ⟨⟨nI (n + k), ((n + k, F, k, G), E, d), rfl, (by unfold sp_put; rw [if_pos (by omega), Nat.sub_self, Nat.sub_zero]; exact ⟨rfl, tE_mk (fun i hi => hF i hi (by omega)) hG (by omega) hk⟩), by rw [ht]; exact hP, va_K.moved hW.alike hK, hD⟩, hS.F ht⟩) hS.2.2 dX1_putScrap_57
        · skip
          have h30 := (not_congr (tl_le (show (nI k).toInt = ((k : Nat) : Int) from (nI_toInt (by omega))) (show (nI j).toInt = ((j : Nat) : Int) from (nI_toInt (by omega))))).mp h30
          refine lv_aload_n hx hb dX1_putScrap_33 rfl (lv_at hl 0 rfl) ?_
          refine va_get (D := (dC, dI)) (ci := 1) (v := .ref q0) (C := RX1) (T := TX1) (N := 6) hx hb hts hinX1 hown hK hP 0 rfl rfl 0 (by decide) (hts _ (List.mem_cons_of_mem _ k245)) (fun _ h9 => h9) rfl dX1_putScrap_34 ?_
          refine lv_iload_n hx hb dX1_putScrap_37 rfl (lv_at hl 1 rfl) ?_
          refine lv_iload_n hx hb dX1_putScrap_38 rfl (lv_at hl 2 rfl) ?_
          refine lv_iadd hx hb dX1_putScrap_39 ?_
          refine tl_top (nI_add _ _) ?_
          refine lv_aload_n hx hb dX1_putScrap_40 rfl (lv_at hl 0 rfl) ?_
          refine va_get (D := (dC, dI)) (ci := 1) (v := .ref q1) (C := RX1) (T := TX1) (N := 6) hx hb hts hinX1 hown hK hP 0 rfl rfl 1 (by decide) (hts _ (List.mem_cons_of_mem _ k246)) (fun _ h9 => h9) rfl dX1_putScrap_41 ?_
          refine lv_iload_n hx hb dX1_putScrap_44 rfl (lv_at hl 2 rfl) ?_
          refine tl_iald (v := G0 j) hx hb hK hP 2 1 rfl rfl (by omega) (by decide) (hG _ (by omega)) dX1_putScrap_45 ?_
          refine tl_iast hx hb hK hP hD hS 1 0 rfl rfl (by omega) (by decide) dX1_putScrap_46 (fun H locs hP hD hS => ?_)
          have hP : va_P (dC, dI) vwCl [(h0, .inr (1, [.ref q0, .ref q1, .ref q2, .int (nI (n + k)), .int (nI k), .int d])), (q0, .inl (cA, 3000, .inl (upd F (a + j) (G0 j)))), (q1, .inl (cB, 40, .inl G)), (q2, .inl (cC, 20, .inl E))] H := hP
          have hD : va_D A [(h0, .inr (1, [.ref q0, .ref q1, .ref q2, .int (nI (n + k)), .int (nI k), .int d])), (q0, .inl (cA, 3000, .inl (upd F (a + j) (G0 j)))), (q1, .inl (cB, 40, .inl G)), (q2, .inl (cC, 20, .inl E))] := hD
          refine lv_iinc (lv' := [(2, .int (nI (j + 1))), (0, .ref h0), (1, .int (nI a))]) (k := 2) (v := nI (j + 1)) hx hb dX1_putScrap_47 hl rfl (tl_inc1 _) (by decide) rfl (fun ls hl => ?_)
          refine lv_goto (tgt := 25) hx hb dX1_putScrap_50 rfl ?_
          exact ih (j + 1) (upd F (a + j) (G0 j)) _ _ ls (by omega) (by omega) (pm_puts (by omega) hF) (lv_sub hl [1, 2, 0] rfl) hP hD hS
    exact LP25 _ 0 F2 _ _ ls (Nat.lt_succ_self _) (by omega) (pm_put0 hT han hO1 hO2) (lv_sub hl [1, 2, 0] rfl) hP hD hS
  · skip
    have h8 := (tl_b1 w5).mp h8
    refine lv_bipush (v := (-3 : Int32)) hx hb dX1_putScrap_11 (by decide) ?_
    subst hQ
    exact W.iret (v := (-3 : Int32)) hx hb hr (fun t ht hW => ⟨⟨(-3 : Int32), ((n, T, k, G), E, d), rfl, (by unfold sp_put; rw [if_neg (by omega)]; exact ⟨rfl, tE_mk hT hG hn hk⟩), by rw [ht]; exact hP, va_K.moved hW.alike hK, hD⟩, hS.F ht⟩) hS.2.2 dX1_putScrap_13
