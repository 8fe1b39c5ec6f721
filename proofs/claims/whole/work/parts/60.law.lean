set_option maxHeartbeats 40000000 in
set_option maxRecDepth 100000 in
/-- the law's walk -/
theorem whole_start {p : Program} {e : Env} {s : State} {m : MethodId} {below : List Frame} {meth : Method} {c : Code} (l : Launch) {b L : Nat} {xs : Nat → Int32} (hL : L ≤ 2560) (C0 : lw_At p s m meth c b L xs) : W p l e room_1 s m #[Value.ref b] below meth c s.heap [] 0 0 (lw_Z below #[Value.ref b] s) (entryFrame m ([Value.ref b] : List Value).toArray 4) := by
  obtain ⟨hx, hb, hr, hml, hown, hts0, hX, hbl, hlocks, hgv⟩ := C0
  have hown : s.vm.findClass RL = some m.cls := hown
  have hts : ∀ w ∈ wA, w.before #[Value.ref b] s = true := fun w h => hts0 w (wA_in w h)
  obtain ⟨c0, i0, hk0⟩ := u_known (C := RX0) (T := TX0) (N := 4) (n := 4) hts inX0 (hts _ k30)
  obtain ⟨c1, i1, hk1⟩ := u_known (C := RX1) (T := TX1) (N := 6) (n := 6) hts inX1 (hts _ k240)
  obtain ⟨dC, dI, hK⟩ : ∃ (dC : Nat → ClassId) (dI : Nat → Nat → Nat), va_K (dC, dI) vwCl [] s := by
    refine ⟨fun k => if k = 0 then c0 else c1, fun k => if k = 0 then i0 else i1, ?_, ?_⟩
    · intro q r h
      rcases q with _ | _ | q
      · have h : some (RX0, TX0, 4) = some r := h
        cases h
        exact hk0
      · have h : some (RX1, TX1, 6) = some r := h
        cases h
        exact hk1
      · have h : (none : Option vw_C) = some r := h
        cases h
    · intro q r h
      have h : (none : Option (ClassId × FieldType)) = some r := h
      cases h
  obtain ⟨A, hAd⟩ : ∃ A : Nat → Prop, A = fun q => s.heap.size ≤ q := ⟨_, rfl⟩
  have hA : ∀ q : Nat, s.heap.size ≤ q → A q := fun q h => by rw [hAd]; exact h
  have hAn : ∀ a : Nat, a < s.heap.size → ¬ A a := fun a h => by rw [hAd]; exact Nat.not_le.mpr h
  have hbA : ¬ A b := hAn b hbl
  have hS : va_S A s.heap s.heap [] := va_S.rf
  have hP : va_P (dC, dI) vwCl [] s.heap := fun k q h => by
    have h : (none : Option (Nat × va_E)) = some q := h
    cases h
  have hD : va_D A ([] : va_W) := by
    refine ⟨fun i j p q h => ?_, fun k q h => ?_⟩
    · have h : (none : Option (Nat × va_E)) = some p := h
      cases h
    · have h : (none : Option (Nat × va_E)) = some q := h
      cases h
  have hs := flat_of_before _ hgv
  have hCS := va_Zof (A := A) (hts0 _ k106) (hts _ k25) (va_eqt (hs (Cond.eq (.static "java/lang/String" "COMPACT_STRINGS" "Z") (.int 1)) (by decide +kernel))) hAn
  have hSI := va_Zqof (A := A) (hts0 _ k122) (hts _ k27) (hs (Cond.isRef (.static "jdk/internal/util/Preconditions" "SIOOBE_FORMATTER" "Ljava/util/function/BiFunction;")) (by decide +kernel)) hAn
  have helYES : ∀ j : Nat, j < 4 → (Term.elem (.static "TextLoomModel" "YES" "[I") (.int (Int32.ofNat j))).eval #[Value.ref b] s none [] s = some (.int (tl_yes j)) := by
    intro j hj
    rcases j with _ | _ | _ | _ | j
    · exact va_eqt (hs (Cond.eq (.elem (.static "TextLoomModel" "YES" "[I") (.int 0)) (.int 116)) (by decide +kernel))
    · exact va_eqt (hs (Cond.eq (.elem (.static "TextLoomModel" "YES" "[I") (.int 1)) (.int 114)) (by decide +kernel))
    · exact va_eqt (hs (Cond.eq (.elem (.static "TextLoomModel" "YES" "[I") (.int 2)) (.int 117)) (by decide +kernel))
    · exact va_eqt (hs (Cond.eq (.elem (.static "TextLoomModel" "YES" "[I") (.int 3)) (.int 101)) (by decide +kernel))
    · omega
  obtain ⟨tY, hYES1, hYES2⟩ := va_Tof (tm := (.static "TextLoomModel" "YES" "[I")) (ty := .int) (N := 4) (f := fun j => .int (tl_yes j)) (A := A) (by decide) (hs (Cond.arrayOf (.static "TextLoomModel" "YES" "[I") .int) (by decide +kernel)) (va_eqt (hs (Cond.eq (.length (.static "TextLoomModel" "YES" "[I")) (.int 4)) (by decide +kernel))) helYES hAn
  have helNO : ∀ j : Nat, j < 5 → (Term.elem (.static "TextLoomModel" "NO" "[I") (.int (Int32.ofNat j))).eval #[Value.ref b] s none [] s = some (.int (tl_no j)) := by
    intro j hj
    rcases j with _ | _ | _ | _ | _ | j
    · exact va_eqt (hs (Cond.eq (.elem (.static "TextLoomModel" "NO" "[I") (.int 0)) (.int 102)) (by decide +kernel))
    · exact va_eqt (hs (Cond.eq (.elem (.static "TextLoomModel" "NO" "[I") (.int 1)) (.int 97)) (by decide +kernel))
    · exact va_eqt (hs (Cond.eq (.elem (.static "TextLoomModel" "NO" "[I") (.int 2)) (.int 108)) (by decide +kernel))
    · exact va_eqt (hs (Cond.eq (.elem (.static "TextLoomModel" "NO" "[I") (.int 3)) (.int 115)) (by decide +kernel))
    · exact va_eqt (hs (Cond.eq (.elem (.static "TextLoomModel" "NO" "[I") (.int 4)) (.int 101)) (by decide +kernel))
    · omega
  obtain ⟨tN, hNO1, hNO2⟩ := va_Tof (tm := (.static "TextLoomModel" "NO" "[I")) (ty := .int) (N := 5) (f := fun j => .int (tl_no j)) (A := A) (by decide) (hs (Cond.arrayOf (.static "TextLoomModel" "NO" "[I") .int) (by decide +kernel)) (va_eqt (hs (Cond.eq (.length (.static "TextLoomModel" "NO" "[I")) (.int 5)) (by decide +kernel))) helNO hAn
  have hM : mK tY tN A s s.heap := ⟨va_Zref (hts0 _ k312) (hts _ k22) hYES1 hAn, hYES2, va_Zref (hts0 _ k314) (hts _ k22) hNO1 hAn, hNO2⟩
  have hcaF : ∀ j : Nat, j < 5 → (Cond.eq (.elem (.field (.string "TextLoom" 31) "java/lang/String" "value" "[B") (.int (Int32.ofNat j))) (.int (tl_no j))).before #[Value.ref b] s = true := by
    intro j hj
    rcases j with _ | _ | _ | _ | _ | j
    · exact hs (Cond.eq (.elem (.field (.string "TextLoom" 31) "java/lang/String" "value" "[B") (.int 0)) (.int 102)) (by decide +kernel)
    · exact hs (Cond.eq (.elem (.field (.string "TextLoom" 31) "java/lang/String" "value" "[B") (.int 1)) (.int 97)) (by decide +kernel)
    · exact hs (Cond.eq (.elem (.field (.string "TextLoom" 31) "java/lang/String" "value" "[B") (.int 2)) (.int 108)) (by decide +kernel)
    · exact hs (Cond.eq (.elem (.field (.string "TextLoom" 31) "java/lang/String" "value" "[B") (.int 3)) (.int 115)) (by decide +kernel)
    · exact hs (Cond.eq (.elem (.field (.string "TextLoom" 31) "java/lang/String" "value" "[B") (.int 4)) (.int 101)) (by decide +kernel)
    · omega
  obtain ⟨aF, vF, hEaF, hKF⟩ := tl_str (A := A) hAn hCS hSI 31 5 tl_no (by decide) (hs (Cond.exactly (.string "TextLoom" 31) "java/lang/String") (by decide +kernel)) (hs (Cond.eq (.field (.string "TextLoom" 31) "java/lang/String" "coder" "B") (.int 0)) (by decide +kernel)) (hs (Cond.arrayOf (.field (.string "TextLoom" 31) "java/lang/String" "value" "[B") .byte) (by decide +kernel)) (hs (Cond.eq (.length (.field (.string "TextLoom" 31) "java/lang/String" "value" "[B")) (.int 5)) (by decide +kernel)) hcaF
  have hcaT : ∀ j : Nat, j < 4 → (Cond.eq (.elem (.field (.string "TextLoom" 33) "java/lang/String" "value" "[B") (.int (Int32.ofNat j))) (.int (tl_yes j))).before #[Value.ref b] s = true := by
    intro j hj
    rcases j with _ | _ | _ | _ | j
    · exact hs (Cond.eq (.elem (.field (.string "TextLoom" 33) "java/lang/String" "value" "[B") (.int 0)) (.int 116)) (by decide +kernel)
    · exact hs (Cond.eq (.elem (.field (.string "TextLoom" 33) "java/lang/String" "value" "[B") (.int 1)) (.int 114)) (by decide +kernel)
    · exact hs (Cond.eq (.elem (.field (.string "TextLoom" 33) "java/lang/String" "value" "[B") (.int 2)) (.int 117)) (by decide +kernel)
    · exact hs (Cond.eq (.elem (.field (.string "TextLoom" 33) "java/lang/String" "value" "[B") (.int 3)) (.int 101)) (by decide +kernel)
    · omega
  obtain ⟨aT, vT, hEaT, hKT⟩ := tl_str (A := A) hAn hCS hSI 33 4 tl_yes (by decide) (hs (Cond.exactly (.string "TextLoom" 33) "java/lang/String") (by decide +kernel)) (hs (Cond.eq (.field (.string "TextLoom" 33) "java/lang/String" "coder" "B") (.int 0)) (by decide +kernel)) (hs (Cond.arrayOf (.field (.string "TextLoom" 33) "java/lang/String" "value" "[B") .byte) (by decide +kernel)) (hs (Cond.eq (.length (.field (.string "TextLoom" 33) "java/lang/String" "value" "[B")) (.int 4)) (by decide +kernel)) hcaT
  have hR : vk_R RX0 31 "false" aF s ∧ vk_R RX0 33 "true" aT s := ⟨vk_R.of (hts0 _ k91) hEaF, vk_R.of (hts0 _ k92) hEaT⟩
  have hl := lv_entry ([.ref b]) (n := 4) (Nat.le_of_ble_eq_true rfl)
  rw [lg_entry_eq]
  generalize (lg_sl ([.ref b]) ++ List.replicate (4 - (lg_sl ([.ref b])).length) Slot.unset).toArray = ls at hl ⊢
  have hl : lv_has ls 4 [(0, .ref b)] := hl
  refine va_new (ci := 0) (fs := [.null, .null, .int 0, .int 0]) (C := RX0) (T := TX0) (N := 4) hx hb hts inX0 tyX0 tyX0_ok hown (hts _ k29) (hts _ k30) (hts _ k21) hK hP hD hS hA rfl (fun j hj => by rcases j with _ | _ | _ | _ | j <;> first | rfl | omega) (Nat.le_of_ble_eq_true rfl) (Nat.le_of_ble_eq_true rfl) dL_law_0 (fun x0 H hP hD hS => ?_)
  have hP : va_P (dC, dI) vwCl [(x0, .inr (0, [.null, .null, .int 0, .int 0]))] H := hP
  have hD : va_D A [(x0, .inr (0, [.null, .null, .int 0, .int 0]))] := hD
  refine W.widen (k := 1) (n := 4) (by omega) (by omega) ?_
  refine lv_dup hx hb dL_law_3 rfl ?_
  have hPc := hP.sub (ws' := [(x0, .inr (0, [.null, .null, .int 0, .int 0]))]) [0] rfl
  have hDc := hD.sub (ws' := [(x0, .inr (0, [.null, .null, .int 0, .int 0]))]) [0] (by decide) rfl
  have hKc := hK.sub (tys' := []) [] rfl
  have hFc := va_free (wc := [(x0, .inr (0, [.null, .null, .int 0, .int 0]))]) hD hS hA [0] rfl
  refine va_callv (va_runI (As := []) (rest := [.ref x0]) ⟨hx, hb, hml, hown, hts⟩ (c_X_init l dC dI x0 H.size) (cwI 0 hts (gA_ (fun w h => h) k33) rfl rfl rfl (hts _ k21) (hts _ k31) (hts _ k32) rfl (by decide +kernel) ⟨Nat.le_of_ble_eq_true rfl, Nat.le_of_ble_eq_true rfl⟩) ⟨fun a U g mk q => by obtain ⟨q0, q1, qP, qK, qD⟩ := q; exact ⟨q0, q1, qP, va_K.moved (u := U) (U := U.calling g mk a) (Vm.Alike.refl U.vm) qK, qD⟩, fun U hU hW => ⟨rfl, by rw [hU], by rw [hU]; exact hPc, va_K.moved hW.alike hKc, hDc.weaken (fun _ _ _ _ => trivial)⟩⟩ rfl rfl hl.1 rfl (lv_room (Nat.le_of_ble_eq_true rfl)) dL_law_4 ⟨Nat.le_of_ble_eq_true rfl, Nat.le_of_ble_eq_true rfl⟩) hS (fun q _ h => hFc q h) hFc (fun u t H locs ht hvm hw hB hz1 hk1 hS => ?_)
  try dsimp only at hw
  subst hw
  obtain ⟨x1, x2, cA, cB, hP1, hK1, hD1⟩ := hB
  rw [ht] at hP1
  have hK1 := va_K.moved hvm.symm hK1
  obtain ⟨hP, hD⟩ := va_join (wr := []) (w1 := [(x0, .inr (0, [.ref x1, .ref x2, .int (nI 0), .int (nI 0)])), (x1, .inl (cA, 3000, .inl ((fun _ => 0)))), (x2, .inl (cB, 40, .inl ((fun _ => 0))))]) hP hD [0] [] rfl rfl (by decide) (by decide) hk1 hFc hP1 hD1
  have hP : va_P (dC, dI) vwCl [(x0, .inr (0, [.ref x1, .ref x2, .int (nI 0), .int (nI 0)])), (x1, .inl (cA, 3000, .inl ((fun _ => 0)))), (x2, .inl (cB, 40, .inl ((fun _ => 0))))] H := hP
  have hD : va_D A [(x0, .inr (0, [.ref x1, .ref x2, .int (nI 0), .int (nI 0)])), (x1, .inl (cA, 3000, .inl ((fun _ => 0)))), (x2, .inl (cB, 40, .inl ((fun _ => 0))))] := hD
  have hK : va_K (dC, dI) vwCl [(cA, .int), (cB, .int)] s := hK.app hK1
  refine W.widen (k := 3) (n := 3044) (by omega) (by omega) ?_
  refine lv_astore_n (lv' := [(1, .ref x0), (0, .ref b)]) hx hb dL_law_7 rfl hl (by decide) rfl (fun ls hl => ?_)
  refine va_new (ci := 1) (fs := [.null, .null, .null, .int 0, .int 0, .int 0]) (C := RX1) (T := TX1) (N := 6) hx hb hts inX1 tyX1 tyX1_ok hown (hts _ k239) (hts _ k240) (hts _ k22) hK hP hD hS hA rfl (fun j hj => by rcases j with _ | _ | _ | _ | _ | _ | j <;> first | rfl | omega) (Nat.le_of_ble_eq_true rfl) (Nat.le_of_ble_eq_true rfl) dL_law_8 (fun y0 H hP hD hS => ?_)
  have hP : va_P (dC, dI) vwCl [(x0, .inr (0, [.ref x1, .ref x2, .int (nI 0), .int (nI 0)])), (x1, .inl (cA, 3000, .inl ((fun _ => 0)))), (x2, .inl (cB, 40, .inl ((fun _ => 0)))), (y0, .inr (1, [.null, .null, .null, .int 0, .int 0, .int 0]))] H := hP
  have hD : va_D A [(x0, .inr (0, [.ref x1, .ref x2, .int (nI 0), .int (nI 0)])), (x1, .inl (cA, 3000, .inl ((fun _ => 0)))), (x2, .inl (cB, 40, .inl ((fun _ => 0)))), (y0, .inr (1, [.null, .null, .null, .int 0, .int 0, .int 0]))] := hD
  refine W.widen (k := 4) (n := 3050) (by omega) (by omega) ?_
  refine lv_dup hx hb dL_law_11 rfl ?_
  have hPc := hP.sub (ws' := [(y0, .inr (1, [.null, .null, .null, .int 0, .int 0, .int 0]))]) [3] rfl
  have hDc := hD.sub (ws' := [(y0, .inr (1, [.null, .null, .null, .int 0, .int 0, .int 0]))]) [3] (by decide) rfl
  have hKc := hK.sub (tys' := []) [] rfl
  have hFc := va_free (wc := [(y0, .inr (1, [.null, .null, .null, .int 0, .int 0, .int 0]))]) hD hS hA [3] rfl
  refine va_callv (va_runI (As := []) (rest := [.ref y0]) ⟨hx, hb, hml, hown, hts⟩ (c_M_init l dC dI y0 H.size) (cwI 0 hts (gA_ (fun w h => h) k243) rfl rfl rfl (hts _ k22) (hts _ k241) (hts _ k242) rfl (by decide +kernel) ⟨Nat.le_of_ble_eq_true rfl, Nat.le_of_ble_eq_true rfl⟩) ⟨fun a U g mk q => by obtain ⟨q0, q1, qP, qK, qD⟩ := q; exact ⟨q0, q1, qP, va_K.moved (u := U) (U := U.calling g mk a) (Vm.Alike.refl U.vm) qK, qD⟩, fun U hU hW => ⟨rfl, by rw [hU], by rw [hU]; exact hPc, va_K.moved hW.alike hKc, hDc.weaken (fun _ _ _ _ => trivial)⟩⟩ rfl rfl hl.1 rfl (lv_room (Nat.le_of_ble_eq_true rfl)) dL_law_12 ⟨Nat.le_of_ble_eq_true rfl, Nat.le_of_ble_eq_true rfl⟩) hS (fun q _ h => hFc q h) hFc (fun u t H locs ht hvm hw hB hz1 hk1 hS => ?_)
  try dsimp only at hw
  subst hw
  obtain ⟨y1, y2, y3, cC, cD, cE, hP1, hK1, hD1⟩ := hB
  rw [ht] at hP1
  have hK1 := va_K.moved hvm.symm hK1
  obtain ⟨hP, hD⟩ := va_join (wr := [(x0, .inr (0, [.ref x1, .ref x2, .int (nI 0), .int (nI 0)])), (x1, .inl (cA, 3000, .inl ((fun _ => 0)))), (x2, .inl (cB, 40, .inl ((fun _ => 0))))]) (w1 := [(y0, .inr (1, [.ref y1, .ref y2, .ref y3, .int (nI 0), .int (nI 0), .int 0])), (y1, .inl (cC, 3000, .inl ((fun _ => 0)))), (y2, .inl (cD, 40, .inl ((fun _ => 0)))), (y3, .inl (cE, 20, .inl ((fun _ => 0))))]) hP hD [3] [0, 1, 2] rfl rfl (by decide) (by decide) hk1 hFc hP1 hD1
  have hP : va_P (dC, dI) vwCl [(x0, .inr (0, [.ref x1, .ref x2, .int (nI 0), .int (nI 0)])), (x1, .inl (cA, 3000, .inl ((fun _ => 0)))), (x2, .inl (cB, 40, .inl ((fun _ => 0)))), (y0, .inr (1, [.ref y1, .ref y2, .ref y3, .int (nI 0), .int (nI 0), .int 0])), (y1, .inl (cC, 3000, .inl ((fun _ => 0)))), (y2, .inl (cD, 40, .inl ((fun _ => 0)))), (y3, .inl (cE, 20, .inl ((fun _ => 0))))] H := hP
  have hD : va_D A [(x0, .inr (0, [.ref x1, .ref x2, .int (nI 0), .int (nI 0)])), (x1, .inl (cA, 3000, .inl ((fun _ => 0)))), (x2, .inl (cB, 40, .inl ((fun _ => 0)))), (y0, .inr (1, [.ref y1, .ref y2, .ref y3, .int (nI 0), .int (nI 0), .int 0])), (y1, .inl (cC, 3000, .inl ((fun _ => 0)))), (y2, .inl (cD, 40, .inl ((fun _ => 0)))), (y3, .inl (cE, 20, .inl ((fun _ => 0))))] := hD
  have hK : va_K (dC, dI) vwCl [(cA, .int), (cB, .int), (cC, .int), (cD, .int), (cE, .int)] s := hK.app hK1
  refine W.widen (k := 7) (n := 6110) (by omega) (by omega) ?_
  refine lv_astore_n (lv' := [(2, .ref y0), (1, .ref x0), (0, .ref b)]) hx hb dL_law_15 rfl hl (by decide) rfl (fun ls hl => ?_)
  refine lv_iconst (v := nI 0) hx hb dL_law_16 (by decide) ?_
  refine lv_istore_n (lv' := [(3, .int (nI 0)), (2, .ref y0), (1, .ref x0), (0, .ref b)]) hx hb dL_law_17 rfl hl (by decide) rfl (fun ls hl => ?_)
  have LP18 : ∀ (fu : Nat) (i : Nat) (n : Nat) (k : Nat) (T0 : Nat → Int32) (G0 : Nat → Int32) (T : Nat → Int32) (G : Nat → Int32) (T1 : Nat → Int32) (G1 : Nat → Int32) (E : Nat → Int32) (d : Int32) (H : Heap) (locs : List Loc) (ls : Array Slot), L - i < fu → i ≤ L → (∀ j, j < n → T j = T0 j) → (∀ j, j < k → G j = G0 j) → (∀ j, j < n → T1 j = T0 j) → (∀ j, j < k → G1 j = G0 j) → n ≤ 3000 → k ≤ 40 → lv_has ls 4 [(0, .ref b), (1, .ref x0), (2, .ref y0), (3, .int (nI i))] → va_P (dC, dI) vwCl [(x0, .inr (0, [.ref x1, .ref x2, .int (nI n), .int (nI k)])), (x1, .inl (cA, 3000, .inl T)), (x2, .inl (cB, 40, .inl G)), (y0, .inr (1, [.ref y1, .ref y2, .ref y3, .int (nI n), .int (nI k), .int d])), (y1, .inl (cC, 3000, .inl T1)), (y2, .inl (cD, 40, .inl G1)), (y3, .inl (cE, 20, .inl E))] H → va_D A [(x0, .inr (0, [.ref x1, .ref x2, .int (nI n), .int (nI k)])), (x1, .inl (cA, 3000, .inl T)), (x2, .inl (cB, 40, .inl G)), (y0, .inr (1, [.ref y1, .ref y2, .ref y3, .int (nI n), .int (nI k), .int d])), (y1, .inl (cC, 3000, .inl T1)), (y2, .inl (cD, 40, .inl G1)), (y3, .inl (cE, 20, .inl E))] → va_S A s.heap H locs → W p l e room_1 s m #[Value.ref b] below meth c H locs 7 6110 (lw_Z below #[Value.ref b] s) (F0 m 18 ls []) := by
    intro fu
    induction fu with
    | zero => intro i n k T0 G0 T G T1 G1 E d H locs ls hfu; exact absurd hfu (Nat.not_lt_zero _)
    | succ fu ih =>
      intro i n k T0 G0 T G T1 G1 E d H locs ls hfu hi hT hG hT1 hG1 hn hk hl hP hD hS
      refine lv_iload_n hx hb dL_law_18 rfl (lv_at hl 3 rfl) ?_
      refine lv_aload_n hx hb dL_law_19 rfl (lv_at hl 0 rfl) ?_
      refine va_slen hx hb hX hbl hbA hS dL_law_20 ?_
      refine tl_top (show Int32.ofNat L = nI L from rfl) ?_
      refine lv_iconst (v := nI 5) hx hb dL_law_21 (by decide) ?_
      refine lv_isub hx hb dL_law_22 ?_
      have e22 : ((nI L) - (nI 5)).toInt = ((L : Nat) : Int) - ((5 : Int)) := tl_subv (nI_toInt (by omega)) (by decide) (by omega) (by omega)
      refine lv_icmp_gt (tgt := 628) hx hb dL_law_23 rfl (fun h23 => ?_) (fun h23 => ?_)
      · skip
        have h23 := (tl_lt (show ((nI L) - (nI 5)).toInt = (((L : Nat) : Int) - ((5 : Int))) from e22) (show (nI i).toInt = ((i : Nat) : Int) from (nI_toInt (by omega)))).mp h23
        refine lv_iconst (v := nI 1) hx hb dL_law_628 (by decide) ?_
        refine tl_top (show nI 1 = 1 by decide) ?_
        refine va_forget (fun q hq => by have h9 := hS.2.2 q hq; rw [hAd] at h9; exact h9) ?_
        exact lw_ret hx hb hr hlocks dL_law_629
      · skip
        have h23 := (not_congr (tl_lt (show ((nI L) - (nI 5)).toInt = (((L : Nat) : Int) - ((5 : Int))) from e22) (show (nI i).toInt = ((i : Nat) : Int) from (nI_toInt (by omega))))).mp h23
        refine lv_aload_n hx hb dL_law_26 rfl (lv_at hl 0 rfl) ?_
        refine lv_iload_n hx hb dL_law_27 rfl (lv_at hl 3 rfl) ?_
        refine va_sld hx hb hX hbl hbA hS (vp_in_nI (show i < L by omega) (by omega)) dL_law_28 ?_
        refine tl_top (show xs (nI i).toNatClampNeg = xs i by rw [nI_clamp (by omega)]) ?_
        refine lv_bipush (v := nI 15) hx hb dL_law_29 (by decide) ?_
        refine lv_iand hx hb dL_law_31 ?_
        obtain ⟨wj, hwj, ewj⟩ := pk_andE (xs i) (m := nI 15) 4 (by decide)
        refine tl_top (y := nI wj) (ewj) ?_
        have sw32 : (nI wj).toInt = ((wj : Nat) : Int) := (nI_toInt (by omega))
        by_cases hs32_0 : ((wj : Nat) : Int) = 0
        · skip
          refine lv_tableIn (off := 80) (tgt := 112) hx hb dL_law_32 (by omega) (by omega) (by rw [sw32, hs32_0]; first | done | rfl) rfl ?_
          refine lv_aload_n hx hb dL_law_112 rfl (lv_at hl 1 rfl) ?_
          refine lv_aload_n hx hb dL_law_113 rfl (lv_at hl 0 rfl) ?_
          refine lv_iload_n hx hb dL_law_114 rfl (lv_at hl 3 rfl) ?_
          refine lv_iconst (v := nI 1) hx hb dL_law_115 (by decide) ?_
          refine lv_iadd hx hb dL_law_116 ?_
          refine tl_top (nI_add _ _) ?_
          refine va_sld hx hb hX hbl hbA hS (vp_in_nI (show i + 1 < L by omega) (by omega)) dL_law_117 ?_
          refine tl_top (show xs (nI (i + 1)).toNatClampNeg = xs (i + 1) by rw [nI_clamp (by omega)]) ?_
          have hPc := hP.sub (ws' := [(x0, .inr (0, [.ref x1, .ref x2, .int (nI n), .int (nI k)])), (x1, .inl (cA, 3000, .inl T)), (x2, .inl (cB, 40, .inl G))]) [0, 1, 2] rfl
          have hDc := hD.sub (ws' := [(x0, .inr (0, [.ref x1, .ref x2, .int (nI n), .int (nI k)])), (x1, .inl (cA, 3000, .inl T)), (x2, .inl (cB, 40, .inl G))]) [0, 1, 2] (by decide) rfl
          have hKc := hK.sub (tys' := [(cA, .int), (cB, .int)]) [0, 1] rfl
          have hFc := va_free (wc := [(x0, .inr (0, [.ref x1, .ref x2, .int (nI n), .int (nI k)])), (x1, .inl (cA, 3000, .inl T)), (x2, .inl (cB, 40, .inl G))]) hD hS hA [0, 1, 2] rfl
          refine va_calli (va_runV (As := [.int (xs (i + 1))]) (rest := []) ⟨hx, hb, hml, hown, hts⟩ (c_X_note l dC dI x0 x1 x2 H.size n k cA cB T G T0 G0 hT hG hn hk (xs (i + 1))) (cwV 1 hts (gV_ (fun w h => h) k51 k52 k53 k21 k54) rfl rfl rfl (by decide +kernel) ⟨Nat.le_of_ble_eq_true rfl, Nat.le_of_ble_eq_true rfl⟩) ⟨fun a U g mk q => by obtain ⟨q0, q1, qP, qK, qD⟩ := q; exact ⟨q0, q1, qP, va_K.moved (u := U) (U := U.calling g mk a) (Vm.Alike.refl U.vm) qK, qD⟩, va_recv hKc hPc (ci := 0) (q0 := 0) rfl rfl, fun U hU hW => ⟨rfl, by rw [hU], by rw [hU]; exact hPc, va_K.moved hW.alike hKc, hDc.weaken (fun _ _ _ _ => trivial)⟩⟩ rfl rfl hl.1 rfl (lv_room (Nat.le_of_ble_eq_true rfl)) dL_law_118 ⟨Nat.le_of_ble_eq_true rfl, Nat.le_of_ble_eq_true rfl⟩) hS (fun q _ h => hFc q h) hFc (fun r118 u118 t H locs ht hvm w118 hB hz1 hk1 hS => ?_)
          try dsimp only at w118
          obtain ⟨n2, T2, k2, G2⟩ := u118
          obtain ⟨hP1, hK1, hD1⟩ := hB
          rw [ht] at hP1
          obtain ⟨hP, hD⟩ := va_join (wr := [(y0, .inr (1, [.ref y1, .ref y2, .ref y3, .int (nI n), .int (nI k), .int d])), (y1, .inl (cC, 3000, .inl T1)), (y2, .inl (cD, 40, .inl G1)), (y3, .inl (cE, 20, .inl E))]) (w1 := [(x0, .inr (0, [.ref x1, .ref x2, .int (nI n2), .int (nI k2)])), (x1, .inl (cA, 3000, .inl T2)), (x2, .inl (cB, 40, .inl G2))]) hP hD [0, 1, 2] [3, 4, 5, 6] rfl rfl (by decide) (by decide) hk1 hFc hP1 hD1
          have hP : va_P (dC, dI) vwCl [(y0, .inr (1, [.ref y1, .ref y2, .ref y3, .int (nI n), .int (nI k), .int d])), (y1, .inl (cC, 3000, .inl T1)), (y2, .inl (cD, 40, .inl G1)), (y3, .inl (cE, 20, .inl E)), (x0, .inr (0, [.ref x1, .ref x2, .int (nI n2), .int (nI k2)])), (x1, .inl (cA, 3000, .inl T2)), (x2, .inl (cB, 40, .inl G2))] H := hP
          have hD : va_D A [(y0, .inr (1, [.ref y1, .ref y2, .ref y3, .int (nI n), .int (nI k), .int d])), (y1, .inl (cC, 3000, .inl T1)), (y2, .inl (cD, 40, .inl G1)), (y3, .inl (cE, 20, .inl E)), (x0, .inr (0, [.ref x1, .ref x2, .int (nI n2), .int (nI k2)])), (x1, .inl (cA, 3000, .inl T2)), (x2, .inl (cB, 40, .inl G2))] := hD
          refine lv_aload_n hx hb dL_law_121 rfl (lv_at hl 2 rfl) ?_
          refine lv_aload_n hx hb dL_law_122 rfl (lv_at hl 0 rfl) ?_
          refine lv_iload_n hx hb dL_law_123 rfl (lv_at hl 3 rfl) ?_
          refine lv_iconst (v := nI 1) hx hb dL_law_124 (by decide) ?_
          refine lv_iadd hx hb dL_law_125 ?_
          refine tl_top (nI_add _ _) ?_
          refine va_sld hx hb hX hbl hbA hS (vp_in_nI (show i + 1 < L by omega) (by omega)) dL_law_126 ?_
          refine tl_top (show xs (nI (i + 1)).toNatClampNeg = xs (i + 1) by rw [nI_clamp (by omega)]) ?_
          have hPc := hP.sub (ws' := [(y0, .inr (1, [.ref y1, .ref y2, .ref y3, .int (nI n), .int (nI k), .int d])), (y1, .inl (cC, 3000, .inl T1)), (y2, .inl (cD, 40, .inl G1)), (y3, .inl (cE, 20, .inl E))]) [0, 1, 2, 3] rfl
          have hDc := hD.sub (ws' := [(y0, .inr (1, [.ref y1, .ref y2, .ref y3, .int (nI n), .int (nI k), .int d])), (y1, .inl (cC, 3000, .inl T1)), (y2, .inl (cD, 40, .inl G1)), (y3, .inl (cE, 20, .inl E))]) [0, 1, 2, 3] (by decide) rfl
          have hKc := hK.sub (tys' := [(cC, .int), (cD, .int), (cE, .int)]) [2, 3, 4] rfl
          have hFc := va_free (wc := [(y0, .inr (1, [.ref y1, .ref y2, .ref y3, .int (nI n), .int (nI k), .int d])), (y1, .inl (cC, 3000, .inl T1)), (y2, .inl (cD, 40, .inl G1)), (y3, .inl (cE, 20, .inl E))]) hD hS hA [0, 1, 2, 3] rfl
          refine va_calli (va_runV (As := [.int (xs (i + 1))]) (rest := [.int r118]) ⟨hx, hb, hml, hown, hts⟩ (c_M_note l dC dI y0 y1 y2 y3 H.size n k cC cD cE T1 G1 T0 G0 hT1 hG1 hn hk E d (xs (i + 1))) (cwV 1 hts (gV_ (fun w h => h) k264 k265 k266 k22 k267) rfl rfl rfl (by decide +kernel) ⟨Nat.le_of_ble_eq_true rfl, Nat.le_of_ble_eq_true rfl⟩) ⟨fun a U g mk q => by obtain ⟨q0, q1, qP, qK, qD⟩ := q; exact ⟨q0, q1, qP, va_K.moved (u := U) (U := U.calling g mk a) (Vm.Alike.refl U.vm) qK, qD⟩, va_recv hKc hPc (ci := 1) (q0 := 0) rfl rfl, fun U hU hW => ⟨rfl, by rw [hU], by rw [hU]; exact hPc, va_K.moved hW.alike hKc, hDc.weaken (fun _ _ _ _ => trivial)⟩⟩ rfl rfl hl.1 rfl (lv_room (Nat.le_of_ble_eq_true rfl)) dL_law_127 ⟨Nat.le_of_ble_eq_true rfl, Nat.le_of_ble_eq_true rfl⟩) hS (fun q _ h => hFc q h) hFc (fun r127 u127 t H locs ht hvm w127 hB hz1 hk1 hS => ?_)
          try dsimp only at w127
          obtain ⟨⟨n3, T3, k3, G3⟩, E3, d3⟩ := u127
          obtain ⟨hP1, hK1, hD1⟩ := hB
          rw [ht] at hP1
          obtain ⟨hP, hD⟩ := va_join (wr := [(x0, .inr (0, [.ref x1, .ref x2, .int (nI n2), .int (nI k2)])), (x1, .inl (cA, 3000, .inl T2)), (x2, .inl (cB, 40, .inl G2))]) (w1 := [(y0, .inr (1, [.ref y1, .ref y2, .ref y3, .int (nI n3), .int (nI k3), .int d3])), (y1, .inl (cC, 3000, .inl T3)), (y2, .inl (cD, 40, .inl G3)), (y3, .inl (cE, 20, .inl E3))]) hP hD [0, 1, 2, 3] [4, 5, 6] rfl rfl (by decide) (by decide) hk1 hFc hP1 hD1
          have hP : va_P (dC, dI) vwCl [(x0, .inr (0, [.ref x1, .ref x2, .int (nI n2), .int (nI k2)])), (x1, .inl (cA, 3000, .inl T2)), (x2, .inl (cB, 40, .inl G2)), (y0, .inr (1, [.ref y1, .ref y2, .ref y3, .int (nI n3), .int (nI k3), .int d3])), (y1, .inl (cC, 3000, .inl T3)), (y2, .inl (cD, 40, .inl G3)), (y3, .inl (cE, 20, .inl E3))] H := hP
          have hD : va_D A [(x0, .inr (0, [.ref x1, .ref x2, .int (nI n2), .int (nI k2)])), (x1, .inl (cA, 3000, .inl T2)), (x2, .inl (cB, 40, .inl G2)), (y0, .inr (1, [.ref y1, .ref y2, .ref y3, .int (nI n3), .int (nI k3), .int d3])), (y1, .inl (cC, 3000, .inl T3)), (y2, .inl (cD, 40, .inl G3)), (y3, .inl (cE, 20, .inl E3))] := hD
          refine lv_icmp_eq (tgt := 622) hx hb dL_law_130 rfl (fun h130 => ?_) (fun h130 => ?_)
          · skip
            have h130 := (tl_eq (show r118.toInt = r118.toInt from rfl) (show r127.toInt = r127.toInt from rfl)).mp h130
            generalize (sp_note (xs (i + 1)) n T0 k G0).2 = v at w118 w127
            obtain ⟨nv, Tv, kv, Gv⟩ := v
            obtain ⟨e1, hT, e3, hG, hn, hk⟩ := w118.2
            obtain ⟨f1, hT1, f3, hG1, -, -⟩ := w127.2
            dsimp only at e1 hT e3 hG hn hk f1 hT1 f3 hG1
            have e1 := e1.symm
            subst e1
            have e3 := e3.symm
            subst e3
            have f1 := f1.symm
            subst f1
            have f3 := f3.symm
            subst f3
            refine lv_iinc (lv' := [(3, .int (nI (i + 5))), (0, .ref b), (1, .ref x0), (2, .ref y0)]) (k := 3) (v := nI (i + 5)) hx hb dL_law_622 hl rfl (by rw [show Int32.ofInt 5 = nI 5 from by decide]; exact nI_add _ _) (by decide) rfl (fun ls hl => ?_)
            refine lv_goto (tgt := 18) hx hb dL_law_625 rfl ?_
            exact ih (i + 5) nv kv Tv Gv T2 G2 T3 G3 E3 d3 _ _ ls (by omega) (by omega) (hT) (hG) (hT1) (hG1) (hn) (hk) (lv_sub hl [1, 2, 3, 0] rfl) hP hD hS
          · skip
            have h130 := (not_congr (tl_eq (show r118.toInt = r118.toInt from rfl) (show r127.toInt = r127.toInt from rfl))).mp h130
            exact absurd (by rw [w118.1, w127.1]) h130
        by_cases hs32_1 : ((wj : Nat) : Int) = 1
        · skip
          refine lv_tableIn (off := 103) (tgt := 135) hx hb dL_law_32 (by omega) (by omega) (by rw [sw32, hs32_1]; first | done | rfl) rfl ?_
          refine lv_aload_n hx hb dL_law_135 rfl (lv_at hl 1 rfl) ?_
          have hPc := hP.sub (ws' := [(x0, .inr (0, [.ref x1, .ref x2, .int (nI n), .int (nI k)])), (x1, .inl (cA, 3000, .inl T)), (x2, .inl (cB, 40, .inl G))]) [0, 1, 2] rfl
          have hDc := hD.sub (ws' := [(x0, .inr (0, [.ref x1, .ref x2, .int (nI n), .int (nI k)])), (x1, .inl (cA, 3000, .inl T)), (x2, .inl (cB, 40, .inl G))]) [0, 1, 2] (by decide) rfl
          have hKc := hK.sub (tys' := [(cA, .int), (cB, .int)]) [0, 1] rfl
          have hFc := va_free (wc := [(x0, .inr (0, [.ref x1, .ref x2, .int (nI n), .int (nI k)])), (x1, .inl (cA, 3000, .inl T)), (x2, .inl (cB, 40, .inl G))]) hD hS hA [0, 1, 2] rfl
          refine va_calli (va_runV (As := []) (rest := []) ⟨hx, hb, hml, hown, hts⟩ (c_X_drop l dC dI x0 x1 x2 H.size n k cA cB T G T0 G0 hT hG hn hk ) (cwV 0 hts (gV_ (fun w h => h) k61 k62 k63 k21 k64) rfl rfl rfl (by decide +kernel) ⟨Nat.le_of_ble_eq_true rfl, Nat.le_of_ble_eq_true rfl⟩) ⟨fun a U g mk q => by obtain ⟨q0, q1, qP, qK, qD⟩ := q; exact ⟨q0, q1, qP, va_K.moved (u := U) (U := U.calling g mk a) (Vm.Alike.refl U.vm) qK, qD⟩, va_recv hKc hPc (ci := 0) (q0 := 0) rfl rfl, fun U hU hW => ⟨rfl, by rw [hU], by rw [hU]; exact hPc, va_K.moved hW.alike hKc, hDc.weaken (fun _ _ _ _ => trivial)⟩⟩ rfl rfl hl.1 rfl (lv_room (Nat.le_of_ble_eq_true rfl)) dL_law_136 ⟨Nat.le_of_ble_eq_true rfl, Nat.le_of_ble_eq_true rfl⟩) hS (fun q _ h => hFc q h) hFc (fun r136 u136 t H locs ht hvm w136 hB hz1 hk1 hS => ?_)
          try dsimp only at w136
          obtain ⟨n2, T2, k2, G2⟩ := u136
          obtain ⟨hP1, hK1, hD1⟩ := hB
          rw [ht] at hP1
          obtain ⟨hP, hD⟩ := va_join (wr := [(y0, .inr (1, [.ref y1, .ref y2, .ref y3, .int (nI n), .int (nI k), .int d])), (y1, .inl (cC, 3000, .inl T1)), (y2, .inl (cD, 40, .inl G1)), (y3, .inl (cE, 20, .inl E))]) (w1 := [(x0, .inr (0, [.ref x1, .ref x2, .int (nI n2), .int (nI k2)])), (x1, .inl (cA, 3000, .inl T2)), (x2, .inl (cB, 40, .inl G2))]) hP hD [0, 1, 2] [3, 4, 5, 6] rfl rfl (by decide) (by decide) hk1 hFc hP1 hD1
          have hP : va_P (dC, dI) vwCl [(y0, .inr (1, [.ref y1, .ref y2, .ref y3, .int (nI n), .int (nI k), .int d])), (y1, .inl (cC, 3000, .inl T1)), (y2, .inl (cD, 40, .inl G1)), (y3, .inl (cE, 20, .inl E)), (x0, .inr (0, [.ref x1, .ref x2, .int (nI n2), .int (nI k2)])), (x1, .inl (cA, 3000, .inl T2)), (x2, .inl (cB, 40, .inl G2))] H := hP
          have hD : va_D A [(y0, .inr (1, [.ref y1, .ref y2, .ref y3, .int (nI n), .int (nI k), .int d])), (y1, .inl (cC, 3000, .inl T1)), (y2, .inl (cD, 40, .inl G1)), (y3, .inl (cE, 20, .inl E)), (x0, .inr (0, [.ref x1, .ref x2, .int (nI n2), .int (nI k2)])), (x1, .inl (cA, 3000, .inl T2)), (x2, .inl (cB, 40, .inl G2))] := hD
          refine lv_aload_n hx hb dL_law_139 rfl (lv_at hl 2 rfl) ?_
          have hPc := hP.sub (ws' := [(y0, .inr (1, [.ref y1, .ref y2, .ref y3, .int (nI n), .int (nI k), .int d])), (y1, .inl (cC, 3000, .inl T1)), (y2, .inl (cD, 40, .inl G1)), (y3, .inl (cE, 20, .inl E))]) [0, 1, 2, 3] rfl
          have hDc := hD.sub (ws' := [(y0, .inr (1, [.ref y1, .ref y2, .ref y3, .int (nI n), .int (nI k), .int d])), (y1, .inl (cC, 3000, .inl T1)), (y2, .inl (cD, 40, .inl G1)), (y3, .inl (cE, 20, .inl E))]) [0, 1, 2, 3] (by decide) rfl
          have hKc := hK.sub (tys' := [(cC, .int), (cD, .int), (cE, .int)]) [2, 3, 4] rfl
          have hFc := va_free (wc := [(y0, .inr (1, [.ref y1, .ref y2, .ref y3, .int (nI n), .int (nI k), .int d])), (y1, .inl (cC, 3000, .inl T1)), (y2, .inl (cD, 40, .inl G1)), (y3, .inl (cE, 20, .inl E))]) hD hS hA [0, 1, 2, 3] rfl
          refine va_calli (va_runV (As := []) (rest := [.int r136]) ⟨hx, hb, hml, hown, hts⟩ (c_M_drop l dC dI y0 y1 y2 y3 H.size n k cC cD cE T1 G1 T0 G0 hT1 hG1 hn hk E d ) (cwV 0 hts (gV_ (fun w h => h) k274 k275 k276 k22 k277) rfl rfl rfl (by decide +kernel) ⟨Nat.le_of_ble_eq_true rfl, Nat.le_of_ble_eq_true rfl⟩) ⟨fun a U g mk q => by obtain ⟨q0, q1, qP, qK, qD⟩ := q; exact ⟨q0, q1, qP, va_K.moved (u := U) (U := U.calling g mk a) (Vm.Alike.refl U.vm) qK, qD⟩, va_recv hKc hPc (ci := 1) (q0 := 0) rfl rfl, fun U hU hW => ⟨rfl, by rw [hU], by rw [hU]; exact hPc, va_K.moved hW.alike hKc, hDc.weaken (fun _ _ _ _ => trivial)⟩⟩ rfl rfl hl.1 rfl (lv_room (Nat.le_of_ble_eq_true rfl)) dL_law_140 ⟨Nat.le_of_ble_eq_true rfl, Nat.le_of_ble_eq_true rfl⟩) hS (fun q _ h => hFc q h) hFc (fun r140 u140 t H locs ht hvm w140 hB hz1 hk1 hS => ?_)
          try dsimp only at w140
          obtain ⟨⟨n3, T3, k3, G3⟩, E3, d3⟩ := u140
          obtain ⟨hP1, hK1, hD1⟩ := hB
          rw [ht] at hP1
          obtain ⟨hP, hD⟩ := va_join (wr := [(x0, .inr (0, [.ref x1, .ref x2, .int (nI n2), .int (nI k2)])), (x1, .inl (cA, 3000, .inl T2)), (x2, .inl (cB, 40, .inl G2))]) (w1 := [(y0, .inr (1, [.ref y1, .ref y2, .ref y3, .int (nI n3), .int (nI k3), .int d3])), (y1, .inl (cC, 3000, .inl T3)), (y2, .inl (cD, 40, .inl G3)), (y3, .inl (cE, 20, .inl E3))]) hP hD [0, 1, 2, 3] [4, 5, 6] rfl rfl (by decide) (by decide) hk1 hFc hP1 hD1
          have hP : va_P (dC, dI) vwCl [(x0, .inr (0, [.ref x1, .ref x2, .int (nI n2), .int (nI k2)])), (x1, .inl (cA, 3000, .inl T2)), (x2, .inl (cB, 40, .inl G2)), (y0, .inr (1, [.ref y1, .ref y2, .ref y3, .int (nI n3), .int (nI k3), .int d3])), (y1, .inl (cC, 3000, .inl T3)), (y2, .inl (cD, 40, .inl G3)), (y3, .inl (cE, 20, .inl E3))] H := hP
          have hD : va_D A [(x0, .inr (0, [.ref x1, .ref x2, .int (nI n2), .int (nI k2)])), (x1, .inl (cA, 3000, .inl T2)), (x2, .inl (cB, 40, .inl G2)), (y0, .inr (1, [.ref y1, .ref y2, .ref y3, .int (nI n3), .int (nI k3), .int d3])), (y1, .inl (cC, 3000, .inl T3)), (y2, .inl (cD, 40, .inl G3)), (y3, .inl (cE, 20, .inl E3))] := hD
          refine lv_icmp_eq (tgt := 622) hx hb dL_law_143 rfl (fun h143 => ?_) (fun h143 => ?_)
          · skip
            have h143 := (tl_eq (show r136.toInt = r136.toInt from rfl) (show r140.toInt = r140.toInt from rfl)).mp h143
            generalize (sp_drop  n T0 k G0).2 = v at w136 w140
            obtain ⟨nv, Tv, kv, Gv⟩ := v
            obtain ⟨e1, hT, e3, hG, hn, hk⟩ := w136.2
            obtain ⟨f1, hT1, f3, hG1, -, -⟩ := w140.2
            dsimp only at e1 hT e3 hG hn hk f1 hT1 f3 hG1
            have e1 := e1.symm
            subst e1
            have e3 := e3.symm
            subst e3
            have f1 := f1.symm
            subst f1
            have f3 := f3.symm
            subst f3
            refine lv_iinc (lv' := [(3, .int (nI (i + 5))), (0, .ref b), (1, .ref x0), (2, .ref y0)]) (k := 3) (v := nI (i + 5)) hx hb dL_law_622 hl rfl (by rw [show Int32.ofInt 5 = nI 5 from by decide]; exact nI_add _ _) (by decide) rfl (fun ls hl => ?_)
            refine lv_goto (tgt := 18) hx hb dL_law_625 rfl ?_
            exact ih (i + 5) nv kv Tv Gv T2 G2 T3 G3 E3 d3 _ _ ls (by omega) (by omega) (hT) (hG) (hT1) (hG1) (hn) (hk) (lv_sub hl [1, 2, 3, 0] rfl) hP hD hS
          · skip
            have h143 := (not_congr (tl_eq (show r136.toInt = r136.toInt from rfl) (show r140.toInt = r140.toInt from rfl))).mp h143
            exact absurd (by rw [w136.1, w140.1]) h143
        by_cases hs32_2 : ((wj : Nat) : Int) = 2
        · skip
          refine lv_tableIn (off := 116) (tgt := 148) hx hb dL_law_32 (by omega) (by omega) (by rw [sw32, hs32_2]; first | done | rfl) rfl ?_
          refine lv_aload_n hx hb dL_law_148 rfl (lv_at hl 1 rfl) ?_
          refine lv_aload_n hx hb dL_law_149 rfl (lv_at hl 0 rfl) ?_
          refine lv_iload_n hx hb dL_law_150 rfl (lv_at hl 3 rfl) ?_
          refine lv_iconst (v := nI 1) hx hb dL_law_151 (by decide) ?_
          refine lv_iadd hx hb dL_law_152 ?_
          refine tl_top (nI_add _ _) ?_
          refine va_sld hx hb hX hbl hbA hS (vp_in_nI (show i + 1 < L by omega) (by omega)) dL_law_153 ?_
          refine tl_top (show xs (nI (i + 1)).toNatClampNeg = xs (i + 1) by rw [nI_clamp (by omega)]) ?_
          refine lv_aload_n hx hb dL_law_154 rfl (lv_at hl 0 rfl) ?_
          refine lv_iload_n hx hb dL_law_155 rfl (lv_at hl 3 rfl) ?_
          refine lv_iconst (v := nI 2) hx hb dL_law_156 (by decide) ?_
          refine lv_iadd hx hb dL_law_157 ?_
          refine tl_top (nI_add _ _) ?_
          refine va_sld hx hb hX hbl hbA hS (vp_in_nI (show i + 2 < L by omega) (by omega)) dL_law_158 ?_
          refine tl_top (show xs (nI (i + 2)).toNatClampNeg = xs (i + 2) by rw [nI_clamp (by omega)]) ?_
          refine lv_i2l hx hb dL_law_159 rfl ?_
          refine lv_bipush (v := nI 32) hx hb dL_law_160 (by decide) ?_
          refine lv_lshl hx hb dL_law_162 rfl ?_
          refine lv_aload_n hx hb dL_law_163 rfl (lv_at hl 0 rfl) ?_
          refine lv_iload_n hx hb dL_law_164 rfl (lv_at hl 3 rfl) ?_
          refine lv_iconst (v := nI 3) hx hb dL_law_165 (by decide) ?_
          refine lv_iadd hx hb dL_law_166 ?_
          refine tl_top (nI_add _ _) ?_
          refine va_sld hx hb hX hbl hbA hS (vp_in_nI (show i + 3 < L by omega) (by omega)) dL_law_167 ?_
          refine tl_top (show xs (nI (i + 3)).toNatClampNeg = xs (i + 3) by rw [nI_clamp (by omega)]) ?_
          refine lv_i2l hx hb dL_law_168 rfl ?_
          refine lv_ldc2 (v := (4294967295 : Int64)) hx hb hown (hts _ k371) dL_law_169 ?_
          refine lv_land hx hb dL_law_172 ?_
          refine lv_lor hx hb dL_law_173 ?_
          have hPc := hP.sub (ws' := [(x0, .inr (0, [.ref x1, .ref x2, .int (nI n), .int (nI k)])), (x1, .inl (cA, 3000, .inl T)), (x2, .inl (cB, 40, .inl G))]) [0, 1, 2] rfl
          have hDc := hD.sub (ws' := [(x0, .inr (0, [.ref x1, .ref x2, .int (nI n), .int (nI k)])), (x1, .inl (cA, 3000, .inl T)), (x2, .inl (cB, 40, .inl G))]) [0, 1, 2] (by decide) rfl
          have hKc := hK.sub (tys' := [(cA, .int), (cB, .int)]) [0, 1] rfl
          have hFc := va_free (wc := [(x0, .inr (0, [.ref x1, .ref x2, .int (nI n), .int (nI k)])), (x1, .inl (cA, 3000, .inl T)), (x2, .inl (cB, 40, .inl G))]) hD hS hA [0, 1, 2] rfl
          refine va_calli (va_runV (As := [.int (xs (i + 1)), .long ((((xs (i + 2)).toInt64) <<< ((nI 32).toInt64 &&& 63)) ||| (((xs (i + 3)).toInt64) &&& ((4294967295 : Int64))))]) (rest := []) ⟨hx, hb, hml, hown, hts⟩ (c_X_add l dC dI x0 x1 x2 H.size n k cA cB T G T0 G0 hT hG hn hk (xs (i + 1)) ((((xs (i + 2)).toInt64) <<< ((nI 32).toInt64 &&& 63)) ||| (((xs (i + 3)).toInt64) &&& ((4294967295 : Int64)))) aF vF aT vT) (cwV 2 hts (gV_ (fun w h => h) k65 k66 k67 k21 k68) rfl rfl rfl (by decide +kernel) ⟨Nat.le_of_ble_eq_true rfl, Nat.le_of_ble_eq_true rfl⟩) ⟨fun a U g mk q => by obtain ⟨q0, q1, qP, qK, qD, qR, qF, qT⟩ := q; exact ⟨q0, q1, qP, va_K.moved (u := U) (U := U.calling g mk a) (Vm.Alike.refl U.vm) qK, qD, ⟨vk_R.same (U := U.calling g mk a) rfl qR.1, vk_R.same (U := U.calling g mk a) rfl qR.2⟩, sK_moved (u := U) (U := U.calling g mk a) (Vm.Alike.refl U.vm) qF, sK_moved (u := U) (U := U.calling g mk a) (Vm.Alike.refl U.vm) qT⟩, va_recv hKc hPc (ci := 0) (q0 := 0) rfl rfl, fun U hU hW => ⟨rfl, by rw [hU], by rw [hU]; exact hPc, va_K.moved hW.alike hKc, hDc.weaken (fun _ _ _ _ => trivial), ⟨vk_R.warm hW hR.1, vk_R.warm hW hR.2⟩, sK_at hKF hS (fun q h => hFc q h) hW.alike hU, sK_at hKT hS (fun q h => hFc q h) hW.alike hU⟩⟩ rfl rfl hl.1 rfl (lv_room (Nat.le_of_ble_eq_true rfl)) dL_law_174 ⟨Nat.le_of_ble_eq_true rfl, Nat.le_of_ble_eq_true rfl⟩) hS (fun q _ h => hFc q h) hFc (fun r174 u174 t H locs ht hvm w174 hB hz1 hk1 hS => ?_)
          try dsimp only at w174
          obtain ⟨n2, T2, k2, G2⟩ := u174
          obtain ⟨hP1, hK1, hD1⟩ := hB
          rw [ht] at hP1
          obtain ⟨hP, hD⟩ := va_join (wr := [(y0, .inr (1, [.ref y1, .ref y2, .ref y3, .int (nI n), .int (nI k), .int d])), (y1, .inl (cC, 3000, .inl T1)), (y2, .inl (cD, 40, .inl G1)), (y3, .inl (cE, 20, .inl E))]) (w1 := [(x0, .inr (0, [.ref x1, .ref x2, .int (nI n2), .int (nI k2)])), (x1, .inl (cA, 3000, .inl T2)), (x2, .inl (cB, 40, .inl G2))]) hP hD [0, 1, 2] [3, 4, 5, 6] rfl rfl (by decide) (by decide) hk1 hFc hP1 hD1
          have hP : va_P (dC, dI) vwCl [(y0, .inr (1, [.ref y1, .ref y2, .ref y3, .int (nI n), .int (nI k), .int d])), (y1, .inl (cC, 3000, .inl T1)), (y2, .inl (cD, 40, .inl G1)), (y3, .inl (cE, 20, .inl E)), (x0, .inr (0, [.ref x1, .ref x2, .int (nI n2), .int (nI k2)])), (x1, .inl (cA, 3000, .inl T2)), (x2, .inl (cB, 40, .inl G2))] H := hP
          have hD : va_D A [(y0, .inr (1, [.ref y1, .ref y2, .ref y3, .int (nI n), .int (nI k), .int d])), (y1, .inl (cC, 3000, .inl T1)), (y2, .inl (cD, 40, .inl G1)), (y3, .inl (cE, 20, .inl E)), (x0, .inr (0, [.ref x1, .ref x2, .int (nI n2), .int (nI k2)])), (x1, .inl (cA, 3000, .inl T2)), (x2, .inl (cB, 40, .inl G2))] := hD
          refine lv_aload_n hx hb dL_law_177 rfl (lv_at hl 2 rfl) ?_
          refine lv_aload_n hx hb dL_law_178 rfl (lv_at hl 0 rfl) ?_
          refine lv_iload_n hx hb dL_law_179 rfl (lv_at hl 3 rfl) ?_
          refine lv_iconst (v := nI 1) hx hb dL_law_180 (by decide) ?_
          refine lv_iadd hx hb dL_law_181 ?_
          refine tl_top (nI_add _ _) ?_
          refine va_sld hx hb hX hbl hbA hS (vp_in_nI (show i + 1 < L by omega) (by omega)) dL_law_182 ?_
          refine tl_top (show xs (nI (i + 1)).toNatClampNeg = xs (i + 1) by rw [nI_clamp (by omega)]) ?_
          refine lv_aload_n hx hb dL_law_183 rfl (lv_at hl 0 rfl) ?_
          refine lv_iload_n hx hb dL_law_184 rfl (lv_at hl 3 rfl) ?_
          refine lv_iconst (v := nI 2) hx hb dL_law_185 (by decide) ?_
          refine lv_iadd hx hb dL_law_186 ?_
          refine tl_top (nI_add _ _) ?_
          refine va_sld hx hb hX hbl hbA hS (vp_in_nI (show i + 2 < L by omega) (by omega)) dL_law_187 ?_
          refine tl_top (show xs (nI (i + 2)).toNatClampNeg = xs (i + 2) by rw [nI_clamp (by omega)]) ?_
          refine lv_i2l hx hb dL_law_188 rfl ?_
          refine lv_bipush (v := nI 32) hx hb dL_law_189 (by decide) ?_
          refine lv_lshl hx hb dL_law_191 rfl ?_
          refine lv_aload_n hx hb dL_law_192 rfl (lv_at hl 0 rfl) ?_
          refine lv_iload_n hx hb dL_law_193 rfl (lv_at hl 3 rfl) ?_
          refine lv_iconst (v := nI 3) hx hb dL_law_194 (by decide) ?_
          refine lv_iadd hx hb dL_law_195 ?_
          refine tl_top (nI_add _ _) ?_
          refine va_sld hx hb hX hbl hbA hS (vp_in_nI (show i + 3 < L by omega) (by omega)) dL_law_196 ?_
          refine tl_top (show xs (nI (i + 3)).toNatClampNeg = xs (i + 3) by rw [nI_clamp (by omega)]) ?_
          refine lv_i2l hx hb dL_law_197 rfl ?_
          refine lv_ldc2 (v := (4294967295 : Int64)) hx hb hown (hts _ k371) dL_law_198 ?_
          refine lv_land hx hb dL_law_201 ?_
          refine lv_lor hx hb dL_law_202 ?_
          have hPc := hP.sub (ws' := [(y0, .inr (1, [.ref y1, .ref y2, .ref y3, .int (nI n), .int (nI k), .int d])), (y1, .inl (cC, 3000, .inl T1)), (y2, .inl (cD, 40, .inl G1)), (y3, .inl (cE, 20, .inl E))]) [0, 1, 2, 3] rfl
          have hDc := hD.sub (ws' := [(y0, .inr (1, [.ref y1, .ref y2, .ref y3, .int (nI n), .int (nI k), .int d])), (y1, .inl (cC, 3000, .inl T1)), (y2, .inl (cD, 40, .inl G1)), (y3, .inl (cE, 20, .inl E))]) [0, 1, 2, 3] (by decide) rfl
          have hKc := hK.sub (tys' := [(cC, .int), (cD, .int), (cE, .int)]) [2, 3, 4] rfl
          have hFc := va_free (wc := [(y0, .inr (1, [.ref y1, .ref y2, .ref y3, .int (nI n), .int (nI k), .int d])), (y1, .inl (cC, 3000, .inl T1)), (y2, .inl (cD, 40, .inl G1)), (y3, .inl (cE, 20, .inl E))]) hD hS hA [0, 1, 2, 3] rfl
          refine va_calli (va_runV (As := [.int (xs (i + 1)), .long ((((xs (i + 2)).toInt64) <<< ((nI 32).toInt64 &&& 63)) ||| (((xs (i + 3)).toInt64) &&& ((4294967295 : Int64))))]) (rest := [.int r174]) ⟨hx, hb, hml, hown, hts⟩ (c_M_add l dC dI y0 y1 y2 y3 H.size n k cC cD cE T1 G1 T0 G0 hT1 hG1 hn hk E d (xs (i + 1)) ((((xs (i + 2)).toInt64) <<< ((nI 32).toInt64 &&& 63)) ||| (((xs (i + 3)).toInt64) &&& ((4294967295 : Int64)))) tY tN) (cwV 2 hts (gV_ (fun w h => h) k286 k287 k288 k22 k289) rfl rfl rfl (by decide +kernel) ⟨Nat.le_of_ble_eq_true rfl, Nat.le_of_ble_eq_true rfl⟩) ⟨fun a U g mk q => by obtain ⟨q0, q1, qP, qK, qD, qM⟩ := q; exact ⟨q0, q1, qP, va_K.moved (u := U) (U := U.calling g mk a) (Vm.Alike.refl U.vm) qK, qD, mK_moved (u := U) (U := U.calling g mk a) (Vm.Alike.refl U.vm) qM⟩, va_recv hKc hPc (ci := 1) (q0 := 0) rfl rfl, fun U hU hW => ⟨rfl, by rw [hU], by rw [hU]; exact hPc, va_K.moved hW.alike hKc, hDc.weaken (fun _ _ _ _ => trivial), mK_at hM hS (fun q h => hFc q h) hW.alike hU⟩⟩ rfl rfl hl.1 rfl (lv_room (Nat.le_of_ble_eq_true rfl)) dL_law_203 ⟨Nat.le_of_ble_eq_true rfl, Nat.le_of_ble_eq_true rfl⟩) hS (fun q _ h => hFc q h) hFc (fun r203 u203 t H locs ht hvm w203 hB hz1 hk1 hS => ?_)
          try dsimp only at w203
          obtain ⟨⟨n3, T3, k3, G3⟩, E3, d3⟩ := u203
          obtain ⟨hP1, hK1, hD1⟩ := hB
          rw [ht] at hP1
          obtain ⟨hP, hD⟩ := va_join (wr := [(x0, .inr (0, [.ref x1, .ref x2, .int (nI n2), .int (nI k2)])), (x1, .inl (cA, 3000, .inl T2)), (x2, .inl (cB, 40, .inl G2))]) (w1 := [(y0, .inr (1, [.ref y1, .ref y2, .ref y3, .int (nI n3), .int (nI k3), .int d3])), (y1, .inl (cC, 3000, .inl T3)), (y2, .inl (cD, 40, .inl G3)), (y3, .inl (cE, 20, .inl E3))]) hP hD [0, 1, 2, 3] [4, 5, 6] rfl rfl (by decide) (by decide) hk1 hFc hP1 hD1
          have hP : va_P (dC, dI) vwCl [(x0, .inr (0, [.ref x1, .ref x2, .int (nI n2), .int (nI k2)])), (x1, .inl (cA, 3000, .inl T2)), (x2, .inl (cB, 40, .inl G2)), (y0, .inr (1, [.ref y1, .ref y2, .ref y3, .int (nI n3), .int (nI k3), .int d3])), (y1, .inl (cC, 3000, .inl T3)), (y2, .inl (cD, 40, .inl G3)), (y3, .inl (cE, 20, .inl E3))] H := hP
          have hD : va_D A [(x0, .inr (0, [.ref x1, .ref x2, .int (nI n2), .int (nI k2)])), (x1, .inl (cA, 3000, .inl T2)), (x2, .inl (cB, 40, .inl G2)), (y0, .inr (1, [.ref y1, .ref y2, .ref y3, .int (nI n3), .int (nI k3), .int d3])), (y1, .inl (cC, 3000, .inl T3)), (y2, .inl (cD, 40, .inl G3)), (y3, .inl (cE, 20, .inl E3))] := hD
          refine lv_icmp_eq (tgt := 622) hx hb dL_law_206 rfl (fun h206 => ?_) (fun h206 => ?_)
          · skip
            have h206 := (tl_eq (show r174.toInt = r174.toInt from rfl) (show r203.toInt = r203.toInt from rfl)).mp h206
            generalize (sp_add (xs (i + 1)) ((((xs (i + 2)).toInt64) <<< ((nI 32).toInt64 &&& 63)) ||| (((xs (i + 3)).toInt64) &&& ((4294967295 : Int64)))) n T0 k G0).2 = v at w174 w203
            obtain ⟨nv, Tv, kv, Gv⟩ := v
            obtain ⟨e1, hT, e3, hG, hn, hk⟩ := w174.2
            obtain ⟨f1, hT1, f3, hG1, -, -⟩ := w203.2
            dsimp only at e1 hT e3 hG hn hk f1 hT1 f3 hG1
            have e1 := e1.symm
            subst e1
            have e3 := e3.symm
            subst e3
            have f1 := f1.symm
            subst f1
            have f3 := f3.symm
            subst f3
            refine lv_iinc (lv' := [(3, .int (nI (i + 5))), (0, .ref b), (1, .ref x0), (2, .ref y0)]) (k := 3) (v := nI (i + 5)) hx hb dL_law_622 hl rfl (by rw [show Int32.ofInt 5 = nI 5 from by decide]; exact nI_add _ _) (by decide) rfl (fun ls hl => ?_)
            refine lv_goto (tgt := 18) hx hb dL_law_625 rfl ?_
            exact ih (i + 5) nv kv Tv Gv T2 G2 T3 G3 E3 d3 _ _ ls (by omega) (by omega) (hT) (hG) (hT1) (hG1) (hn) (hk) (lv_sub hl [1, 2, 3, 0] rfl) hP hD hS
          · skip
            have h206 := (not_congr (tl_eq (show r174.toInt = r174.toInt from rfl) (show r203.toInt = r203.toInt from rfl))).mp h206
            exact absurd (by rw [w174.1, w203.1]) h206
        by_cases hs32_3 : ((wj : Nat) : Int) = 3
        · skip
          refine lv_tableIn (off := 179) (tgt := 211) hx hb dL_law_32 (by omega) (by omega) (by rw [sw32, hs32_3]; first | done | rfl) rfl ?_
          refine lv_aload_n hx hb dL_law_211 rfl (lv_at hl 1 rfl) ?_
          refine lv_aload_n hx hb dL_law_212 rfl (lv_at hl 0 rfl) ?_
          refine lv_iload_n hx hb dL_law_213 rfl (lv_at hl 3 rfl) ?_
          refine lv_iconst (v := nI 1) hx hb dL_law_214 (by decide) ?_
          refine lv_iadd hx hb dL_law_215 ?_
          refine tl_top (nI_add _ _) ?_
          refine va_sld hx hb hX hbl hbA hS (vp_in_nI (show i + 1 < L by omega) (by omega)) dL_law_216 ?_
          refine tl_top (show xs (nI (i + 1)).toNatClampNeg = xs (i + 1) by rw [nI_clamp (by omega)]) ?_
          refine lv_aload_n hx hb dL_law_217 rfl (lv_at hl 0 rfl) ?_
          refine lv_iload_n hx hb dL_law_218 rfl (lv_at hl 3 rfl) ?_
          refine lv_iconst (v := nI 2) hx hb dL_law_219 (by decide) ?_
          refine lv_iadd hx hb dL_law_220 ?_
          refine tl_top (nI_add _ _) ?_
          refine va_sld hx hb hX hbl hbA hS (vp_in_nI (show i + 2 < L by omega) (by omega)) dL_law_221 ?_
          refine tl_top (show xs (nI (i + 2)).toNatClampNeg = xs (i + 2) by rw [nI_clamp (by omega)]) ?_
          refine lv_if_eq (tgt := 229) hx hb dL_law_222 rfl (fun h222 => ?_) (fun h222 => ?_)
          · skip
            have h222 := (tl_eq (show (xs (i + 2)).toInt = (xs (i + 2)).toInt from rfl) (show (0 : Int32).toInt = (0 : Int) from Int32.toInt_zero)).mp h222
            refine lv_iconst (v := nI 0) hx hb dL_law_229 (by decide) ?_
            refine lv_aload_n hx hb dL_law_230 rfl (lv_at hl 0 rfl) ?_
            refine lv_iload_n hx hb dL_law_231 rfl (lv_at hl 3 rfl) ?_
            refine lv_iconst (v := nI 3) hx hb dL_law_232 (by decide) ?_
            refine lv_iadd hx hb dL_law_233 ?_
            refine tl_top (nI_add _ _) ?_
            refine va_sld hx hb hX hbl hbA hS (vp_in_nI (show i + 3 < L by omega) (by omega)) dL_law_234 ?_
            refine tl_top (show xs (nI (i + 3)).toNatClampNeg = xs (i + 3) by rw [nI_clamp (by omega)]) ?_
            refine lv_i2l hx hb dL_law_235 rfl ?_
            refine lv_bipush (v := nI 32) hx hb dL_law_236 (by decide) ?_
            refine lv_lshl hx hb dL_law_238 rfl ?_
            refine lv_aload_n hx hb dL_law_239 rfl (lv_at hl 0 rfl) ?_
            refine lv_iload_n hx hb dL_law_240 rfl (lv_at hl 3 rfl) ?_
            refine lv_iconst (v := nI 4) hx hb dL_law_241 (by decide) ?_
            refine lv_iadd hx hb dL_law_242 ?_
            refine tl_top (nI_add _ _) ?_
            refine va_sld hx hb hX hbl hbA hS (vp_in_nI (show i + 4 < L by omega) (by omega)) dL_law_243 ?_
            refine tl_top (show xs (nI (i + 4)).toNatClampNeg = xs (i + 4) by rw [nI_clamp (by omega)]) ?_
            refine lv_i2l hx hb dL_law_244 rfl ?_
            refine lv_ldc2 (v := (4294967295 : Int64)) hx hb hown (hts _ k371) dL_law_245 ?_
            refine lv_land hx hb dL_law_248 ?_
            refine lv_lor hx hb dL_law_249 ?_
            have hPc := hP.sub (ws' := [(x0, .inr (0, [.ref x1, .ref x2, .int (nI n), .int (nI k)])), (x1, .inl (cA, 3000, .inl T)), (x2, .inl (cB, 40, .inl G))]) [0, 1, 2] rfl
            have hDc := hD.sub (ws' := [(x0, .inr (0, [.ref x1, .ref x2, .int (nI n), .int (nI k)])), (x1, .inl (cA, 3000, .inl T)), (x2, .inl (cB, 40, .inl G))]) [0, 1, 2] (by decide) rfl
            have hKc := hK.sub (tys' := [(cA, .int), (cB, .int)]) [0, 1] rfl
            have hFc := va_free (wc := [(x0, .inr (0, [.ref x1, .ref x2, .int (nI n), .int (nI k)])), (x1, .inl (cA, 3000, .inl T)), (x2, .inl (cB, 40, .inl G))]) hD hS hA [0, 1, 2] rfl
            refine va_calli (va_runV (As := [.int (xs (i + 1)), .int (nI 0), .long ((((xs (i + 3)).toInt64) <<< ((nI 32).toInt64 &&& 63)) ||| (((xs (i + 4)).toInt64) &&& ((4294967295 : Int64))))]) (rest := []) ⟨hx, hb, hml, hown, hts⟩ (c_X_insert l dC dI x0 x1 x2 H.size n k cA cB T G T0 G0 hT hG hn hk (xs (i + 1)) (nI 0) ((((xs (i + 3)).toInt64) <<< ((nI 32).toInt64 &&& 63)) ||| (((xs (i + 4)).toInt64) &&& ((4294967295 : Int64))))) (cwV 3 hts (gV_ (fun w h => h) k154 k155 k156 k21 k157) rfl rfl rfl (by decide +kernel) ⟨Nat.le_of_ble_eq_true rfl, Nat.le_of_ble_eq_true rfl⟩) ⟨fun a U g mk q => by obtain ⟨q0, q1, qP, qK, qD⟩ := q; exact ⟨q0, q1, qP, va_K.moved (u := U) (U := U.calling g mk a) (Vm.Alike.refl U.vm) qK, qD⟩, va_recv hKc hPc (ci := 0) (q0 := 0) rfl rfl, fun U hU hW => ⟨rfl, by rw [hU], by rw [hU]; exact hPc, va_K.moved hW.alike hKc, hDc.weaken (fun _ _ _ _ => trivial)⟩⟩ rfl rfl hl.1 rfl (lv_room (Nat.le_of_ble_eq_true rfl)) dL_law_250 ⟨Nat.le_of_ble_eq_true rfl, Nat.le_of_ble_eq_true rfl⟩) hS (fun q _ h => hFc q h) hFc (fun r250 u250 t H locs ht hvm w250 hB hz1 hk1 hS => ?_)
            try dsimp only at w250
            obtain ⟨n2, T2, k2, G2⟩ := u250
            obtain ⟨hP1, hK1, hD1⟩ := hB
            rw [ht] at hP1
            obtain ⟨hP, hD⟩ := va_join (wr := [(y0, .inr (1, [.ref y1, .ref y2, .ref y3, .int (nI n), .int (nI k), .int d])), (y1, .inl (cC, 3000, .inl T1)), (y2, .inl (cD, 40, .inl G1)), (y3, .inl (cE, 20, .inl E))]) (w1 := [(x0, .inr (0, [.ref x1, .ref x2, .int (nI n2), .int (nI k2)])), (x1, .inl (cA, 3000, .inl T2)), (x2, .inl (cB, 40, .inl G2))]) hP hD [0, 1, 2] [3, 4, 5, 6] rfl rfl (by decide) (by decide) hk1 hFc hP1 hD1
            have hP : va_P (dC, dI) vwCl [(y0, .inr (1, [.ref y1, .ref y2, .ref y3, .int (nI n), .int (nI k), .int d])), (y1, .inl (cC, 3000, .inl T1)), (y2, .inl (cD, 40, .inl G1)), (y3, .inl (cE, 20, .inl E)), (x0, .inr (0, [.ref x1, .ref x2, .int (nI n2), .int (nI k2)])), (x1, .inl (cA, 3000, .inl T2)), (x2, .inl (cB, 40, .inl G2))] H := hP
            have hD : va_D A [(y0, .inr (1, [.ref y1, .ref y2, .ref y3, .int (nI n), .int (nI k), .int d])), (y1, .inl (cC, 3000, .inl T1)), (y2, .inl (cD, 40, .inl G1)), (y3, .inl (cE, 20, .inl E)), (x0, .inr (0, [.ref x1, .ref x2, .int (nI n2), .int (nI k2)])), (x1, .inl (cA, 3000, .inl T2)), (x2, .inl (cB, 40, .inl G2))] := hD
            refine lv_aload_n hx hb dL_law_253 rfl (lv_at hl 2 rfl) ?_
            refine lv_aload_n hx hb dL_law_254 rfl (lv_at hl 0 rfl) ?_
            refine lv_iload_n hx hb dL_law_255 rfl (lv_at hl 3 rfl) ?_
            refine lv_iconst (v := nI 1) hx hb dL_law_256 (by decide) ?_
            refine lv_iadd hx hb dL_law_257 ?_
            refine tl_top (nI_add _ _) ?_
            refine va_sld hx hb hX hbl hbA hS (vp_in_nI (show i + 1 < L by omega) (by omega)) dL_law_258 ?_
            refine tl_top (show xs (nI (i + 1)).toNatClampNeg = xs (i + 1) by rw [nI_clamp (by omega)]) ?_
            refine lv_aload_n hx hb dL_law_259 rfl (lv_at hl 0 rfl) ?_
            refine lv_iload_n hx hb dL_law_260 rfl (lv_at hl 3 rfl) ?_
            refine lv_iconst (v := nI 2) hx hb dL_law_261 (by decide) ?_
            refine lv_iadd hx hb dL_law_262 ?_
            refine tl_top (nI_add _ _) ?_
            refine va_sld hx hb hX hbl hbA hS (vp_in_nI (show i + 2 < L by omega) (by omega)) dL_law_263 ?_
            refine tl_top (show xs (nI (i + 2)).toNatClampNeg = xs (i + 2) by rw [nI_clamp (by omega)]) ?_
            refine lv_if_eq (tgt := 271) hx hb dL_law_264 rfl (fun h264 => ?_) (fun h264 => ?_)
            · skip
              have h264 := (tl_eq (show (xs (i + 2)).toInt = (xs (i + 2)).toInt from rfl) (show (0 : Int32).toInt = (0 : Int) from Int32.toInt_zero)).mp h264
              refine lv_iconst (v := nI 0) hx hb dL_law_271 (by decide) ?_
              refine lv_aload_n hx hb dL_law_272 rfl (lv_at hl 0 rfl) ?_
              refine lv_iload_n hx hb dL_law_273 rfl (lv_at hl 3 rfl) ?_
              refine lv_iconst (v := nI 3) hx hb dL_law_274 (by decide) ?_
              refine lv_iadd hx hb dL_law_275 ?_
              refine tl_top (nI_add _ _) ?_
              refine va_sld hx hb hX hbl hbA hS (vp_in_nI (show i + 3 < L by omega) (by omega)) dL_law_276 ?_
              refine tl_top (show xs (nI (i + 3)).toNatClampNeg = xs (i + 3) by rw [nI_clamp (by omega)]) ?_
              refine lv_i2l hx hb dL_law_277 rfl ?_
              refine lv_bipush (v := nI 32) hx hb dL_law_278 (by decide) ?_
              refine lv_lshl hx hb dL_law_280 rfl ?_
              refine lv_aload_n hx hb dL_law_281 rfl (lv_at hl 0 rfl) ?_
              refine lv_iload_n hx hb dL_law_282 rfl (lv_at hl 3 rfl) ?_
              refine lv_iconst (v := nI 4) hx hb dL_law_283 (by decide) ?_
              refine lv_iadd hx hb dL_law_284 ?_
              refine tl_top (nI_add _ _) ?_
              refine va_sld hx hb hX hbl hbA hS (vp_in_nI (show i + 4 < L by omega) (by omega)) dL_law_285 ?_
              refine tl_top (show xs (nI (i + 4)).toNatClampNeg = xs (i + 4) by rw [nI_clamp (by omega)]) ?_
              refine lv_i2l hx hb dL_law_286 rfl ?_
              refine lv_ldc2 (v := (4294967295 : Int64)) hx hb hown (hts _ k371) dL_law_287 ?_
              refine lv_land hx hb dL_law_290 ?_
              refine lv_lor hx hb dL_law_291 ?_
              have hPc := hP.sub (ws' := [(y0, .inr (1, [.ref y1, .ref y2, .ref y3, .int (nI n), .int (nI k), .int d])), (y1, .inl (cC, 3000, .inl T1)), (y2, .inl (cD, 40, .inl G1)), (y3, .inl (cE, 20, .inl E))]) [0, 1, 2, 3] rfl
              have hDc := hD.sub (ws' := [(y0, .inr (1, [.ref y1, .ref y2, .ref y3, .int (nI n), .int (nI k), .int d])), (y1, .inl (cC, 3000, .inl T1)), (y2, .inl (cD, 40, .inl G1)), (y3, .inl (cE, 20, .inl E))]) [0, 1, 2, 3] (by decide) rfl
              have hKc := hK.sub (tys' := [(cC, .int), (cD, .int), (cE, .int)]) [2, 3, 4] rfl
              have hFc := va_free (wc := [(y0, .inr (1, [.ref y1, .ref y2, .ref y3, .int (nI n), .int (nI k), .int d])), (y1, .inl (cC, 3000, .inl T1)), (y2, .inl (cD, 40, .inl G1)), (y3, .inl (cE, 20, .inl E))]) hD hS hA [0, 1, 2, 3] rfl
              refine va_calli (va_runV (As := [.int (xs (i + 1)), .int (nI 0), .long ((((xs (i + 3)).toInt64) <<< ((nI 32).toInt64 &&& 63)) ||| (((xs (i + 4)).toInt64) &&& ((4294967295 : Int64))))]) (rest := [.int r250]) ⟨hx, hb, hml, hown, hts⟩ (c_M_insert l dC dI y0 y1 y2 y3 H.size n k cC cD cE T1 G1 T0 G0 hT1 hG1 hn hk E d (xs (i + 1)) (nI 0) ((((xs (i + 3)).toInt64) <<< ((nI 32).toInt64 &&& 63)) ||| (((xs (i + 4)).toInt64) &&& ((4294967295 : Int64))))) (cwV 3 hts (gV_ (fun w h => h) k319 k320 k321 k22 k322) rfl rfl rfl (by decide +kernel) ⟨Nat.le_of_ble_eq_true rfl, Nat.le_of_ble_eq_true rfl⟩) ⟨fun a U g mk q => by obtain ⟨q0, q1, qP, qK, qD⟩ := q; exact ⟨q0, q1, qP, va_K.moved (u := U) (U := U.calling g mk a) (Vm.Alike.refl U.vm) qK, qD⟩, va_recv hKc hPc (ci := 1) (q0 := 0) rfl rfl, fun U hU hW => ⟨rfl, by rw [hU], by rw [hU]; exact hPc, va_K.moved hW.alike hKc, hDc.weaken (fun _ _ _ _ => trivial)⟩⟩ rfl rfl hl.1 rfl (lv_room (Nat.le_of_ble_eq_true rfl)) dL_law_292 ⟨Nat.le_of_ble_eq_true rfl, Nat.le_of_ble_eq_true rfl⟩) hS (fun q _ h => hFc q h) hFc (fun r292 u292 t H locs ht hvm w292 hB hz1 hk1 hS => ?_)
              try dsimp only at w292
              obtain ⟨⟨n3, T3, k3, G3⟩, E3, d3⟩ := u292
              obtain ⟨hP1, hK1, hD1⟩ := hB
              rw [ht] at hP1
              obtain ⟨hP, hD⟩ := va_join (wr := [(x0, .inr (0, [.ref x1, .ref x2, .int (nI n2), .int (nI k2)])), (x1, .inl (cA, 3000, .inl T2)), (x2, .inl (cB, 40, .inl G2))]) (w1 := [(y0, .inr (1, [.ref y1, .ref y2, .ref y3, .int (nI n3), .int (nI k3), .int d3])), (y1, .inl (cC, 3000, .inl T3)), (y2, .inl (cD, 40, .inl G3)), (y3, .inl (cE, 20, .inl E3))]) hP hD [0, 1, 2, 3] [4, 5, 6] rfl rfl (by decide) (by decide) hk1 hFc hP1 hD1
              have hP : va_P (dC, dI) vwCl [(x0, .inr (0, [.ref x1, .ref x2, .int (nI n2), .int (nI k2)])), (x1, .inl (cA, 3000, .inl T2)), (x2, .inl (cB, 40, .inl G2)), (y0, .inr (1, [.ref y1, .ref y2, .ref y3, .int (nI n3), .int (nI k3), .int d3])), (y1, .inl (cC, 3000, .inl T3)), (y2, .inl (cD, 40, .inl G3)), (y3, .inl (cE, 20, .inl E3))] H := hP
              have hD : va_D A [(x0, .inr (0, [.ref x1, .ref x2, .int (nI n2), .int (nI k2)])), (x1, .inl (cA, 3000, .inl T2)), (x2, .inl (cB, 40, .inl G2)), (y0, .inr (1, [.ref y1, .ref y2, .ref y3, .int (nI n3), .int (nI k3), .int d3])), (y1, .inl (cC, 3000, .inl T3)), (y2, .inl (cD, 40, .inl G3)), (y3, .inl (cE, 20, .inl E3))] := hD
              refine lv_icmp_eq (tgt := 622) hx hb dL_law_295 rfl (fun h295 => ?_) (fun h295 => ?_)
              · skip
                have h295 := (tl_eq (show r250.toInt = r250.toInt from rfl) (show r292.toInt = r292.toInt from rfl)).mp h295
                generalize (sp_insert (xs (i + 1)) (nI 0) ((((xs (i + 3)).toInt64) <<< ((nI 32).toInt64 &&& 63)) ||| (((xs (i + 4)).toInt64) &&& ((4294967295 : Int64)))) n T0 k G0).2 = v at w250 w292
                obtain ⟨nv, Tv, kv, Gv⟩ := v
                obtain ⟨e1, hT, e3, hG, hn, hk⟩ := w250.2
                obtain ⟨f1, hT1, f3, hG1, -, -⟩ := w292.2
                dsimp only at e1 hT e3 hG hn hk f1 hT1 f3 hG1
                have e1 := e1.symm
                subst e1
                have e3 := e3.symm
                subst e3
                have f1 := f1.symm
                subst f1
                have f3 := f3.symm
                subst f3
                refine lv_iinc (lv' := [(3, .int (nI (i + 5))), (0, .ref b), (1, .ref x0), (2, .ref y0)]) (k := 3) (v := nI (i + 5)) hx hb dL_law_622 hl rfl (by rw [show Int32.ofInt 5 = nI 5 from by decide]; exact nI_add _ _) (by decide) rfl (fun ls hl => ?_)
                refine lv_goto (tgt := 18) hx hb dL_law_625 rfl ?_
                exact ih (i + 5) nv kv Tv Gv T2 G2 T3 G3 E3 d3 _ _ ls (by omega) (by omega) (hT) (hG) (hT1) (hG1) (hn) (hk) (lv_sub hl [1, 2, 3, 0] rfl) hP hD hS
              · skip
                have h295 := (not_congr (tl_eq (show r250.toInt = r250.toInt from rfl) (show r292.toInt = r292.toInt from rfl))).mp h295
                exact absurd (by rw [w250.1, w292.1]) h295
            · skip
              have h264 := (not_congr (tl_eq (show (xs (i + 2)).toInt = (xs (i + 2)).toInt from rfl) (show (0 : Int32).toInt = (0 : Int) from Int32.toInt_zero))).mp h264
              exfalso; omega
          · skip
            have h222 := (not_congr (tl_eq (show (xs (i + 2)).toInt = (xs (i + 2)).toInt from rfl) (show (0 : Int32).toInt = (0 : Int) from Int32.toInt_zero))).mp h222
            refine lv_iconst (v := nI 1) hx hb dL_law_225 (by decide) ?_
            refine lv_goto (tgt := 230) hx hb dL_law_226 rfl ?_
            refine lv_aload_n hx hb dL_law_230 rfl (lv_at hl 0 rfl) ?_
            refine lv_iload_n hx hb dL_law_231 rfl (lv_at hl 3 rfl) ?_
            refine lv_iconst (v := nI 3) hx hb dL_law_232 (by decide) ?_
            refine lv_iadd hx hb dL_law_233 ?_
            refine tl_top (nI_add _ _) ?_
            refine va_sld hx hb hX hbl hbA hS (vp_in_nI (show i + 3 < L by omega) (by omega)) dL_law_234 ?_
            refine tl_top (show xs (nI (i + 3)).toNatClampNeg = xs (i + 3) by rw [nI_clamp (by omega)]) ?_
            refine lv_i2l hx hb dL_law_235 rfl ?_
            refine lv_bipush (v := nI 32) hx hb dL_law_236 (by decide) ?_
            refine lv_lshl hx hb dL_law_238 rfl ?_
            refine lv_aload_n hx hb dL_law_239 rfl (lv_at hl 0 rfl) ?_
            refine lv_iload_n hx hb dL_law_240 rfl (lv_at hl 3 rfl) ?_
            refine lv_iconst (v := nI 4) hx hb dL_law_241 (by decide) ?_
            refine lv_iadd hx hb dL_law_242 ?_
            refine tl_top (nI_add _ _) ?_
            refine va_sld hx hb hX hbl hbA hS (vp_in_nI (show i + 4 < L by omega) (by omega)) dL_law_243 ?_
            refine tl_top (show xs (nI (i + 4)).toNatClampNeg = xs (i + 4) by rw [nI_clamp (by omega)]) ?_
            refine lv_i2l hx hb dL_law_244 rfl ?_
            refine lv_ldc2 (v := (4294967295 : Int64)) hx hb hown (hts _ k371) dL_law_245 ?_
            refine lv_land hx hb dL_law_248 ?_
            refine lv_lor hx hb dL_law_249 ?_
            have hPc := hP.sub (ws' := [(x0, .inr (0, [.ref x1, .ref x2, .int (nI n), .int (nI k)])), (x1, .inl (cA, 3000, .inl T)), (x2, .inl (cB, 40, .inl G))]) [0, 1, 2] rfl
            have hDc := hD.sub (ws' := [(x0, .inr (0, [.ref x1, .ref x2, .int (nI n), .int (nI k)])), (x1, .inl (cA, 3000, .inl T)), (x2, .inl (cB, 40, .inl G))]) [0, 1, 2] (by decide) rfl
            have hKc := hK.sub (tys' := [(cA, .int), (cB, .int)]) [0, 1] rfl
            have hFc := va_free (wc := [(x0, .inr (0, [.ref x1, .ref x2, .int (nI n), .int (nI k)])), (x1, .inl (cA, 3000, .inl T)), (x2, .inl (cB, 40, .inl G))]) hD hS hA [0, 1, 2] rfl
            refine va_calli (va_runV (As := [.int (xs (i + 1)), .int (nI 1), .long ((((xs (i + 3)).toInt64) <<< ((nI 32).toInt64 &&& 63)) ||| (((xs (i + 4)).toInt64) &&& ((4294967295 : Int64))))]) (rest := []) ⟨hx, hb, hml, hown, hts⟩ (c_X_insert l dC dI x0 x1 x2 H.size n k cA cB T G T0 G0 hT hG hn hk (xs (i + 1)) (nI 1) ((((xs (i + 3)).toInt64) <<< ((nI 32).toInt64 &&& 63)) ||| (((xs (i + 4)).toInt64) &&& ((4294967295 : Int64))))) (cwV 3 hts (gV_ (fun w h => h) k154 k155 k156 k21 k157) rfl rfl rfl (by decide +kernel) ⟨Nat.le_of_ble_eq_true rfl, Nat.le_of_ble_eq_true rfl⟩) ⟨fun a U g mk q => by obtain ⟨q0, q1, qP, qK, qD⟩ := q; exact ⟨q0, q1, qP, va_K.moved (u := U) (U := U.calling g mk a) (Vm.Alike.refl U.vm) qK, qD⟩, va_recv hKc hPc (ci := 0) (q0 := 0) rfl rfl, fun U hU hW => ⟨rfl, by rw [hU], by rw [hU]; exact hPc, va_K.moved hW.alike hKc, hDc.weaken (fun _ _ _ _ => trivial)⟩⟩ rfl rfl hl.1 rfl (lv_room (Nat.le_of_ble_eq_true rfl)) dL_law_250 ⟨Nat.le_of_ble_eq_true rfl, Nat.le_of_ble_eq_true rfl⟩) hS (fun q _ h => hFc q h) hFc (fun r250 u250 t H locs ht hvm w250 hB hz1 hk1 hS => ?_)
            try dsimp only at w250
            obtain ⟨n2, T2, k2, G2⟩ := u250
            obtain ⟨hP1, hK1, hD1⟩ := hB
            rw [ht] at hP1
            obtain ⟨hP, hD⟩ := va_join (wr := [(y0, .inr (1, [.ref y1, .ref y2, .ref y3, .int (nI n), .int (nI k), .int d])), (y1, .inl (cC, 3000, .inl T1)), (y2, .inl (cD, 40, .inl G1)), (y3, .inl (cE, 20, .inl E))]) (w1 := [(x0, .inr (0, [.ref x1, .ref x2, .int (nI n2), .int (nI k2)])), (x1, .inl (cA, 3000, .inl T2)), (x2, .inl (cB, 40, .inl G2))]) hP hD [0, 1, 2] [3, 4, 5, 6] rfl rfl (by decide) (by decide) hk1 hFc hP1 hD1
            have hP : va_P (dC, dI) vwCl [(y0, .inr (1, [.ref y1, .ref y2, .ref y3, .int (nI n), .int (nI k), .int d])), (y1, .inl (cC, 3000, .inl T1)), (y2, .inl (cD, 40, .inl G1)), (y3, .inl (cE, 20, .inl E)), (x0, .inr (0, [.ref x1, .ref x2, .int (nI n2), .int (nI k2)])), (x1, .inl (cA, 3000, .inl T2)), (x2, .inl (cB, 40, .inl G2))] H := hP
            have hD : va_D A [(y0, .inr (1, [.ref y1, .ref y2, .ref y3, .int (nI n), .int (nI k), .int d])), (y1, .inl (cC, 3000, .inl T1)), (y2, .inl (cD, 40, .inl G1)), (y3, .inl (cE, 20, .inl E)), (x0, .inr (0, [.ref x1, .ref x2, .int (nI n2), .int (nI k2)])), (x1, .inl (cA, 3000, .inl T2)), (x2, .inl (cB, 40, .inl G2))] := hD
            refine lv_aload_n hx hb dL_law_253 rfl (lv_at hl 2 rfl) ?_
            refine lv_aload_n hx hb dL_law_254 rfl (lv_at hl 0 rfl) ?_
            refine lv_iload_n hx hb dL_law_255 rfl (lv_at hl 3 rfl) ?_
            refine lv_iconst (v := nI 1) hx hb dL_law_256 (by decide) ?_
            refine lv_iadd hx hb dL_law_257 ?_
            refine tl_top (nI_add _ _) ?_
            refine va_sld hx hb hX hbl hbA hS (vp_in_nI (show i + 1 < L by omega) (by omega)) dL_law_258 ?_
            refine tl_top (show xs (nI (i + 1)).toNatClampNeg = xs (i + 1) by rw [nI_clamp (by omega)]) ?_
            refine lv_aload_n hx hb dL_law_259 rfl (lv_at hl 0 rfl) ?_
            refine lv_iload_n hx hb dL_law_260 rfl (lv_at hl 3 rfl) ?_
            refine lv_iconst (v := nI 2) hx hb dL_law_261 (by decide) ?_
            refine lv_iadd hx hb dL_law_262 ?_
            refine tl_top (nI_add _ _) ?_
            refine va_sld hx hb hX hbl hbA hS (vp_in_nI (show i + 2 < L by omega) (by omega)) dL_law_263 ?_
            refine tl_top (show xs (nI (i + 2)).toNatClampNeg = xs (i + 2) by rw [nI_clamp (by omega)]) ?_
            refine lv_if_eq (tgt := 271) hx hb dL_law_264 rfl (fun h264 => ?_) (fun h264 => ?_)
            · skip
              have h264 := (tl_eq (show (xs (i + 2)).toInt = (xs (i + 2)).toInt from rfl) (show (0 : Int32).toInt = (0 : Int) from Int32.toInt_zero)).mp h264
              exfalso; omega
            · skip
              have h264 := (not_congr (tl_eq (show (xs (i + 2)).toInt = (xs (i + 2)).toInt from rfl) (show (0 : Int32).toInt = (0 : Int) from Int32.toInt_zero))).mp h264
              refine lv_iconst (v := nI 1) hx hb dL_law_267 (by decide) ?_
              refine lv_goto (tgt := 272) hx hb dL_law_268 rfl ?_
              refine lv_aload_n hx hb dL_law_272 rfl (lv_at hl 0 rfl) ?_
              refine lv_iload_n hx hb dL_law_273 rfl (lv_at hl 3 rfl) ?_
              refine lv_iconst (v := nI 3) hx hb dL_law_274 (by decide) ?_
              refine lv_iadd hx hb dL_law_275 ?_
              refine tl_top (nI_add _ _) ?_
              refine va_sld hx hb hX hbl hbA hS (vp_in_nI (show i + 3 < L by omega) (by omega)) dL_law_276 ?_
              refine tl_top (show xs (nI (i + 3)).toNatClampNeg = xs (i + 3) by rw [nI_clamp (by omega)]) ?_
              refine lv_i2l hx hb dL_law_277 rfl ?_
              refine lv_bipush (v := nI 32) hx hb dL_law_278 (by decide) ?_
              refine lv_lshl hx hb dL_law_280 rfl ?_
              refine lv_aload_n hx hb dL_law_281 rfl (lv_at hl 0 rfl) ?_
              refine lv_iload_n hx hb dL_law_282 rfl (lv_at hl 3 rfl) ?_
              refine lv_iconst (v := nI 4) hx hb dL_law_283 (by decide) ?_
              refine lv_iadd hx hb dL_law_284 ?_
              refine tl_top (nI_add _ _) ?_
              refine va_sld hx hb hX hbl hbA hS (vp_in_nI (show i + 4 < L by omega) (by omega)) dL_law_285 ?_
              refine tl_top (show xs (nI (i + 4)).toNatClampNeg = xs (i + 4) by rw [nI_clamp (by omega)]) ?_
              refine lv_i2l hx hb dL_law_286 rfl ?_
              refine lv_ldc2 (v := (4294967295 : Int64)) hx hb hown (hts _ k371) dL_law_287 ?_
              refine lv_land hx hb dL_law_290 ?_
              refine lv_lor hx hb dL_law_291 ?_
              have hPc := hP.sub (ws' := [(y0, .inr (1, [.ref y1, .ref y2, .ref y3, .int (nI n), .int (nI k), .int d])), (y1, .inl (cC, 3000, .inl T1)), (y2, .inl (cD, 40, .inl G1)), (y3, .inl (cE, 20, .inl E))]) [0, 1, 2, 3] rfl
              have hDc := hD.sub (ws' := [(y0, .inr (1, [.ref y1, .ref y2, .ref y3, .int (nI n), .int (nI k), .int d])), (y1, .inl (cC, 3000, .inl T1)), (y2, .inl (cD, 40, .inl G1)), (y3, .inl (cE, 20, .inl E))]) [0, 1, 2, 3] (by decide) rfl
              have hKc := hK.sub (tys' := [(cC, .int), (cD, .int), (cE, .int)]) [2, 3, 4] rfl
              have hFc := va_free (wc := [(y0, .inr (1, [.ref y1, .ref y2, .ref y3, .int (nI n), .int (nI k), .int d])), (y1, .inl (cC, 3000, .inl T1)), (y2, .inl (cD, 40, .inl G1)), (y3, .inl (cE, 20, .inl E))]) hD hS hA [0, 1, 2, 3] rfl
              refine va_calli (va_runV (As := [.int (xs (i + 1)), .int (nI 1), .long ((((xs (i + 3)).toInt64) <<< ((nI 32).toInt64 &&& 63)) ||| (((xs (i + 4)).toInt64) &&& ((4294967295 : Int64))))]) (rest := [.int r250]) ⟨hx, hb, hml, hown, hts⟩ (c_M_insert l dC dI y0 y1 y2 y3 H.size n k cC cD cE T1 G1 T0 G0 hT1 hG1 hn hk E d (xs (i + 1)) (nI 1) ((((xs (i + 3)).toInt64) <<< ((nI 32).toInt64 &&& 63)) ||| (((xs (i + 4)).toInt64) &&& ((4294967295 : Int64))))) (cwV 3 hts (gV_ (fun w h => h) k319 k320 k321 k22 k322) rfl rfl rfl (by decide +kernel) ⟨Nat.le_of_ble_eq_true rfl, Nat.le_of_ble_eq_true rfl⟩) ⟨fun a U g mk q => by obtain ⟨q0, q1, qP, qK, qD⟩ := q; exact ⟨q0, q1, qP, va_K.moved (u := U) (U := U.calling g mk a) (Vm.Alike.refl U.vm) qK, qD⟩, va_recv hKc hPc (ci := 1) (q0 := 0) rfl rfl, fun U hU hW => ⟨rfl, by rw [hU], by rw [hU]; exact hPc, va_K.moved hW.alike hKc, hDc.weaken (fun _ _ _ _ => trivial)⟩⟩ rfl rfl hl.1 rfl (lv_room (Nat.le_of_ble_eq_true rfl)) dL_law_292 ⟨Nat.le_of_ble_eq_true rfl, Nat.le_of_ble_eq_true rfl⟩) hS (fun q _ h => hFc q h) hFc (fun r292 u292 t H locs ht hvm w292 hB hz1 hk1 hS => ?_)
              try dsimp only at w292
              obtain ⟨⟨n3, T3, k3, G3⟩, E3, d3⟩ := u292
              obtain ⟨hP1, hK1, hD1⟩ := hB
              rw [ht] at hP1
              obtain ⟨hP, hD⟩ := va_join (wr := [(x0, .inr (0, [.ref x1, .ref x2, .int (nI n2), .int (nI k2)])), (x1, .inl (cA, 3000, .inl T2)), (x2, .inl (cB, 40, .inl G2))]) (w1 := [(y0, .inr (1, [.ref y1, .ref y2, .ref y3, .int (nI n3), .int (nI k3), .int d3])), (y1, .inl (cC, 3000, .inl T3)), (y2, .inl (cD, 40, .inl G3)), (y3, .inl (cE, 20, .inl E3))]) hP hD [0, 1, 2, 3] [4, 5, 6] rfl rfl (by decide) (by decide) hk1 hFc hP1 hD1
              have hP : va_P (dC, dI) vwCl [(x0, .inr (0, [.ref x1, .ref x2, .int (nI n2), .int (nI k2)])), (x1, .inl (cA, 3000, .inl T2)), (x2, .inl (cB, 40, .inl G2)), (y0, .inr (1, [.ref y1, .ref y2, .ref y3, .int (nI n3), .int (nI k3), .int d3])), (y1, .inl (cC, 3000, .inl T3)), (y2, .inl (cD, 40, .inl G3)), (y3, .inl (cE, 20, .inl E3))] H := hP
              have hD : va_D A [(x0, .inr (0, [.ref x1, .ref x2, .int (nI n2), .int (nI k2)])), (x1, .inl (cA, 3000, .inl T2)), (x2, .inl (cB, 40, .inl G2)), (y0, .inr (1, [.ref y1, .ref y2, .ref y3, .int (nI n3), .int (nI k3), .int d3])), (y1, .inl (cC, 3000, .inl T3)), (y2, .inl (cD, 40, .inl G3)), (y3, .inl (cE, 20, .inl E3))] := hD
              refine lv_icmp_eq (tgt := 622) hx hb dL_law_295 rfl (fun h295 => ?_) (fun h295 => ?_)
              · skip
                have h295 := (tl_eq (show r250.toInt = r250.toInt from rfl) (show r292.toInt = r292.toInt from rfl)).mp h295
                generalize (sp_insert (xs (i + 1)) (nI 1) ((((xs (i + 3)).toInt64) <<< ((nI 32).toInt64 &&& 63)) ||| (((xs (i + 4)).toInt64) &&& ((4294967295 : Int64)))) n T0 k G0).2 = v at w250 w292
                obtain ⟨nv, Tv, kv, Gv⟩ := v
                obtain ⟨e1, hT, e3, hG, hn, hk⟩ := w250.2
                obtain ⟨f1, hT1, f3, hG1, -, -⟩ := w292.2
                dsimp only at e1 hT e3 hG hn hk f1 hT1 f3 hG1
                have e1 := e1.symm
                subst e1
                have e3 := e3.symm
                subst e3
                have f1 := f1.symm
                subst f1
                have f3 := f3.symm
                subst f3
                refine lv_iinc (lv' := [(3, .int (nI (i + 5))), (0, .ref b), (1, .ref x0), (2, .ref y0)]) (k := 3) (v := nI (i + 5)) hx hb dL_law_622 hl rfl (by rw [show Int32.ofInt 5 = nI 5 from by decide]; exact nI_add _ _) (by decide) rfl (fun ls hl => ?_)
                refine lv_goto (tgt := 18) hx hb dL_law_625 rfl ?_
                exact ih (i + 5) nv kv Tv Gv T2 G2 T3 G3 E3 d3 _ _ ls (by omega) (by omega) (hT) (hG) (hT1) (hG1) (hn) (hk) (lv_sub hl [1, 2, 3, 0] rfl) hP hD hS
              · skip
                have h295 := (not_congr (tl_eq (show r250.toInt = r250.toInt from rfl) (show r292.toInt = r292.toInt from rfl))).mp h295
                exact absurd (by rw [w250.1, w292.1]) h295
        by_cases hs32_4 : ((wj : Nat) : Int) = 4
        · skip
          refine lv_tableIn (off := 268) (tgt := 300) hx hb dL_law_32 (by omega) (by omega) (by rw [sw32, hs32_4]; first | done | rfl) rfl ?_
          refine lv_aload_n hx hb dL_law_300 rfl (lv_at hl 1 rfl) ?_
          refine lv_aload_n hx hb dL_law_301 rfl (lv_at hl 0 rfl) ?_
          refine lv_iload_n hx hb dL_law_302 rfl (lv_at hl 3 rfl) ?_
          refine lv_iconst (v := nI 1) hx hb dL_law_303 (by decide) ?_
          refine lv_iadd hx hb dL_law_304 ?_
          refine tl_top (nI_add _ _) ?_
          refine va_sld hx hb hX hbl hbA hS (vp_in_nI (show i + 1 < L by omega) (by omega)) dL_law_305 ?_
          refine tl_top (show xs (nI (i + 1)).toNatClampNeg = xs (i + 1) by rw [nI_clamp (by omega)]) ?_
          refine lv_aload_n hx hb dL_law_306 rfl (lv_at hl 0 rfl) ?_
          refine lv_iload_n hx hb dL_law_307 rfl (lv_at hl 3 rfl) ?_
          refine lv_iconst (v := nI 2) hx hb dL_law_308 (by decide) ?_
          refine lv_iadd hx hb dL_law_309 ?_
          refine tl_top (nI_add _ _) ?_
          refine va_sld hx hb hX hbl hbA hS (vp_in_nI (show i + 2 < L by omega) (by omega)) dL_law_310 ?_
          refine tl_top (show xs (nI (i + 2)).toNatClampNeg = xs (i + 2) by rw [nI_clamp (by omega)]) ?_
          have hPc := hP.sub (ws' := [(x0, .inr (0, [.ref x1, .ref x2, .int (nI n), .int (nI k)])), (x1, .inl (cA, 3000, .inl T)), (x2, .inl (cB, 40, .inl G))]) [0, 1, 2] rfl
          have hDc := hD.sub (ws' := [(x0, .inr (0, [.ref x1, .ref x2, .int (nI n), .int (nI k)])), (x1, .inl (cA, 3000, .inl T)), (x2, .inl (cB, 40, .inl G))]) [0, 1, 2] (by decide) rfl
          have hKc := hK.sub (tys' := [(cA, .int), (cB, .int)]) [0, 1] rfl
          have hFc := va_free (wc := [(x0, .inr (0, [.ref x1, .ref x2, .int (nI n), .int (nI k)])), (x1, .inl (cA, 3000, .inl T)), (x2, .inl (cB, 40, .inl G))]) hD hS hA [0, 1, 2] rfl
          refine va_calli (va_runV (As := [.int (xs (i + 1)), .int (xs (i + 2))]) (rest := []) ⟨hx, hb, hml, hown, hts⟩ (c_X_cut l dC dI x0 x1 x2 H.size n k cA cB T G T0 G0 hT hG hn hk (xs (i + 1)) (xs (i + 2))) (cwV 2 hts (gV_ (fun w h => h) k162 k163 k164 k21 k165) rfl rfl rfl (by decide +kernel) ⟨Nat.le_of_ble_eq_true rfl, Nat.le_of_ble_eq_true rfl⟩) ⟨fun a U g mk q => by obtain ⟨q0, q1, qP, qK, qD⟩ := q; exact ⟨q0, q1, qP, va_K.moved (u := U) (U := U.calling g mk a) (Vm.Alike.refl U.vm) qK, qD⟩, va_recv hKc hPc (ci := 0) (q0 := 0) rfl rfl, fun U hU hW => ⟨rfl, by rw [hU], by rw [hU]; exact hPc, va_K.moved hW.alike hKc, hDc.weaken (fun _ _ _ _ => trivial)⟩⟩ rfl rfl hl.1 rfl (lv_room (Nat.le_of_ble_eq_true rfl)) dL_law_311 ⟨Nat.le_of_ble_eq_true rfl, Nat.le_of_ble_eq_true rfl⟩) hS (fun q _ h => hFc q h) hFc (fun r311 u311 t H locs ht hvm w311 hB hz1 hk1 hS => ?_)
          try dsimp only at w311
          obtain ⟨n2, T2, k2, G2⟩ := u311
          obtain ⟨hP1, hK1, hD1⟩ := hB
          rw [ht] at hP1
          obtain ⟨hP, hD⟩ := va_join (wr := [(y0, .inr (1, [.ref y1, .ref y2, .ref y3, .int (nI n), .int (nI k), .int d])), (y1, .inl (cC, 3000, .inl T1)), (y2, .inl (cD, 40, .inl G1)), (y3, .inl (cE, 20, .inl E))]) (w1 := [(x0, .inr (0, [.ref x1, .ref x2, .int (nI n2), .int (nI k2)])), (x1, .inl (cA, 3000, .inl T2)), (x2, .inl (cB, 40, .inl G2))]) hP hD [0, 1, 2] [3, 4, 5, 6] rfl rfl (by decide) (by decide) hk1 hFc hP1 hD1
          have hP : va_P (dC, dI) vwCl [(y0, .inr (1, [.ref y1, .ref y2, .ref y3, .int (nI n), .int (nI k), .int d])), (y1, .inl (cC, 3000, .inl T1)), (y2, .inl (cD, 40, .inl G1)), (y3, .inl (cE, 20, .inl E)), (x0, .inr (0, [.ref x1, .ref x2, .int (nI n2), .int (nI k2)])), (x1, .inl (cA, 3000, .inl T2)), (x2, .inl (cB, 40, .inl G2))] H := hP
          have hD : va_D A [(y0, .inr (1, [.ref y1, .ref y2, .ref y3, .int (nI n), .int (nI k), .int d])), (y1, .inl (cC, 3000, .inl T1)), (y2, .inl (cD, 40, .inl G1)), (y3, .inl (cE, 20, .inl E)), (x0, .inr (0, [.ref x1, .ref x2, .int (nI n2), .int (nI k2)])), (x1, .inl (cA, 3000, .inl T2)), (x2, .inl (cB, 40, .inl G2))] := hD
          refine lv_aload_n hx hb dL_law_314 rfl (lv_at hl 2 rfl) ?_
          refine lv_aload_n hx hb dL_law_315 rfl (lv_at hl 0 rfl) ?_
          refine lv_iload_n hx hb dL_law_316 rfl (lv_at hl 3 rfl) ?_
          refine lv_iconst (v := nI 1) hx hb dL_law_317 (by decide) ?_
          refine lv_iadd hx hb dL_law_318 ?_
          refine tl_top (nI_add _ _) ?_
          refine va_sld hx hb hX hbl hbA hS (vp_in_nI (show i + 1 < L by omega) (by omega)) dL_law_319 ?_
          refine tl_top (show xs (nI (i + 1)).toNatClampNeg = xs (i + 1) by rw [nI_clamp (by omega)]) ?_
          refine lv_aload_n hx hb dL_law_320 rfl (lv_at hl 0 rfl) ?_
          refine lv_iload_n hx hb dL_law_321 rfl (lv_at hl 3 rfl) ?_
          refine lv_iconst (v := nI 2) hx hb dL_law_322 (by decide) ?_
          refine lv_iadd hx hb dL_law_323 ?_
          refine tl_top (nI_add _ _) ?_
          refine va_sld hx hb hX hbl hbA hS (vp_in_nI (show i + 2 < L by omega) (by omega)) dL_law_324 ?_
          refine tl_top (show xs (nI (i + 2)).toNatClampNeg = xs (i + 2) by rw [nI_clamp (by omega)]) ?_
          have hPc := hP.sub (ws' := [(y0, .inr (1, [.ref y1, .ref y2, .ref y3, .int (nI n), .int (nI k), .int d])), (y1, .inl (cC, 3000, .inl T1)), (y2, .inl (cD, 40, .inl G1)), (y3, .inl (cE, 20, .inl E))]) [0, 1, 2, 3] rfl
          have hDc := hD.sub (ws' := [(y0, .inr (1, [.ref y1, .ref y2, .ref y3, .int (nI n), .int (nI k), .int d])), (y1, .inl (cC, 3000, .inl T1)), (y2, .inl (cD, 40, .inl G1)), (y3, .inl (cE, 20, .inl E))]) [0, 1, 2, 3] (by decide) rfl
          have hKc := hK.sub (tys' := [(cC, .int), (cD, .int), (cE, .int)]) [2, 3, 4] rfl
          have hFc := va_free (wc := [(y0, .inr (1, [.ref y1, .ref y2, .ref y3, .int (nI n), .int (nI k), .int d])), (y1, .inl (cC, 3000, .inl T1)), (y2, .inl (cD, 40, .inl G1)), (y3, .inl (cE, 20, .inl E))]) hD hS hA [0, 1, 2, 3] rfl
          refine va_calli (va_runV (As := [.int (xs (i + 1)), .int (xs (i + 2))]) (rest := [.int r311]) ⟨hx, hb, hml, hown, hts⟩ (c_M_cut l dC dI y0 y1 y2 y3 H.size n k cC cD cE T1 G1 T0 G0 hT1 hG1 hn hk E d (xs (i + 1)) (xs (i + 2))) (cwV 2 hts (gV_ (fun w h => h) k323 k324 k325 k22 k326) rfl rfl rfl (by decide +kernel) ⟨Nat.le_of_ble_eq_true rfl, Nat.le_of_ble_eq_true rfl⟩) ⟨fun a U g mk q => by obtain ⟨q0, q1, qP, qK, qD⟩ := q; exact ⟨q0, q1, qP, va_K.moved (u := U) (U := U.calling g mk a) (Vm.Alike.refl U.vm) qK, qD⟩, va_recv hKc hPc (ci := 1) (q0 := 0) rfl rfl, fun U hU hW => ⟨rfl, by rw [hU], by rw [hU]; exact hPc, va_K.moved hW.alike hKc, hDc.weaken (fun _ _ _ _ => trivial)⟩⟩ rfl rfl hl.1 rfl (lv_room (Nat.le_of_ble_eq_true rfl)) dL_law_325 ⟨Nat.le_of_ble_eq_true rfl, Nat.le_of_ble_eq_true rfl⟩) hS (fun q _ h => hFc q h) hFc (fun r325 u325 t H locs ht hvm w325 hB hz1 hk1 hS => ?_)
          try dsimp only at w325
          obtain ⟨⟨n3, T3, k3, G3⟩, E3, d3⟩ := u325
          obtain ⟨hP1, hK1, hD1⟩ := hB
          rw [ht] at hP1
          obtain ⟨hP, hD⟩ := va_join (wr := [(x0, .inr (0, [.ref x1, .ref x2, .int (nI n2), .int (nI k2)])), (x1, .inl (cA, 3000, .inl T2)), (x2, .inl (cB, 40, .inl G2))]) (w1 := [(y0, .inr (1, [.ref y1, .ref y2, .ref y3, .int (nI n3), .int (nI k3), .int d3])), (y1, .inl (cC, 3000, .inl T3)), (y2, .inl (cD, 40, .inl G3)), (y3, .inl (cE, 20, .inl E3))]) hP hD [0, 1, 2, 3] [4, 5, 6] rfl rfl (by decide) (by decide) hk1 hFc hP1 hD1
          have hP : va_P (dC, dI) vwCl [(x0, .inr (0, [.ref x1, .ref x2, .int (nI n2), .int (nI k2)])), (x1, .inl (cA, 3000, .inl T2)), (x2, .inl (cB, 40, .inl G2)), (y0, .inr (1, [.ref y1, .ref y2, .ref y3, .int (nI n3), .int (nI k3), .int d3])), (y1, .inl (cC, 3000, .inl T3)), (y2, .inl (cD, 40, .inl G3)), (y3, .inl (cE, 20, .inl E3))] H := hP
          have hD : va_D A [(x0, .inr (0, [.ref x1, .ref x2, .int (nI n2), .int (nI k2)])), (x1, .inl (cA, 3000, .inl T2)), (x2, .inl (cB, 40, .inl G2)), (y0, .inr (1, [.ref y1, .ref y2, .ref y3, .int (nI n3), .int (nI k3), .int d3])), (y1, .inl (cC, 3000, .inl T3)), (y2, .inl (cD, 40, .inl G3)), (y3, .inl (cE, 20, .inl E3))] := hD
          refine lv_icmp_eq (tgt := 622) hx hb dL_law_328 rfl (fun h328 => ?_) (fun h328 => ?_)
          · skip
            have h328 := (tl_eq (show r311.toInt = r311.toInt from rfl) (show r325.toInt = r325.toInt from rfl)).mp h328
            generalize (sp_cut (xs (i + 1)) (xs (i + 2)) n T0 k G0).2 = v at w311 w325
            obtain ⟨nv, Tv, kv, Gv⟩ := v
            obtain ⟨e1, hT, e3, hG, hn, hk⟩ := w311.2
            obtain ⟨f1, hT1, f3, hG1, -, -⟩ := w325.2
            dsimp only at e1 hT e3 hG hn hk f1 hT1 f3 hG1
            have e1 := e1.symm
            subst e1
            have e3 := e3.symm
            subst e3
            have f1 := f1.symm
            subst f1
            have f3 := f3.symm
            subst f3
            refine lv_iinc (lv' := [(3, .int (nI (i + 5))), (0, .ref b), (1, .ref x0), (2, .ref y0)]) (k := 3) (v := nI (i + 5)) hx hb dL_law_622 hl rfl (by rw [show Int32.ofInt 5 = nI 5 from by decide]; exact nI_add _ _) (by decide) rfl (fun ls hl => ?_)
            refine lv_goto (tgt := 18) hx hb dL_law_625 rfl ?_
            exact ih (i + 5) nv kv Tv Gv T2 G2 T3 G3 E3 d3 _ _ ls (by omega) (by omega) (hT) (hG) (hT1) (hG1) (hn) (hk) (lv_sub hl [1, 2, 3, 0] rfl) hP hD hS
          · skip
            have h328 := (not_congr (tl_eq (show r311.toInt = r311.toInt from rfl) (show r325.toInt = r325.toInt from rfl))).mp h328
            exact absurd (by rw [w311.1, w325.1]) h328
        by_cases hs32_5 : ((wj : Nat) : Int) = 5
        · skip
          refine lv_tableIn (off := 301) (tgt := 333) hx hb dL_law_32 (by omega) (by omega) (by rw [sw32, hs32_5]; first | done | rfl) rfl ?_
          refine lv_aload_n hx hb dL_law_333 rfl (lv_at hl 1 rfl) ?_
          refine lv_aload_n hx hb dL_law_334 rfl (lv_at hl 0 rfl) ?_
          refine lv_iload_n hx hb dL_law_335 rfl (lv_at hl 3 rfl) ?_
          refine lv_iconst (v := nI 1) hx hb dL_law_336 (by decide) ?_
          refine lv_iadd hx hb dL_law_337 ?_
          refine tl_top (nI_add _ _) ?_
          refine va_sld hx hb hX hbl hbA hS (vp_in_nI (show i + 1 < L by omega) (by omega)) dL_law_338 ?_
          refine tl_top (show xs (nI (i + 1)).toNatClampNeg = xs (i + 1) by rw [nI_clamp (by omega)]) ?_
          refine lv_aload_n hx hb dL_law_339 rfl (lv_at hl 0 rfl) ?_
          refine lv_iload_n hx hb dL_law_340 rfl (lv_at hl 3 rfl) ?_
          refine lv_iconst (v := nI 2) hx hb dL_law_341 (by decide) ?_
          refine lv_iadd hx hb dL_law_342 ?_
          refine tl_top (nI_add _ _) ?_
          refine va_sld hx hb hX hbl hbA hS (vp_in_nI (show i + 2 < L by omega) (by omega)) dL_law_343 ?_
          refine tl_top (show xs (nI (i + 2)).toNatClampNeg = xs (i + 2) by rw [nI_clamp (by omega)]) ?_
          have hPc := hP.sub (ws' := [(x0, .inr (0, [.ref x1, .ref x2, .int (nI n), .int (nI k)])), (x1, .inl (cA, 3000, .inl T)), (x2, .inl (cB, 40, .inl G))]) [0, 1, 2] rfl
          have hDc := hD.sub (ws' := [(x0, .inr (0, [.ref x1, .ref x2, .int (nI n), .int (nI k)])), (x1, .inl (cA, 3000, .inl T)), (x2, .inl (cB, 40, .inl G))]) [0, 1, 2] (by decide) rfl
          have hKc := hK.sub (tys' := [(cA, .int), (cB, .int)]) [0, 1] rfl
          have hFc := va_free (wc := [(x0, .inr (0, [.ref x1, .ref x2, .int (nI n), .int (nI k)])), (x1, .inl (cA, 3000, .inl T)), (x2, .inl (cB, 40, .inl G))]) hD hS hA [0, 1, 2] rfl
          refine va_calli (va_runV (As := [.int (xs (i + 1)), .int (xs (i + 2))]) (rest := []) ⟨hx, hb, hml, hown, hts⟩ (c_X_swap l dC dI x0 x1 x2 H.size n k cA cB T G T0 G0 hT hG hn hk (xs (i + 1)) (xs (i + 2))) (cwV 2 hts (gV_ (fun w h => h) k169 k170 k171 k21 k172) rfl rfl rfl (by decide +kernel) ⟨Nat.le_of_ble_eq_true rfl, Nat.le_of_ble_eq_true rfl⟩) ⟨fun a U g mk q => by obtain ⟨q0, q1, qP, qK, qD⟩ := q; exact ⟨q0, q1, qP, va_K.moved (u := U) (U := U.calling g mk a) (Vm.Alike.refl U.vm) qK, qD⟩, va_recv hKc hPc (ci := 0) (q0 := 0) rfl rfl, fun U hU hW => ⟨rfl, by rw [hU], by rw [hU]; exact hPc, va_K.moved hW.alike hKc, hDc.weaken (fun _ _ _ _ => trivial)⟩⟩ rfl rfl hl.1 rfl (lv_room (Nat.le_of_ble_eq_true rfl)) dL_law_344 ⟨Nat.le_of_ble_eq_true rfl, Nat.le_of_ble_eq_true rfl⟩) hS (fun q _ h => hFc q h) hFc (fun r344 u344 t H locs ht hvm w344 hB hz1 hk1 hS => ?_)
          try dsimp only at w344
          obtain ⟨n2, T2, k2, G2⟩ := u344
          obtain ⟨hP1, hK1, hD1⟩ := hB
          rw [ht] at hP1
          obtain ⟨hP, hD⟩ := va_join (wr := [(y0, .inr (1, [.ref y1, .ref y2, .ref y3, .int (nI n), .int (nI k), .int d])), (y1, .inl (cC, 3000, .inl T1)), (y2, .inl (cD, 40, .inl G1)), (y3, .inl (cE, 20, .inl E))]) (w1 := [(x0, .inr (0, [.ref x1, .ref x2, .int (nI n2), .int (nI k2)])), (x1, .inl (cA, 3000, .inl T2)), (x2, .inl (cB, 40, .inl G2))]) hP hD [0, 1, 2] [3, 4, 5, 6] rfl rfl (by decide) (by decide) hk1 hFc hP1 hD1
          have hP : va_P (dC, dI) vwCl [(y0, .inr (1, [.ref y1, .ref y2, .ref y3, .int (nI n), .int (nI k), .int d])), (y1, .inl (cC, 3000, .inl T1)), (y2, .inl (cD, 40, .inl G1)), (y3, .inl (cE, 20, .inl E)), (x0, .inr (0, [.ref x1, .ref x2, .int (nI n2), .int (nI k2)])), (x1, .inl (cA, 3000, .inl T2)), (x2, .inl (cB, 40, .inl G2))] H := hP
          have hD : va_D A [(y0, .inr (1, [.ref y1, .ref y2, .ref y3, .int (nI n), .int (nI k), .int d])), (y1, .inl (cC, 3000, .inl T1)), (y2, .inl (cD, 40, .inl G1)), (y3, .inl (cE, 20, .inl E)), (x0, .inr (0, [.ref x1, .ref x2, .int (nI n2), .int (nI k2)])), (x1, .inl (cA, 3000, .inl T2)), (x2, .inl (cB, 40, .inl G2))] := hD
          refine lv_aload_n hx hb dL_law_347 rfl (lv_at hl 2 rfl) ?_
          refine lv_aload_n hx hb dL_law_348 rfl (lv_at hl 0 rfl) ?_
          refine lv_iload_n hx hb dL_law_349 rfl (lv_at hl 3 rfl) ?_
          refine lv_iconst (v := nI 1) hx hb dL_law_350 (by decide) ?_
          refine lv_iadd hx hb dL_law_351 ?_
          refine tl_top (nI_add _ _) ?_
          refine va_sld hx hb hX hbl hbA hS (vp_in_nI (show i + 1 < L by omega) (by omega)) dL_law_352 ?_
          refine tl_top (show xs (nI (i + 1)).toNatClampNeg = xs (i + 1) by rw [nI_clamp (by omega)]) ?_
          refine lv_aload_n hx hb dL_law_353 rfl (lv_at hl 0 rfl) ?_
          refine lv_iload_n hx hb dL_law_354 rfl (lv_at hl 3 rfl) ?_
          refine lv_iconst (v := nI 2) hx hb dL_law_355 (by decide) ?_
          refine lv_iadd hx hb dL_law_356 ?_
          refine tl_top (nI_add _ _) ?_
          refine va_sld hx hb hX hbl hbA hS (vp_in_nI (show i + 2 < L by omega) (by omega)) dL_law_357 ?_
          refine tl_top (show xs (nI (i + 2)).toNatClampNeg = xs (i + 2) by rw [nI_clamp (by omega)]) ?_
          have hPc := hP.sub (ws' := [(y0, .inr (1, [.ref y1, .ref y2, .ref y3, .int (nI n), .int (nI k), .int d])), (y1, .inl (cC, 3000, .inl T1)), (y2, .inl (cD, 40, .inl G1)), (y3, .inl (cE, 20, .inl E))]) [0, 1, 2, 3] rfl
          have hDc := hD.sub (ws' := [(y0, .inr (1, [.ref y1, .ref y2, .ref y3, .int (nI n), .int (nI k), .int d])), (y1, .inl (cC, 3000, .inl T1)), (y2, .inl (cD, 40, .inl G1)), (y3, .inl (cE, 20, .inl E))]) [0, 1, 2, 3] (by decide) rfl
          have hKc := hK.sub (tys' := [(cC, .int), (cD, .int), (cE, .int)]) [2, 3, 4] rfl
          have hFc := va_free (wc := [(y0, .inr (1, [.ref y1, .ref y2, .ref y3, .int (nI n), .int (nI k), .int d])), (y1, .inl (cC, 3000, .inl T1)), (y2, .inl (cD, 40, .inl G1)), (y3, .inl (cE, 20, .inl E))]) hD hS hA [0, 1, 2, 3] rfl
          refine va_calli (va_runV (As := [.int (xs (i + 1)), .int (xs (i + 2))]) (rest := [.int r344]) ⟨hx, hb, hml, hown, hts⟩ (c_M_swap l dC dI y0 y1 y2 y3 H.size n k cC cD cE T1 G1 T0 G0 hT1 hG1 hn hk E d (xs (i + 1)) (xs (i + 2))) (cwV 2 hts (gV_ (fun w h => h) k331 k332 k333 k22 k334) rfl rfl rfl (by decide +kernel) ⟨Nat.le_of_ble_eq_true rfl, Nat.le_of_ble_eq_true rfl⟩) ⟨fun a U g mk q => by obtain ⟨q0, q1, qP, qK, qD⟩ := q; exact ⟨q0, q1, qP, va_K.moved (u := U) (U := U.calling g mk a) (Vm.Alike.refl U.vm) qK, qD⟩, va_recv hKc hPc (ci := 1) (q0 := 0) rfl rfl, fun U hU hW => ⟨rfl, by rw [hU], by rw [hU]; exact hPc, va_K.moved hW.alike hKc, hDc.weaken (fun _ _ _ _ => trivial)⟩⟩ rfl rfl hl.1 rfl (lv_room (Nat.le_of_ble_eq_true rfl)) dL_law_358 ⟨Nat.le_of_ble_eq_true rfl, Nat.le_of_ble_eq_true rfl⟩) hS (fun q _ h => hFc q h) hFc (fun r358 u358 t H locs ht hvm w358 hB hz1 hk1 hS => ?_)
          try dsimp only at w358
          obtain ⟨⟨n3, T3, k3, G3⟩, E3, d3⟩ := u358
          obtain ⟨hP1, hK1, hD1⟩ := hB
          rw [ht] at hP1
          obtain ⟨hP, hD⟩ := va_join (wr := [(x0, .inr (0, [.ref x1, .ref x2, .int (nI n2), .int (nI k2)])), (x1, .inl (cA, 3000, .inl T2)), (x2, .inl (cB, 40, .inl G2))]) (w1 := [(y0, .inr (1, [.ref y1, .ref y2, .ref y3, .int (nI n3), .int (nI k3), .int d3])), (y1, .inl (cC, 3000, .inl T3)), (y2, .inl (cD, 40, .inl G3)), (y3, .inl (cE, 20, .inl E3))]) hP hD [0, 1, 2, 3] [4, 5, 6] rfl rfl (by decide) (by decide) hk1 hFc hP1 hD1
          have hP : va_P (dC, dI) vwCl [(x0, .inr (0, [.ref x1, .ref x2, .int (nI n2), .int (nI k2)])), (x1, .inl (cA, 3000, .inl T2)), (x2, .inl (cB, 40, .inl G2)), (y0, .inr (1, [.ref y1, .ref y2, .ref y3, .int (nI n3), .int (nI k3), .int d3])), (y1, .inl (cC, 3000, .inl T3)), (y2, .inl (cD, 40, .inl G3)), (y3, .inl (cE, 20, .inl E3))] H := hP
          have hD : va_D A [(x0, .inr (0, [.ref x1, .ref x2, .int (nI n2), .int (nI k2)])), (x1, .inl (cA, 3000, .inl T2)), (x2, .inl (cB, 40, .inl G2)), (y0, .inr (1, [.ref y1, .ref y2, .ref y3, .int (nI n3), .int (nI k3), .int d3])), (y1, .inl (cC, 3000, .inl T3)), (y2, .inl (cD, 40, .inl G3)), (y3, .inl (cE, 20, .inl E3))] := hD
          refine lv_icmp_eq (tgt := 622) hx hb dL_law_361 rfl (fun h361 => ?_) (fun h361 => ?_)
          · skip
            have h361 := (tl_eq (show r344.toInt = r344.toInt from rfl) (show r358.toInt = r358.toInt from rfl)).mp h361
            generalize (sp_swap (xs (i + 1)) (xs (i + 2)) n T0 k G0).2 = v at w344 w358
            obtain ⟨nv, Tv, kv, Gv⟩ := v
            obtain ⟨e1, hT, e3, hG, hn, hk⟩ := w344.2
            obtain ⟨f1, hT1, f3, hG1, -, -⟩ := w358.2
            dsimp only at e1 hT e3 hG hn hk f1 hT1 f3 hG1
            have e1 := e1.symm
            subst e1
            have e3 := e3.symm
            subst e3
            have f1 := f1.symm
            subst f1
            have f3 := f3.symm
            subst f3
            refine lv_iinc (lv' := [(3, .int (nI (i + 5))), (0, .ref b), (1, .ref x0), (2, .ref y0)]) (k := 3) (v := nI (i + 5)) hx hb dL_law_622 hl rfl (by rw [show Int32.ofInt 5 = nI 5 from by decide]; exact nI_add _ _) (by decide) rfl (fun ls hl => ?_)
            refine lv_goto (tgt := 18) hx hb dL_law_625 rfl ?_
            exact ih (i + 5) nv kv Tv Gv T2 G2 T3 G3 E3 d3 _ _ ls (by omega) (by omega) (hT) (hG) (hT1) (hG1) (hn) (hk) (lv_sub hl [1, 2, 3, 0] rfl) hP hD hS
          · skip
            have h361 := (not_congr (tl_eq (show r344.toInt = r344.toInt from rfl) (show r358.toInt = r358.toInt from rfl))).mp h361
            exact absurd (by rw [w344.1, w358.1]) h361
        by_cases hs32_6 : ((wj : Nat) : Int) = 6
        · skip
          refine lv_tableIn (off := 334) (tgt := 366) hx hb dL_law_32 (by omega) (by omega) (by rw [sw32, hs32_6]; first | done | rfl) rfl ?_
          refine lv_aload_n hx hb dL_law_366 rfl (lv_at hl 1 rfl) ?_
          refine lv_aload_n hx hb dL_law_367 rfl (lv_at hl 0 rfl) ?_
          refine lv_iload_n hx hb dL_law_368 rfl (lv_at hl 3 rfl) ?_
          refine lv_iconst (v := nI 1) hx hb dL_law_369 (by decide) ?_
          refine lv_iadd hx hb dL_law_370 ?_
          refine tl_top (nI_add _ _) ?_
          refine va_sld hx hb hX hbl hbA hS (vp_in_nI (show i + 1 < L by omega) (by omega)) dL_law_371 ?_
          refine tl_top (show xs (nI (i + 1)).toNatClampNeg = xs (i + 1) by rw [nI_clamp (by omega)]) ?_
          have hPc := hP.sub (ws' := [(x0, .inr (0, [.ref x1, .ref x2, .int (nI n), .int (nI k)])), (x1, .inl (cA, 3000, .inl T)), (x2, .inl (cB, 40, .inl G))]) [0, 1, 2] rfl
          have hDc := hD.sub (ws' := [(x0, .inr (0, [.ref x1, .ref x2, .int (nI n), .int (nI k)])), (x1, .inl (cA, 3000, .inl T)), (x2, .inl (cB, 40, .inl G))]) [0, 1, 2] (by decide) rfl
          have hKc := hK.sub (tys' := [(cA, .int), (cB, .int)]) [0, 1] rfl
          have hFc := va_free (wc := [(x0, .inr (0, [.ref x1, .ref x2, .int (nI n), .int (nI k)])), (x1, .inl (cA, 3000, .inl T)), (x2, .inl (cB, 40, .inl G))]) hD hS hA [0, 1, 2] rfl
          refine va_calli (va_runV (As := [.int (xs (i + 1))]) (rest := []) ⟨hx, hb, hml, hown, hts⟩ (c_X_take l dC dI x0 x1 x2 H.size n k cA cB T G T0 G0 hT hG hn hk (xs (i + 1))) (cwV 1 hts (gV_ (fun w h => h) k173 k174 k175 k21 k176) rfl rfl rfl (by decide +kernel) ⟨Nat.le_of_ble_eq_true rfl, Nat.le_of_ble_eq_true rfl⟩) ⟨fun a U g mk q => by obtain ⟨q0, q1, qP, qK, qD⟩ := q; exact ⟨q0, q1, qP, va_K.moved (u := U) (U := U.calling g mk a) (Vm.Alike.refl U.vm) qK, qD⟩, va_recv hKc hPc (ci := 0) (q0 := 0) rfl rfl, fun U hU hW => ⟨rfl, by rw [hU], by rw [hU]; exact hPc, va_K.moved hW.alike hKc, hDc.weaken (fun _ _ _ _ => trivial)⟩⟩ rfl rfl hl.1 rfl (lv_room (Nat.le_of_ble_eq_true rfl)) dL_law_372 ⟨Nat.le_of_ble_eq_true rfl, Nat.le_of_ble_eq_true rfl⟩) hS (fun q _ h => hFc q h) hFc (fun r372 u372 t H locs ht hvm w372 hB hz1 hk1 hS => ?_)
          try dsimp only at w372
          obtain ⟨n2, T2, k2, G2⟩ := u372
          obtain ⟨hP1, hK1, hD1⟩ := hB
          rw [ht] at hP1
          obtain ⟨hP, hD⟩ := va_join (wr := [(y0, .inr (1, [.ref y1, .ref y2, .ref y3, .int (nI n), .int (nI k), .int d])), (y1, .inl (cC, 3000, .inl T1)), (y2, .inl (cD, 40, .inl G1)), (y3, .inl (cE, 20, .inl E))]) (w1 := [(x0, .inr (0, [.ref x1, .ref x2, .int (nI n2), .int (nI k2)])), (x1, .inl (cA, 3000, .inl T2)), (x2, .inl (cB, 40, .inl G2))]) hP hD [0, 1, 2] [3, 4, 5, 6] rfl rfl (by decide) (by decide) hk1 hFc hP1 hD1
          have hP : va_P (dC, dI) vwCl [(y0, .inr (1, [.ref y1, .ref y2, .ref y3, .int (nI n), .int (nI k), .int d])), (y1, .inl (cC, 3000, .inl T1)), (y2, .inl (cD, 40, .inl G1)), (y3, .inl (cE, 20, .inl E)), (x0, .inr (0, [.ref x1, .ref x2, .int (nI n2), .int (nI k2)])), (x1, .inl (cA, 3000, .inl T2)), (x2, .inl (cB, 40, .inl G2))] H := hP
          have hD : va_D A [(y0, .inr (1, [.ref y1, .ref y2, .ref y3, .int (nI n), .int (nI k), .int d])), (y1, .inl (cC, 3000, .inl T1)), (y2, .inl (cD, 40, .inl G1)), (y3, .inl (cE, 20, .inl E)), (x0, .inr (0, [.ref x1, .ref x2, .int (nI n2), .int (nI k2)])), (x1, .inl (cA, 3000, .inl T2)), (x2, .inl (cB, 40, .inl G2))] := hD
          refine lv_aload_n hx hb dL_law_375 rfl (lv_at hl 2 rfl) ?_
          refine lv_aload_n hx hb dL_law_376 rfl (lv_at hl 0 rfl) ?_
          refine lv_iload_n hx hb dL_law_377 rfl (lv_at hl 3 rfl) ?_
          refine lv_iconst (v := nI 1) hx hb dL_law_378 (by decide) ?_
          refine lv_iadd hx hb dL_law_379 ?_
          refine tl_top (nI_add _ _) ?_
          refine va_sld hx hb hX hbl hbA hS (vp_in_nI (show i + 1 < L by omega) (by omega)) dL_law_380 ?_
          refine tl_top (show xs (nI (i + 1)).toNatClampNeg = xs (i + 1) by rw [nI_clamp (by omega)]) ?_
          have hPc := hP.sub (ws' := [(y0, .inr (1, [.ref y1, .ref y2, .ref y3, .int (nI n), .int (nI k), .int d])), (y1, .inl (cC, 3000, .inl T1)), (y2, .inl (cD, 40, .inl G1)), (y3, .inl (cE, 20, .inl E))]) [0, 1, 2, 3] rfl
          have hDc := hD.sub (ws' := [(y0, .inr (1, [.ref y1, .ref y2, .ref y3, .int (nI n), .int (nI k), .int d])), (y1, .inl (cC, 3000, .inl T1)), (y2, .inl (cD, 40, .inl G1)), (y3, .inl (cE, 20, .inl E))]) [0, 1, 2, 3] (by decide) rfl
          have hKc := hK.sub (tys' := [(cC, .int), (cD, .int), (cE, .int)]) [2, 3, 4] rfl
          have hFc := va_free (wc := [(y0, .inr (1, [.ref y1, .ref y2, .ref y3, .int (nI n), .int (nI k), .int d])), (y1, .inl (cC, 3000, .inl T1)), (y2, .inl (cD, 40, .inl G1)), (y3, .inl (cE, 20, .inl E))]) hD hS hA [0, 1, 2, 3] rfl
          refine va_calli (va_runV (As := [.int (xs (i + 1))]) (rest := [.int r372]) ⟨hx, hb, hml, hown, hts⟩ (c_M_take l dC dI y0 y1 y2 y3 H.size n k cC cD cE T1 G1 T0 G0 hT1 hG1 hn hk E d (xs (i + 1))) (cwV 1 hts (gV_ (fun w h => h) k335 k336 k337 k22 k338) rfl rfl rfl (by decide +kernel) ⟨Nat.le_of_ble_eq_true rfl, Nat.le_of_ble_eq_true rfl⟩) ⟨fun a U g mk q => by obtain ⟨q0, q1, qP, qK, qD⟩ := q; exact ⟨q0, q1, qP, va_K.moved (u := U) (U := U.calling g mk a) (Vm.Alike.refl U.vm) qK, qD⟩, va_recv hKc hPc (ci := 1) (q0 := 0) rfl rfl, fun U hU hW => ⟨rfl, by rw [hU], by rw [hU]; exact hPc, va_K.moved hW.alike hKc, hDc.weaken (fun _ _ _ _ => trivial)⟩⟩ rfl rfl hl.1 rfl (lv_room (Nat.le_of_ble_eq_true rfl)) dL_law_381 ⟨Nat.le_of_ble_eq_true rfl, Nat.le_of_ble_eq_true rfl⟩) hS (fun q _ h => hFc q h) hFc (fun r381 u381 t H locs ht hvm w381 hB hz1 hk1 hS => ?_)
          try dsimp only at w381
          obtain ⟨⟨n3, T3, k3, G3⟩, E3, d3⟩ := u381
          obtain ⟨hP1, hK1, hD1⟩ := hB
          rw [ht] at hP1
          obtain ⟨hP, hD⟩ := va_join (wr := [(x0, .inr (0, [.ref x1, .ref x2, .int (nI n2), .int (nI k2)])), (x1, .inl (cA, 3000, .inl T2)), (x2, .inl (cB, 40, .inl G2))]) (w1 := [(y0, .inr (1, [.ref y1, .ref y2, .ref y3, .int (nI n3), .int (nI k3), .int d3])), (y1, .inl (cC, 3000, .inl T3)), (y2, .inl (cD, 40, .inl G3)), (y3, .inl (cE, 20, .inl E3))]) hP hD [0, 1, 2, 3] [4, 5, 6] rfl rfl (by decide) (by decide) hk1 hFc hP1 hD1
          have hP : va_P (dC, dI) vwCl [(x0, .inr (0, [.ref x1, .ref x2, .int (nI n2), .int (nI k2)])), (x1, .inl (cA, 3000, .inl T2)), (x2, .inl (cB, 40, .inl G2)), (y0, .inr (1, [.ref y1, .ref y2, .ref y3, .int (nI n3), .int (nI k3), .int d3])), (y1, .inl (cC, 3000, .inl T3)), (y2, .inl (cD, 40, .inl G3)), (y3, .inl (cE, 20, .inl E3))] H := hP
          have hD : va_D A [(x0, .inr (0, [.ref x1, .ref x2, .int (nI n2), .int (nI k2)])), (x1, .inl (cA, 3000, .inl T2)), (x2, .inl (cB, 40, .inl G2)), (y0, .inr (1, [.ref y1, .ref y2, .ref y3, .int (nI n3), .int (nI k3), .int d3])), (y1, .inl (cC, 3000, .inl T3)), (y2, .inl (cD, 40, .inl G3)), (y3, .inl (cE, 20, .inl E3))] := hD
          refine lv_icmp_eq (tgt := 622) hx hb dL_law_384 rfl (fun h384 => ?_) (fun h384 => ?_)
          · skip
            have h384 := (tl_eq (show r372.toInt = r372.toInt from rfl) (show r381.toInt = r381.toInt from rfl)).mp h384
            generalize (sp_take (xs (i + 1)) n T0 k G0).2 = v at w372 w381
            obtain ⟨nv, Tv, kv, Gv⟩ := v
            obtain ⟨e1, hT, e3, hG, hn, hk⟩ := w372.2
            obtain ⟨f1, hT1, f3, hG1, -, -⟩ := w381.2
            dsimp only at e1 hT e3 hG hn hk f1 hT1 f3 hG1
            have e1 := e1.symm
            subst e1
            have e3 := e3.symm
            subst e3
            have f1 := f1.symm
            subst f1
            have f3 := f3.symm
            subst f3
            refine lv_iinc (lv' := [(3, .int (nI (i + 5))), (0, .ref b), (1, .ref x0), (2, .ref y0)]) (k := 3) (v := nI (i + 5)) hx hb dL_law_622 hl rfl (by rw [show Int32.ofInt 5 = nI 5 from by decide]; exact nI_add _ _) (by decide) rfl (fun ls hl => ?_)
            refine lv_goto (tgt := 18) hx hb dL_law_625 rfl ?_
            exact ih (i + 5) nv kv Tv Gv T2 G2 T3 G3 E3 d3 _ _ ls (by omega) (by omega) (hT) (hG) (hT1) (hG1) (hn) (hk) (lv_sub hl [1, 2, 3, 0] rfl) hP hD hS
          · skip
            have h384 := (not_congr (tl_eq (show r372.toInt = r372.toInt from rfl) (show r381.toInt = r381.toInt from rfl))).mp h384
            exact absurd (by rw [w372.1, w381.1]) h384
        by_cases hs32_7 : ((wj : Nat) : Int) = 7
        · skip
          refine lv_tableIn (off := 357) (tgt := 389) hx hb dL_law_32 (by omega) (by omega) (by rw [sw32, hs32_7]; first | done | rfl) rfl ?_
          refine lv_aload_n hx hb dL_law_389 rfl (lv_at hl 1 rfl) ?_
          refine lv_aload_n hx hb dL_law_390 rfl (lv_at hl 0 rfl) ?_
          refine lv_iload_n hx hb dL_law_391 rfl (lv_at hl 3 rfl) ?_
          refine lv_iconst (v := nI 1) hx hb dL_law_392 (by decide) ?_
          refine lv_iadd hx hb dL_law_393 ?_
          refine tl_top (nI_add _ _) ?_
          refine va_sld hx hb hX hbl hbA hS (vp_in_nI (show i + 1 < L by omega) (by omega)) dL_law_394 ?_
          refine tl_top (show xs (nI (i + 1)).toNatClampNeg = xs (i + 1) by rw [nI_clamp (by omega)]) ?_
          refine lv_aload_n hx hb dL_law_395 rfl (lv_at hl 0 rfl) ?_
          refine lv_iload_n hx hb dL_law_396 rfl (lv_at hl 3 rfl) ?_
          refine lv_iconst (v := nI 2) hx hb dL_law_397 (by decide) ?_
          refine lv_iadd hx hb dL_law_398 ?_
          refine tl_top (nI_add _ _) ?_
          refine va_sld hx hb hX hbl hbA hS (vp_in_nI (show i + 2 < L by omega) (by omega)) dL_law_399 ?_
          refine tl_top (show xs (nI (i + 2)).toNatClampNeg = xs (i + 2) by rw [nI_clamp (by omega)]) ?_
          have hPc := hP.sub (ws' := [(x0, .inr (0, [.ref x1, .ref x2, .int (nI n), .int (nI k)])), (x1, .inl (cA, 3000, .inl T)), (x2, .inl (cB, 40, .inl G))]) [0, 1, 2] rfl
          have hDc := hD.sub (ws' := [(x0, .inr (0, [.ref x1, .ref x2, .int (nI n), .int (nI k)])), (x1, .inl (cA, 3000, .inl T)), (x2, .inl (cB, 40, .inl G))]) [0, 1, 2] (by decide) rfl
          have hKc := hK.sub (tys' := [(cA, .int), (cB, .int)]) [0, 1] rfl
          have hFc := va_free (wc := [(x0, .inr (0, [.ref x1, .ref x2, .int (nI n), .int (nI k)])), (x1, .inl (cA, 3000, .inl T)), (x2, .inl (cB, 40, .inl G))]) hD hS hA [0, 1, 2] rfl
          refine va_calli (va_runV (As := [.int (xs (i + 1)), .int (xs (i + 2))]) (rest := []) ⟨hx, hb, hml, hown, hts⟩ (c_X_set l dC dI x0 x1 x2 H.size n k cA cB T G T0 G0 hT hG hn hk (xs (i + 1)) (xs (i + 2))) (cwV 2 hts (gV_ (fun w h => h) k181 k182 k183 k21 k184) rfl rfl rfl (by decide +kernel) ⟨Nat.le_of_ble_eq_true rfl, Nat.le_of_ble_eq_true rfl⟩) ⟨fun a U g mk q => by obtain ⟨q0, q1, qP, qK, qD⟩ := q; exact ⟨q0, q1, qP, va_K.moved (u := U) (U := U.calling g mk a) (Vm.Alike.refl U.vm) qK, qD⟩, va_recv hKc hPc (ci := 0) (q0 := 0) rfl rfl, fun U hU hW => ⟨rfl, by rw [hU], by rw [hU]; exact hPc, va_K.moved hW.alike hKc, hDc.weaken (fun _ _ _ _ => trivial)⟩⟩ rfl rfl hl.1 rfl (lv_room (Nat.le_of_ble_eq_true rfl)) dL_law_400 ⟨Nat.le_of_ble_eq_true rfl, Nat.le_of_ble_eq_true rfl⟩) hS (fun q _ h => hFc q h) hFc (fun r400 u400 t H locs ht hvm w400 hB hz1 hk1 hS => ?_)
          try dsimp only at w400
          obtain ⟨n2, T2, k2, G2⟩ := u400
          obtain ⟨hP1, hK1, hD1⟩ := hB
          rw [ht] at hP1
          obtain ⟨hP, hD⟩ := va_join (wr := [(y0, .inr (1, [.ref y1, .ref y2, .ref y3, .int (nI n), .int (nI k), .int d])), (y1, .inl (cC, 3000, .inl T1)), (y2, .inl (cD, 40, .inl G1)), (y3, .inl (cE, 20, .inl E))]) (w1 := [(x0, .inr (0, [.ref x1, .ref x2, .int (nI n2), .int (nI k2)])), (x1, .inl (cA, 3000, .inl T2)), (x2, .inl (cB, 40, .inl G2))]) hP hD [0, 1, 2] [3, 4, 5, 6] rfl rfl (by decide) (by decide) hk1 hFc hP1 hD1
          have hP : va_P (dC, dI) vwCl [(y0, .inr (1, [.ref y1, .ref y2, .ref y3, .int (nI n), .int (nI k), .int d])), (y1, .inl (cC, 3000, .inl T1)), (y2, .inl (cD, 40, .inl G1)), (y3, .inl (cE, 20, .inl E)), (x0, .inr (0, [.ref x1, .ref x2, .int (nI n2), .int (nI k2)])), (x1, .inl (cA, 3000, .inl T2)), (x2, .inl (cB, 40, .inl G2))] H := hP
          have hD : va_D A [(y0, .inr (1, [.ref y1, .ref y2, .ref y3, .int (nI n), .int (nI k), .int d])), (y1, .inl (cC, 3000, .inl T1)), (y2, .inl (cD, 40, .inl G1)), (y3, .inl (cE, 20, .inl E)), (x0, .inr (0, [.ref x1, .ref x2, .int (nI n2), .int (nI k2)])), (x1, .inl (cA, 3000, .inl T2)), (x2, .inl (cB, 40, .inl G2))] := hD
          refine lv_aload_n hx hb dL_law_403 rfl (lv_at hl 2 rfl) ?_
          refine lv_aload_n hx hb dL_law_404 rfl (lv_at hl 0 rfl) ?_
          refine lv_iload_n hx hb dL_law_405 rfl (lv_at hl 3 rfl) ?_
          refine lv_iconst (v := nI 1) hx hb dL_law_406 (by decide) ?_
          refine lv_iadd hx hb dL_law_407 ?_
          refine tl_top (nI_add _ _) ?_
          refine va_sld hx hb hX hbl hbA hS (vp_in_nI (show i + 1 < L by omega) (by omega)) dL_law_408 ?_
          refine tl_top (show xs (nI (i + 1)).toNatClampNeg = xs (i + 1) by rw [nI_clamp (by omega)]) ?_
          refine lv_aload_n hx hb dL_law_409 rfl (lv_at hl 0 rfl) ?_
          refine lv_iload_n hx hb dL_law_410 rfl (lv_at hl 3 rfl) ?_
          refine lv_iconst (v := nI 2) hx hb dL_law_411 (by decide) ?_
          refine lv_iadd hx hb dL_law_412 ?_
          refine tl_top (nI_add _ _) ?_
          refine va_sld hx hb hX hbl hbA hS (vp_in_nI (show i + 2 < L by omega) (by omega)) dL_law_413 ?_
          refine tl_top (show xs (nI (i + 2)).toNatClampNeg = xs (i + 2) by rw [nI_clamp (by omega)]) ?_
          have hPc := hP.sub (ws' := [(y0, .inr (1, [.ref y1, .ref y2, .ref y3, .int (nI n), .int (nI k), .int d])), (y1, .inl (cC, 3000, .inl T1)), (y2, .inl (cD, 40, .inl G1)), (y3, .inl (cE, 20, .inl E))]) [0, 1, 2, 3] rfl
          have hDc := hD.sub (ws' := [(y0, .inr (1, [.ref y1, .ref y2, .ref y3, .int (nI n), .int (nI k), .int d])), (y1, .inl (cC, 3000, .inl T1)), (y2, .inl (cD, 40, .inl G1)), (y3, .inl (cE, 20, .inl E))]) [0, 1, 2, 3] (by decide) rfl
          have hKc := hK.sub (tys' := [(cC, .int), (cD, .int), (cE, .int)]) [2, 3, 4] rfl
          have hFc := va_free (wc := [(y0, .inr (1, [.ref y1, .ref y2, .ref y3, .int (nI n), .int (nI k), .int d])), (y1, .inl (cC, 3000, .inl T1)), (y2, .inl (cD, 40, .inl G1)), (y3, .inl (cE, 20, .inl E))]) hD hS hA [0, 1, 2, 3] rfl
          refine va_calli (va_runV (As := [.int (xs (i + 1)), .int (xs (i + 2))]) (rest := [.int r400]) ⟨hx, hb, hml, hown, hts⟩ (c_M_set l dC dI y0 y1 y2 y3 H.size n k cC cD cE T1 G1 T0 G0 hT1 hG1 hn hk E d (xs (i + 1)) (xs (i + 2))) (cwV 2 hts (gV_ (fun w h => h) k339 k340 k341 k22 k342) rfl rfl rfl (by decide +kernel) ⟨Nat.le_of_ble_eq_true rfl, Nat.le_of_ble_eq_true rfl⟩) ⟨fun a U g mk q => by obtain ⟨q0, q1, qP, qK, qD⟩ := q; exact ⟨q0, q1, qP, va_K.moved (u := U) (U := U.calling g mk a) (Vm.Alike.refl U.vm) qK, qD⟩, va_recv hKc hPc (ci := 1) (q0 := 0) rfl rfl, fun U hU hW => ⟨rfl, by rw [hU], by rw [hU]; exact hPc, va_K.moved hW.alike hKc, hDc.weaken (fun _ _ _ _ => trivial)⟩⟩ rfl rfl hl.1 rfl (lv_room (Nat.le_of_ble_eq_true rfl)) dL_law_414 ⟨Nat.le_of_ble_eq_true rfl, Nat.le_of_ble_eq_true rfl⟩) hS (fun q _ h => hFc q h) hFc (fun r414 u414 t H locs ht hvm w414 hB hz1 hk1 hS => ?_)
          try dsimp only at w414
          obtain ⟨⟨n3, T3, k3, G3⟩, E3, d3⟩ := u414
          obtain ⟨hP1, hK1, hD1⟩ := hB
          rw [ht] at hP1
          obtain ⟨hP, hD⟩ := va_join (wr := [(x0, .inr (0, [.ref x1, .ref x2, .int (nI n2), .int (nI k2)])), (x1, .inl (cA, 3000, .inl T2)), (x2, .inl (cB, 40, .inl G2))]) (w1 := [(y0, .inr (1, [.ref y1, .ref y2, .ref y3, .int (nI n3), .int (nI k3), .int d3])), (y1, .inl (cC, 3000, .inl T3)), (y2, .inl (cD, 40, .inl G3)), (y3, .inl (cE, 20, .inl E3))]) hP hD [0, 1, 2, 3] [4, 5, 6] rfl rfl (by decide) (by decide) hk1 hFc hP1 hD1
          have hP : va_P (dC, dI) vwCl [(x0, .inr (0, [.ref x1, .ref x2, .int (nI n2), .int (nI k2)])), (x1, .inl (cA, 3000, .inl T2)), (x2, .inl (cB, 40, .inl G2)), (y0, .inr (1, [.ref y1, .ref y2, .ref y3, .int (nI n3), .int (nI k3), .int d3])), (y1, .inl (cC, 3000, .inl T3)), (y2, .inl (cD, 40, .inl G3)), (y3, .inl (cE, 20, .inl E3))] H := hP
          have hD : va_D A [(x0, .inr (0, [.ref x1, .ref x2, .int (nI n2), .int (nI k2)])), (x1, .inl (cA, 3000, .inl T2)), (x2, .inl (cB, 40, .inl G2)), (y0, .inr (1, [.ref y1, .ref y2, .ref y3, .int (nI n3), .int (nI k3), .int d3])), (y1, .inl (cC, 3000, .inl T3)), (y2, .inl (cD, 40, .inl G3)), (y3, .inl (cE, 20, .inl E3))] := hD
          refine lv_icmp_eq (tgt := 622) hx hb dL_law_417 rfl (fun h417 => ?_) (fun h417 => ?_)
          · skip
            have h417 := (tl_eq (show r400.toInt = r400.toInt from rfl) (show r414.toInt = r414.toInt from rfl)).mp h417
            generalize (sp_set (xs (i + 1)) (xs (i + 2)) n T0 k G0).2 = v at w400 w414
            obtain ⟨nv, Tv, kv, Gv⟩ := v
            obtain ⟨e1, hT, e3, hG, hn, hk⟩ := w400.2
            obtain ⟨f1, hT1, f3, hG1, -, -⟩ := w414.2
            dsimp only at e1 hT e3 hG hn hk f1 hT1 f3 hG1
            have e1 := e1.symm
            subst e1
            have e3 := e3.symm
            subst e3
            have f1 := f1.symm
            subst f1
            have f3 := f3.symm
            subst f3
            refine lv_iinc (lv' := [(3, .int (nI (i + 5))), (0, .ref b), (1, .ref x0), (2, .ref y0)]) (k := 3) (v := nI (i + 5)) hx hb dL_law_622 hl rfl (by rw [show Int32.ofInt 5 = nI 5 from by decide]; exact nI_add _ _) (by decide) rfl (fun ls hl => ?_)
            refine lv_goto (tgt := 18) hx hb dL_law_625 rfl ?_
            exact ih (i + 5) nv kv Tv Gv T2 G2 T3 G3 E3 d3 _ _ ls (by omega) (by omega) (hT) (hG) (hT1) (hG1) (hn) (hk) (lv_sub hl [1, 2, 3, 0] rfl) hP hD hS
          · skip
            have h417 := (not_congr (tl_eq (show r400.toInt = r400.toInt from rfl) (show r414.toInt = r414.toInt from rfl))).mp h417
            exact absurd (by rw [w400.1, w414.1]) h417
        by_cases hs32_8 : ((wj : Nat) : Int) = 8
        · skip
          refine lv_tableIn (off := 390) (tgt := 422) hx hb dL_law_32 (by omega) (by omega) (by rw [sw32, hs32_8]; first | done | rfl) rfl ?_
          refine lv_aload_n hx hb dL_law_422 rfl (lv_at hl 1 rfl) ?_
          refine lv_aload_n hx hb dL_law_423 rfl (lv_at hl 0 rfl) ?_
          refine lv_iload_n hx hb dL_law_424 rfl (lv_at hl 3 rfl) ?_
          refine lv_iconst (v := nI 1) hx hb dL_law_425 (by decide) ?_
          refine lv_iadd hx hb dL_law_426 ?_
          refine tl_top (nI_add _ _) ?_
          refine va_sld hx hb hX hbl hbA hS (vp_in_nI (show i + 1 < L by omega) (by omega)) dL_law_427 ?_
          refine tl_top (show xs (nI (i + 1)).toNatClampNeg = xs (i + 1) by rw [nI_clamp (by omega)]) ?_
          have hPc := hP.sub (ws' := [(x0, .inr (0, [.ref x1, .ref x2, .int (nI n), .int (nI k)])), (x1, .inl (cA, 3000, .inl T)), (x2, .inl (cB, 40, .inl G))]) [0, 1, 2] rfl
          have hKc := hK.sub (tys' := [(cA, .int), (cB, .int)]) [0, 1] rfl
          refine vp_callSi ((va_runV (As := [.int (xs (i + 1))]) (rest := []) ⟨hx, hb, hml, hown, hts⟩ (c_X_get l dC dI x0 x1 x2 n k cA cB T G T0 G0 hT hG hn hk (xs (i + 1))) (cwV 1 hts (gV_ (fun w h => h) k185 k186 k187 k21 k188) rfl rfl rfl (by decide +kernel) ⟨Nat.le_of_ble_eq_true rfl, Nat.le_of_ble_eq_true rfl⟩) ⟨fun a U g mk q => by obtain ⟨q0, qP, qK⟩ := q; exact ⟨q0, qP, va_K.moved (u := U) (U := U.calling g mk a) (Vm.Alike.refl U.vm) qK⟩, va_recv hK hP (ci := 0) (q0 := 0) rfl rfl, fun U hU hW => ⟨rfl, by rw [hU]; exact hPc, va_K.moved hW.alike hKc⟩⟩ rfl rfl hl.1 rfl (lv_room (Nat.le_of_ble_eq_true rfl)) dL_law_428 ⟨Nat.le_of_ble_eq_true rfl, Nat.le_of_ble_eq_true rfl⟩).run) (fun r428 w428 => ?_)
          try dsimp only at w428
          refine lv_aload_n hx hb dL_law_431 rfl (lv_at hl 2 rfl) ?_
          refine lv_aload_n hx hb dL_law_432 rfl (lv_at hl 0 rfl) ?_
          refine lv_iload_n hx hb dL_law_433 rfl (lv_at hl 3 rfl) ?_
          refine lv_iconst (v := nI 1) hx hb dL_law_434 (by decide) ?_
          refine lv_iadd hx hb dL_law_435 ?_
          refine tl_top (nI_add _ _) ?_
          refine va_sld hx hb hX hbl hbA hS (vp_in_nI (show i + 1 < L by omega) (by omega)) dL_law_436 ?_
          refine tl_top (show xs (nI (i + 1)).toNatClampNeg = xs (i + 1) by rw [nI_clamp (by omega)]) ?_
          have hPc := hP.sub (ws' := [(y0, .inr (1, [.ref y1, .ref y2, .ref y3, .int (nI n), .int (nI k), .int d])), (y1, .inl (cC, 3000, .inl T1)), (y2, .inl (cD, 40, .inl G1)), (y3, .inl (cE, 20, .inl E))]) [3, 4, 5, 6] rfl
          have hKc := hK.sub (tys' := [(cC, .int), (cD, .int), (cE, .int)]) [2, 3, 4] rfl
          refine vp_callSi ((va_runV (As := [.int (xs (i + 1))]) (rest := [.int r428]) ⟨hx, hb, hml, hown, hts⟩ (c_M_get l dC dI y0 y1 y2 y3 n k cC cD cE T1 G1 T0 G0 hT1 hG1 hn hk E d (xs (i + 1))) (cwV 1 hts (gV_ (fun w h => h) k343 k344 k345 k22 k346) rfl rfl rfl (by decide +kernel) ⟨Nat.le_of_ble_eq_true rfl, Nat.le_of_ble_eq_true rfl⟩) ⟨fun a U g mk q => by obtain ⟨q0, qP, qK⟩ := q; exact ⟨q0, qP, va_K.moved (u := U) (U := U.calling g mk a) (Vm.Alike.refl U.vm) qK⟩, va_recv hK hP (ci := 1) (q0 := 3) rfl rfl, fun U hU hW => ⟨rfl, by rw [hU]; exact hPc, va_K.moved hW.alike hKc⟩⟩ rfl rfl hl.1 rfl (lv_room (Nat.le_of_ble_eq_true rfl)) dL_law_437 ⟨Nat.le_of_ble_eq_true rfl, Nat.le_of_ble_eq_true rfl⟩).run) (fun r437 w437 => ?_)
          try dsimp only at w437
          refine lv_icmp_eq (tgt := 622) hx hb dL_law_440 rfl (fun h440 => ?_) (fun h440 => ?_)
          · skip
            have h440 := (tl_eq (show r428.toInt = r428.toInt from rfl) (show r437.toInt = r437.toInt from rfl)).mp h440
            refine lv_iinc (lv' := [(3, .int (nI (i + 5))), (0, .ref b), (1, .ref x0), (2, .ref y0)]) (k := 3) (v := nI (i + 5)) hx hb dL_law_622 hl rfl (by rw [show Int32.ofInt 5 = nI 5 from by decide]; exact nI_add _ _) (by decide) rfl (fun ls hl => ?_)
            refine lv_goto (tgt := 18) hx hb dL_law_625 rfl ?_
            exact ih (i + 5) n k T0 G0 T G T1 G1 E d _ _ ls (by omega) (by omega) (hT) (hG) (hT1) (hG1) (hn) (hk) (lv_sub hl [1, 2, 3, 0] rfl) hP hD hS
          · skip
            have h440 := (not_congr (tl_eq (show r428.toInt = r428.toInt from rfl) (show r437.toInt = r437.toInt from rfl))).mp h440
            exact absurd (by rw [w428, w437]) h440
        by_cases hs32_9 : ((wj : Nat) : Int) = 9
        · skip
          refine lv_tableIn (off := 413) (tgt := 445) hx hb dL_law_32 (by omega) (by omega) (by rw [sw32, hs32_9]; first | done | rfl) rfl ?_
          refine lv_aload_n hx hb dL_law_445 rfl (lv_at hl 1 rfl) ?_
          have hPc := hP.sub (ws' := [(x0, .inr (0, [.ref x1, .ref x2, .int (nI n), .int (nI k)])), (x1, .inl (cA, 3000, .inl T)), (x2, .inl (cB, 40, .inl G))]) [0, 1, 2] rfl
          have hDc := hD.sub (ws' := [(x0, .inr (0, [.ref x1, .ref x2, .int (nI n), .int (nI k)])), (x1, .inl (cA, 3000, .inl T)), (x2, .inl (cB, 40, .inl G))]) [0, 1, 2] (by decide) rfl
          have hKc := hK.sub (tys' := [(cA, .int), (cB, .int)]) [0, 1] rfl
          have hFc := va_free (wc := [(x0, .inr (0, [.ref x1, .ref x2, .int (nI n), .int (nI k)])), (x1, .inl (cA, 3000, .inl T)), (x2, .inl (cB, 40, .inl G))]) hD hS hA [0, 1, 2] rfl
          refine va_calli (va_runV (As := []) (rest := []) ⟨hx, hb, hml, hown, hts⟩ (c_X_turn l dC dI x0 x1 x2 H.size n k cA cB T G T0 G0 hT hG hn hk ) (cwV 0 hts (gV_ (fun w h => h) k189 k190 k191 k21 k192) rfl rfl rfl (by decide +kernel) ⟨Nat.le_of_ble_eq_true rfl, Nat.le_of_ble_eq_true rfl⟩) ⟨fun a U g mk q => by obtain ⟨q0, q1, qP, qK, qD⟩ := q; exact ⟨q0, q1, qP, va_K.moved (u := U) (U := U.calling g mk a) (Vm.Alike.refl U.vm) qK, qD⟩, va_recv hKc hPc (ci := 0) (q0 := 0) rfl rfl, fun U hU hW => ⟨rfl, by rw [hU], by rw [hU]; exact hPc, va_K.moved hW.alike hKc, hDc.weaken (fun _ _ _ _ => trivial)⟩⟩ rfl rfl hl.1 rfl (lv_room (Nat.le_of_ble_eq_true rfl)) dL_law_446 ⟨Nat.le_of_ble_eq_true rfl, Nat.le_of_ble_eq_true rfl⟩) hS (fun q _ h => hFc q h) hFc (fun r446 u446 t H locs ht hvm w446 hB hz1 hk1 hS => ?_)
          try dsimp only at w446
          obtain ⟨n2, T2, k2, G2⟩ := u446
          obtain ⟨hP1, hK1, hD1⟩ := hB
          rw [ht] at hP1
          obtain ⟨hP, hD⟩ := va_join (wr := [(y0, .inr (1, [.ref y1, .ref y2, .ref y3, .int (nI n), .int (nI k), .int d])), (y1, .inl (cC, 3000, .inl T1)), (y2, .inl (cD, 40, .inl G1)), (y3, .inl (cE, 20, .inl E))]) (w1 := [(x0, .inr (0, [.ref x1, .ref x2, .int (nI n2), .int (nI k2)])), (x1, .inl (cA, 3000, .inl T2)), (x2, .inl (cB, 40, .inl G2))]) hP hD [0, 1, 2] [3, 4, 5, 6] rfl rfl (by decide) (by decide) hk1 hFc hP1 hD1
          have hP : va_P (dC, dI) vwCl [(y0, .inr (1, [.ref y1, .ref y2, .ref y3, .int (nI n), .int (nI k), .int d])), (y1, .inl (cC, 3000, .inl T1)), (y2, .inl (cD, 40, .inl G1)), (y3, .inl (cE, 20, .inl E)), (x0, .inr (0, [.ref x1, .ref x2, .int (nI n2), .int (nI k2)])), (x1, .inl (cA, 3000, .inl T2)), (x2, .inl (cB, 40, .inl G2))] H := hP
          have hD : va_D A [(y0, .inr (1, [.ref y1, .ref y2, .ref y3, .int (nI n), .int (nI k), .int d])), (y1, .inl (cC, 3000, .inl T1)), (y2, .inl (cD, 40, .inl G1)), (y3, .inl (cE, 20, .inl E)), (x0, .inr (0, [.ref x1, .ref x2, .int (nI n2), .int (nI k2)])), (x1, .inl (cA, 3000, .inl T2)), (x2, .inl (cB, 40, .inl G2))] := hD
          refine lv_aload_n hx hb dL_law_449 rfl (lv_at hl 2 rfl) ?_
          have hPc := hP.sub (ws' := [(y0, .inr (1, [.ref y1, .ref y2, .ref y3, .int (nI n), .int (nI k), .int d])), (y1, .inl (cC, 3000, .inl T1)), (y2, .inl (cD, 40, .inl G1)), (y3, .inl (cE, 20, .inl E))]) [0, 1, 2, 3] rfl
          have hDc := hD.sub (ws' := [(y0, .inr (1, [.ref y1, .ref y2, .ref y3, .int (nI n), .int (nI k), .int d])), (y1, .inl (cC, 3000, .inl T1)), (y2, .inl (cD, 40, .inl G1)), (y3, .inl (cE, 20, .inl E))]) [0, 1, 2, 3] (by decide) rfl
          have hKc := hK.sub (tys' := [(cC, .int), (cD, .int), (cE, .int)]) [2, 3, 4] rfl
          have hFc := va_free (wc := [(y0, .inr (1, [.ref y1, .ref y2, .ref y3, .int (nI n), .int (nI k), .int d])), (y1, .inl (cC, 3000, .inl T1)), (y2, .inl (cD, 40, .inl G1)), (y3, .inl (cE, 20, .inl E))]) hD hS hA [0, 1, 2, 3] rfl
          refine va_calli (va_runV (As := []) (rest := [.int r446]) ⟨hx, hb, hml, hown, hts⟩ (c_M_turn l dC dI y0 y1 y2 y3 H.size n k cC cD cE T1 G1 T0 G0 hT1 hG1 hn hk E d ) (cwV 0 hts (gV_ (fun w h => h) k347 k348 k349 k22 k350) rfl rfl rfl (by decide +kernel) ⟨Nat.le_of_ble_eq_true rfl, Nat.le_of_ble_eq_true rfl⟩) ⟨fun a U g mk q => by obtain ⟨q0, q1, qP, qK, qD⟩ := q; exact ⟨q0, q1, qP, va_K.moved (u := U) (U := U.calling g mk a) (Vm.Alike.refl U.vm) qK, qD⟩, va_recv hKc hPc (ci := 1) (q0 := 0) rfl rfl, fun U hU hW => ⟨rfl, by rw [hU], by rw [hU]; exact hPc, va_K.moved hW.alike hKc, hDc.weaken (fun _ _ _ _ => trivial)⟩⟩ rfl rfl hl.1 rfl (lv_room (Nat.le_of_ble_eq_true rfl)) dL_law_450 ⟨Nat.le_of_ble_eq_true rfl, Nat.le_of_ble_eq_true rfl⟩) hS (fun q _ h => hFc q h) hFc (fun r450 u450 t H locs ht hvm w450 hB hz1 hk1 hS => ?_)
          try dsimp only at w450
          obtain ⟨⟨n3, T3, k3, G3⟩, E3, d3⟩ := u450
          obtain ⟨hP1, hK1, hD1⟩ := hB
          rw [ht] at hP1
          obtain ⟨hP, hD⟩ := va_join (wr := [(x0, .inr (0, [.ref x1, .ref x2, .int (nI n2), .int (nI k2)])), (x1, .inl (cA, 3000, .inl T2)), (x2, .inl (cB, 40, .inl G2))]) (w1 := [(y0, .inr (1, [.ref y1, .ref y2, .ref y3, .int (nI n3), .int (nI k3), .int d3])), (y1, .inl (cC, 3000, .inl T3)), (y2, .inl (cD, 40, .inl G3)), (y3, .inl (cE, 20, .inl E3))]) hP hD [0, 1, 2, 3] [4, 5, 6] rfl rfl (by decide) (by decide) hk1 hFc hP1 hD1
          have hP : va_P (dC, dI) vwCl [(x0, .inr (0, [.ref x1, .ref x2, .int (nI n2), .int (nI k2)])), (x1, .inl (cA, 3000, .inl T2)), (x2, .inl (cB, 40, .inl G2)), (y0, .inr (1, [.ref y1, .ref y2, .ref y3, .int (nI n3), .int (nI k3), .int d3])), (y1, .inl (cC, 3000, .inl T3)), (y2, .inl (cD, 40, .inl G3)), (y3, .inl (cE, 20, .inl E3))] H := hP
          have hD : va_D A [(x0, .inr (0, [.ref x1, .ref x2, .int (nI n2), .int (nI k2)])), (x1, .inl (cA, 3000, .inl T2)), (x2, .inl (cB, 40, .inl G2)), (y0, .inr (1, [.ref y1, .ref y2, .ref y3, .int (nI n3), .int (nI k3), .int d3])), (y1, .inl (cC, 3000, .inl T3)), (y2, .inl (cD, 40, .inl G3)), (y3, .inl (cE, 20, .inl E3))] := hD
          refine lv_icmp_eq (tgt := 622) hx hb dL_law_453 rfl (fun h453 => ?_) (fun h453 => ?_)
          · skip
            have h453 := (tl_eq (show r446.toInt = r446.toInt from rfl) (show r450.toInt = r450.toInt from rfl)).mp h453
            generalize (sp_turn  n T0 k G0).2 = v at w446 w450
            obtain ⟨nv, Tv, kv, Gv⟩ := v
            obtain ⟨e1, hT, e3, hG, hn, hk⟩ := w446.2
            obtain ⟨f1, hT1, f3, hG1, -, -⟩ := w450.2
            dsimp only at e1 hT e3 hG hn hk f1 hT1 f3 hG1
            have e1 := e1.symm
            subst e1
            have e3 := e3.symm
            subst e3
            have f1 := f1.symm
            subst f1
            have f3 := f3.symm
            subst f3
            refine lv_iinc (lv' := [(3, .int (nI (i + 5))), (0, .ref b), (1, .ref x0), (2, .ref y0)]) (k := 3) (v := nI (i + 5)) hx hb dL_law_622 hl rfl (by rw [show Int32.ofInt 5 = nI 5 from by decide]; exact nI_add _ _) (by decide) rfl (fun ls hl => ?_)
            refine lv_goto (tgt := 18) hx hb dL_law_625 rfl ?_
            exact ih (i + 5) nv kv Tv Gv T2 G2 T3 G3 E3 d3 _ _ ls (by omega) (by omega) (hT) (hG) (hT1) (hG1) (hn) (hk) (lv_sub hl [1, 2, 3, 0] rfl) hP hD hS
          · skip
            have h453 := (not_congr (tl_eq (show r446.toInt = r446.toInt from rfl) (show r450.toInt = r450.toInt from rfl))).mp h453
            exact absurd (by rw [w446.1, w450.1]) h453
        by_cases hs32_10 : ((wj : Nat) : Int) = 10
        · skip
          refine lv_tableIn (off := 426) (tgt := 458) hx hb dL_law_32 (by omega) (by omega) (by rw [sw32, hs32_10]; first | done | rfl) rfl ?_
          refine lv_aload_n hx hb dL_law_458 rfl (lv_at hl 1 rfl) ?_
          refine lv_aload_n hx hb dL_law_459 rfl (lv_at hl 0 rfl) ?_
          refine lv_iload_n hx hb dL_law_460 rfl (lv_at hl 3 rfl) ?_
          refine lv_iconst (v := nI 1) hx hb dL_law_461 (by decide) ?_
          refine lv_iadd hx hb dL_law_462 ?_
          refine tl_top (nI_add _ _) ?_
          refine va_sld hx hb hX hbl hbA hS (vp_in_nI (show i + 1 < L by omega) (by omega)) dL_law_463 ?_
          refine tl_top (show xs (nI (i + 1)).toNatClampNeg = xs (i + 1) by rw [nI_clamp (by omega)]) ?_
          refine lv_aload_n hx hb dL_law_464 rfl (lv_at hl 0 rfl) ?_
          refine lv_iload_n hx hb dL_law_465 rfl (lv_at hl 3 rfl) ?_
          refine lv_iconst (v := nI 2) hx hb dL_law_466 (by decide) ?_
          refine lv_iadd hx hb dL_law_467 ?_
          refine tl_top (nI_add _ _) ?_
          refine va_sld hx hb hX hbl hbA hS (vp_in_nI (show i + 2 < L by omega) (by omega)) dL_law_468 ?_
          refine tl_top (show xs (nI (i + 2)).toNatClampNeg = xs (i + 2) by rw [nI_clamp (by omega)]) ?_
          refine lv_if_eq (tgt := 476) hx hb dL_law_469 rfl (fun h469 => ?_) (fun h469 => ?_)
          · skip
            have h469 := (tl_eq (show (xs (i + 2)).toInt = (xs (i + 2)).toInt from rfl) (show (0 : Int32).toInt = (0 : Int) from Int32.toInt_zero)).mp h469
            refine lv_iconst (v := nI 0) hx hb dL_law_476 (by decide) ?_
            have ea477_1 : (nI 0).toInt = (0 : Int) := (by decide)
            have hPc := hP.sub (ws' := [(x0, .inr (0, [.ref x1, .ref x2, .int (nI n), .int (nI k)])), (x1, .inl (cA, 3000, .inl T)), (x2, .inl (cB, 40, .inl G))]) [0, 1, 2] rfl
            have hKc := hK.sub (tys' := [(cA, .int), (cB, .int)]) [0, 1] rfl
            refine vp_callSi ((va_runV (As := [.int (xs (i + 1)), .int (nI 0)]) (rest := []) ⟨hx, hb, hml, hown, hts⟩ (c_X_find l dC dI x0 x1 x2 n k cA cB T G T0 G0 hT hG hn hk (xs (i + 1)) (nI 0)) (cwV 2 hts (gV_ (fun w h => h) k193 k194 k195 k21 k196) rfl rfl rfl (by decide +kernel) ⟨Nat.le_of_ble_eq_true rfl, Nat.le_of_ble_eq_true rfl⟩) ⟨fun a U g mk q => by obtain ⟨q0, qP, qK⟩ := q; exact ⟨q0, qP, va_K.moved (u := U) (U := U.calling g mk a) (Vm.Alike.refl U.vm) qK⟩, va_recv hK hP (ci := 0) (q0 := 0) rfl rfl, fun U hU hW => ⟨rfl, by rw [hU]; exact hPc, va_K.moved hW.alike hKc⟩⟩ rfl rfl hl.1 rfl (lv_room (Nat.le_of_ble_eq_true rfl)) dL_law_477 ⟨Nat.le_of_ble_eq_true rfl, Nat.le_of_ble_eq_true rfl⟩).run) (fun r477 w477 => ?_)
            try dsimp only at w477
            refine lv_aload_n hx hb dL_law_480 rfl (lv_at hl 2 rfl) ?_
            refine lv_aload_n hx hb dL_law_481 rfl (lv_at hl 0 rfl) ?_
            refine lv_iload_n hx hb dL_law_482 rfl (lv_at hl 3 rfl) ?_
            refine lv_iconst (v := nI 1) hx hb dL_law_483 (by decide) ?_
            refine lv_iadd hx hb dL_law_484 ?_
            refine tl_top (nI_add _ _) ?_
            refine va_sld hx hb hX hbl hbA hS (vp_in_nI (show i + 1 < L by omega) (by omega)) dL_law_485 ?_
            refine tl_top (show xs (nI (i + 1)).toNatClampNeg = xs (i + 1) by rw [nI_clamp (by omega)]) ?_
            refine lv_aload_n hx hb dL_law_486 rfl (lv_at hl 0 rfl) ?_
            refine lv_iload_n hx hb dL_law_487 rfl (lv_at hl 3 rfl) ?_
            refine lv_iconst (v := nI 2) hx hb dL_law_488 (by decide) ?_
            refine lv_iadd hx hb dL_law_489 ?_
            refine tl_top (nI_add _ _) ?_
            refine va_sld hx hb hX hbl hbA hS (vp_in_nI (show i + 2 < L by omega) (by omega)) dL_law_490 ?_
            refine tl_top (show xs (nI (i + 2)).toNatClampNeg = xs (i + 2) by rw [nI_clamp (by omega)]) ?_
            refine lv_if_eq (tgt := 498) hx hb dL_law_491 rfl (fun h491 => ?_) (fun h491 => ?_)
            · skip
              have h491 := (tl_eq (show (xs (i + 2)).toInt = (xs (i + 2)).toInt from rfl) (show (0 : Int32).toInt = (0 : Int) from Int32.toInt_zero)).mp h491
              refine lv_iconst (v := nI 0) hx hb dL_law_498 (by decide) ?_
              have ea499_1 : (nI 0).toInt = (0 : Int) := (by decide)
              have hPc := hP.sub (ws' := [(y0, .inr (1, [.ref y1, .ref y2, .ref y3, .int (nI n), .int (nI k), .int d])), (y1, .inl (cC, 3000, .inl T1)), (y2, .inl (cD, 40, .inl G1)), (y3, .inl (cE, 20, .inl E))]) [3, 4, 5, 6] rfl
              have hKc := hK.sub (tys' := [(cC, .int), (cD, .int), (cE, .int)]) [2, 3, 4] rfl
              refine vp_callSi ((va_runV (As := [.int (xs (i + 1)), .int (nI 0)]) (rest := [.int r477]) ⟨hx, hb, hml, hown, hts⟩ (c_M_find l dC dI y0 y1 y2 y3 n k cC cD cE T1 G1 T0 G0 hT1 hG1 hn hk E d (xs (i + 1)) (nI 0)) (cwV 2 hts (gV_ (fun w h => h) k355 k356 k357 k22 k358) rfl rfl rfl (by decide +kernel) ⟨Nat.le_of_ble_eq_true rfl, Nat.le_of_ble_eq_true rfl⟩) ⟨fun a U g mk q => by obtain ⟨q0, qP, qK⟩ := q; exact ⟨q0, qP, va_K.moved (u := U) (U := U.calling g mk a) (Vm.Alike.refl U.vm) qK⟩, va_recv hK hP (ci := 1) (q0 := 3) rfl rfl, fun U hU hW => ⟨rfl, by rw [hU]; exact hPc, va_K.moved hW.alike hKc⟩⟩ rfl rfl hl.1 rfl (lv_room (Nat.le_of_ble_eq_true rfl)) dL_law_499 ⟨Nat.le_of_ble_eq_true rfl, Nat.le_of_ble_eq_true rfl⟩).run) (fun r499 w499 => ?_)
              try dsimp only at w499
              refine lv_icmp_eq (tgt := 622) hx hb dL_law_502 rfl (fun h502 => ?_) (fun h502 => ?_)
              · skip
                have h502 := (tl_eq (show r477.toInt = r477.toInt from rfl) (show r499.toInt = r499.toInt from rfl)).mp h502
                refine lv_iinc (lv' := [(3, .int (nI (i + 5))), (0, .ref b), (1, .ref x0), (2, .ref y0)]) (k := 3) (v := nI (i + 5)) hx hb dL_law_622 hl rfl (by rw [show Int32.ofInt 5 = nI 5 from by decide]; exact nI_add _ _) (by decide) rfl (fun ls hl => ?_)
                refine lv_goto (tgt := 18) hx hb dL_law_625 rfl ?_
                exact ih (i + 5) n k T0 G0 T G T1 G1 E d _ _ ls (by omega) (by omega) (hT) (hG) (hT1) (hG1) (hn) (hk) (lv_sub hl [1, 2, 3, 0] rfl) hP hD hS
              · skip
                have h502 := (not_congr (tl_eq (show r477.toInt = r477.toInt from rfl) (show r499.toInt = r499.toInt from rfl))).mp h502
                exact absurd (by rw [w477, w499]) h502
            · skip
              have h491 := (not_congr (tl_eq (show (xs (i + 2)).toInt = (xs (i + 2)).toInt from rfl) (show (0 : Int32).toInt = (0 : Int) from Int32.toInt_zero))).mp h491
              exfalso; omega
          · skip
            have h469 := (not_congr (tl_eq (show (xs (i + 2)).toInt = (xs (i + 2)).toInt from rfl) (show (0 : Int32).toInt = (0 : Int) from Int32.toInt_zero))).mp h469
            refine lv_iconst (v := nI 1) hx hb dL_law_472 (by decide) ?_
            refine lv_goto (tgt := 477) hx hb dL_law_473 rfl ?_
            have ea477_1 : (nI 1).toInt = (1 : Int) := (by decide)
            have hPc := hP.sub (ws' := [(x0, .inr (0, [.ref x1, .ref x2, .int (nI n), .int (nI k)])), (x1, .inl (cA, 3000, .inl T)), (x2, .inl (cB, 40, .inl G))]) [0, 1, 2] rfl
            have hKc := hK.sub (tys' := [(cA, .int), (cB, .int)]) [0, 1] rfl
            refine vp_callSi ((va_runV (As := [.int (xs (i + 1)), .int (nI 1)]) (rest := []) ⟨hx, hb, hml, hown, hts⟩ (c_X_find l dC dI x0 x1 x2 n k cA cB T G T0 G0 hT hG hn hk (xs (i + 1)) (nI 1)) (cwV 2 hts (gV_ (fun w h => h) k193 k194 k195 k21 k196) rfl rfl rfl (by decide +kernel) ⟨Nat.le_of_ble_eq_true rfl, Nat.le_of_ble_eq_true rfl⟩) ⟨fun a U g mk q => by obtain ⟨q0, qP, qK⟩ := q; exact ⟨q0, qP, va_K.moved (u := U) (U := U.calling g mk a) (Vm.Alike.refl U.vm) qK⟩, va_recv hK hP (ci := 0) (q0 := 0) rfl rfl, fun U hU hW => ⟨rfl, by rw [hU]; exact hPc, va_K.moved hW.alike hKc⟩⟩ rfl rfl hl.1 rfl (lv_room (Nat.le_of_ble_eq_true rfl)) dL_law_477 ⟨Nat.le_of_ble_eq_true rfl, Nat.le_of_ble_eq_true rfl⟩).run) (fun r477 w477 => ?_)
            try dsimp only at w477
            refine lv_aload_n hx hb dL_law_480 rfl (lv_at hl 2 rfl) ?_
            refine lv_aload_n hx hb dL_law_481 rfl (lv_at hl 0 rfl) ?_
            refine lv_iload_n hx hb dL_law_482 rfl (lv_at hl 3 rfl) ?_
            refine lv_iconst (v := nI 1) hx hb dL_law_483 (by decide) ?_
            refine lv_iadd hx hb dL_law_484 ?_
            refine tl_top (nI_add _ _) ?_
            refine va_sld hx hb hX hbl hbA hS (vp_in_nI (show i + 1 < L by omega) (by omega)) dL_law_485 ?_
            refine tl_top (show xs (nI (i + 1)).toNatClampNeg = xs (i + 1) by rw [nI_clamp (by omega)]) ?_
            refine lv_aload_n hx hb dL_law_486 rfl (lv_at hl 0 rfl) ?_
            refine lv_iload_n hx hb dL_law_487 rfl (lv_at hl 3 rfl) ?_
            refine lv_iconst (v := nI 2) hx hb dL_law_488 (by decide) ?_
            refine lv_iadd hx hb dL_law_489 ?_
            refine tl_top (nI_add _ _) ?_
            refine va_sld hx hb hX hbl hbA hS (vp_in_nI (show i + 2 < L by omega) (by omega)) dL_law_490 ?_
            refine tl_top (show xs (nI (i + 2)).toNatClampNeg = xs (i + 2) by rw [nI_clamp (by omega)]) ?_
            refine lv_if_eq (tgt := 498) hx hb dL_law_491 rfl (fun h491 => ?_) (fun h491 => ?_)
            · skip
              have h491 := (tl_eq (show (xs (i + 2)).toInt = (xs (i + 2)).toInt from rfl) (show (0 : Int32).toInt = (0 : Int) from Int32.toInt_zero)).mp h491
              exfalso; omega
            · skip
              have h491 := (not_congr (tl_eq (show (xs (i + 2)).toInt = (xs (i + 2)).toInt from rfl) (show (0 : Int32).toInt = (0 : Int) from Int32.toInt_zero))).mp h491
              refine lv_iconst (v := nI 1) hx hb dL_law_494 (by decide) ?_
              refine lv_goto (tgt := 499) hx hb dL_law_495 rfl ?_
              have ea499_1 : (nI 1).toInt = (1 : Int) := (by decide)
              have hPc := hP.sub (ws' := [(y0, .inr (1, [.ref y1, .ref y2, .ref y3, .int (nI n), .int (nI k), .int d])), (y1, .inl (cC, 3000, .inl T1)), (y2, .inl (cD, 40, .inl G1)), (y3, .inl (cE, 20, .inl E))]) [3, 4, 5, 6] rfl
              have hKc := hK.sub (tys' := [(cC, .int), (cD, .int), (cE, .int)]) [2, 3, 4] rfl
              refine vp_callSi ((va_runV (As := [.int (xs (i + 1)), .int (nI 1)]) (rest := [.int r477]) ⟨hx, hb, hml, hown, hts⟩ (c_M_find l dC dI y0 y1 y2 y3 n k cC cD cE T1 G1 T0 G0 hT1 hG1 hn hk E d (xs (i + 1)) (nI 1)) (cwV 2 hts (gV_ (fun w h => h) k355 k356 k357 k22 k358) rfl rfl rfl (by decide +kernel) ⟨Nat.le_of_ble_eq_true rfl, Nat.le_of_ble_eq_true rfl⟩) ⟨fun a U g mk q => by obtain ⟨q0, qP, qK⟩ := q; exact ⟨q0, qP, va_K.moved (u := U) (U := U.calling g mk a) (Vm.Alike.refl U.vm) qK⟩, va_recv hK hP (ci := 1) (q0 := 3) rfl rfl, fun U hU hW => ⟨rfl, by rw [hU]; exact hPc, va_K.moved hW.alike hKc⟩⟩ rfl rfl hl.1 rfl (lv_room (Nat.le_of_ble_eq_true rfl)) dL_law_499 ⟨Nat.le_of_ble_eq_true rfl, Nat.le_of_ble_eq_true rfl⟩).run) (fun r499 w499 => ?_)
              try dsimp only at w499
              refine lv_icmp_eq (tgt := 622) hx hb dL_law_502 rfl (fun h502 => ?_) (fun h502 => ?_)
              · skip
                have h502 := (tl_eq (show r477.toInt = r477.toInt from rfl) (show r499.toInt = r499.toInt from rfl)).mp h502
                refine lv_iinc (lv' := [(3, .int (nI (i + 5))), (0, .ref b), (1, .ref x0), (2, .ref y0)]) (k := 3) (v := nI (i + 5)) hx hb dL_law_622 hl rfl (by rw [show Int32.ofInt 5 = nI 5 from by decide]; exact nI_add _ _) (by decide) rfl (fun ls hl => ?_)
                refine lv_goto (tgt := 18) hx hb dL_law_625 rfl ?_
                exact ih (i + 5) n k T0 G0 T G T1 G1 E d _ _ ls (by omega) (by omega) (hT) (hG) (hT1) (hG1) (hn) (hk) (lv_sub hl [1, 2, 3, 0] rfl) hP hD hS
              · skip
                have h502 := (not_congr (tl_eq (show r477.toInt = r477.toInt from rfl) (show r499.toInt = r499.toInt from rfl))).mp h502
                exact absurd (by rw [w477, w499]) h502
        by_cases hs32_11 : ((wj : Nat) : Int) = 11
        · skip
          refine lv_tableIn (off := 475) (tgt := 507) hx hb dL_law_32 (by omega) (by omega) (by rw [sw32, hs32_11]; first | done | rfl) rfl ?_
          refine lv_aload_n hx hb dL_law_507 rfl (lv_at hl 1 rfl) ?_
          refine lv_aload_n hx hb dL_law_508 rfl (lv_at hl 0 rfl) ?_
          refine lv_iload_n hx hb dL_law_509 rfl (lv_at hl 3 rfl) ?_
          refine lv_iconst (v := nI 1) hx hb dL_law_510 (by decide) ?_
          refine lv_iadd hx hb dL_law_511 ?_
          refine tl_top (nI_add _ _) ?_
          refine va_sld hx hb hX hbl hbA hS (vp_in_nI (show i + 1 < L by omega) (by omega)) dL_law_512 ?_
          refine tl_top (show xs (nI (i + 1)).toNatClampNeg = xs (i + 1) by rw [nI_clamp (by omega)]) ?_
          have hPc := hP.sub (ws' := [(x0, .inr (0, [.ref x1, .ref x2, .int (nI n), .int (nI k)])), (x1, .inl (cA, 3000, .inl T)), (x2, .inl (cB, 40, .inl G))]) [0, 1, 2] rfl
          have hDc := hD.sub (ws' := [(x0, .inr (0, [.ref x1, .ref x2, .int (nI n), .int (nI k)])), (x1, .inl (cA, 3000, .inl T)), (x2, .inl (cB, 40, .inl G))]) [0, 1, 2] (by decide) rfl
          have hKc := hK.sub (tys' := [(cA, .int), (cB, .int)]) [0, 1] rfl
          have hFc := va_free (wc := [(x0, .inr (0, [.ref x1, .ref x2, .int (nI n), .int (nI k)])), (x1, .inl (cA, 3000, .inl T)), (x2, .inl (cB, 40, .inl G))]) hD hS hA [0, 1, 2] rfl
          refine va_calli (va_runV (As := [.int (xs (i + 1))]) (rest := []) ⟨hx, hb, hml, hown, hts⟩ (c_X_length l dC dI x0 x1 x2 H.size n k cA cB T G T0 G0 hT hG hn hk (xs (i + 1))) (cwV 1 hts (gV_ (fun w h => h) k212 k213 k214 k21 k215) rfl rfl rfl (by decide +kernel) ⟨Nat.le_of_ble_eq_true rfl, Nat.le_of_ble_eq_true rfl⟩) ⟨fun a U g mk q => by obtain ⟨q0, q1, qP, qK, qD⟩ := q; exact ⟨q0, q1, qP, va_K.moved (u := U) (U := U.calling g mk a) (Vm.Alike.refl U.vm) qK, qD⟩, va_recv hKc hPc (ci := 0) (q0 := 0) rfl rfl, fun U hU hW => ⟨rfl, by rw [hU], by rw [hU]; exact hPc, va_K.moved hW.alike hKc, hDc.weaken (fun _ _ _ _ => trivial)⟩⟩ rfl rfl hl.1 rfl (lv_room (Nat.le_of_ble_eq_true rfl)) dL_law_513 ⟨Nat.le_of_ble_eq_true rfl, Nat.le_of_ble_eq_true rfl⟩) hS (fun q _ h => hFc q h) hFc (fun r513 u513 t H locs ht hvm w513 hB hz1 hk1 hS => ?_)
          try dsimp only at w513
          obtain ⟨n2, T2, k2, G2⟩ := u513
          obtain ⟨hP1, hK1, hD1⟩ := hB
          rw [ht] at hP1
          obtain ⟨hP, hD⟩ := va_join (wr := [(y0, .inr (1, [.ref y1, .ref y2, .ref y3, .int (nI n), .int (nI k), .int d])), (y1, .inl (cC, 3000, .inl T1)), (y2, .inl (cD, 40, .inl G1)), (y3, .inl (cE, 20, .inl E))]) (w1 := [(x0, .inr (0, [.ref x1, .ref x2, .int (nI n2), .int (nI k2)])), (x1, .inl (cA, 3000, .inl T2)), (x2, .inl (cB, 40, .inl G2))]) hP hD [0, 1, 2] [3, 4, 5, 6] rfl rfl (by decide) (by decide) hk1 hFc hP1 hD1
          have hP : va_P (dC, dI) vwCl [(y0, .inr (1, [.ref y1, .ref y2, .ref y3, .int (nI n), .int (nI k), .int d])), (y1, .inl (cC, 3000, .inl T1)), (y2, .inl (cD, 40, .inl G1)), (y3, .inl (cE, 20, .inl E)), (x0, .inr (0, [.ref x1, .ref x2, .int (nI n2), .int (nI k2)])), (x1, .inl (cA, 3000, .inl T2)), (x2, .inl (cB, 40, .inl G2))] H := hP
          have hD : va_D A [(y0, .inr (1, [.ref y1, .ref y2, .ref y3, .int (nI n), .int (nI k), .int d])), (y1, .inl (cC, 3000, .inl T1)), (y2, .inl (cD, 40, .inl G1)), (y3, .inl (cE, 20, .inl E)), (x0, .inr (0, [.ref x1, .ref x2, .int (nI n2), .int (nI k2)])), (x1, .inl (cA, 3000, .inl T2)), (x2, .inl (cB, 40, .inl G2))] := hD
          refine lv_aload_n hx hb dL_law_516 rfl (lv_at hl 2 rfl) ?_
          refine lv_aload_n hx hb dL_law_517 rfl (lv_at hl 0 rfl) ?_
          refine lv_iload_n hx hb dL_law_518 rfl (lv_at hl 3 rfl) ?_
          refine lv_iconst (v := nI 1) hx hb dL_law_519 (by decide) ?_
          refine lv_iadd hx hb dL_law_520 ?_
          refine tl_top (nI_add _ _) ?_
          refine va_sld hx hb hX hbl hbA hS (vp_in_nI (show i + 1 < L by omega) (by omega)) dL_law_521 ?_
          refine tl_top (show xs (nI (i + 1)).toNatClampNeg = xs (i + 1) by rw [nI_clamp (by omega)]) ?_
          have hPc := hP.sub (ws' := [(y0, .inr (1, [.ref y1, .ref y2, .ref y3, .int (nI n), .int (nI k), .int d])), (y1, .inl (cC, 3000, .inl T1)), (y2, .inl (cD, 40, .inl G1)), (y3, .inl (cE, 20, .inl E))]) [0, 1, 2, 3] rfl
          have hDc := hD.sub (ws' := [(y0, .inr (1, [.ref y1, .ref y2, .ref y3, .int (nI n), .int (nI k), .int d])), (y1, .inl (cC, 3000, .inl T1)), (y2, .inl (cD, 40, .inl G1)), (y3, .inl (cE, 20, .inl E))]) [0, 1, 2, 3] (by decide) rfl
          have hKc := hK.sub (tys' := [(cC, .int), (cD, .int), (cE, .int)]) [2, 3, 4] rfl
          have hFc := va_free (wc := [(y0, .inr (1, [.ref y1, .ref y2, .ref y3, .int (nI n), .int (nI k), .int d])), (y1, .inl (cC, 3000, .inl T1)), (y2, .inl (cD, 40, .inl G1)), (y3, .inl (cE, 20, .inl E))]) hD hS hA [0, 1, 2, 3] rfl
          refine va_calli (va_runV (As := [.int (xs (i + 1))]) (rest := [.int r513]) ⟨hx, hb, hml, hown, hts⟩ (c_M_length l dC dI y0 y1 y2 y3 H.size n k cC cD cE T1 G1 T0 G0 hT1 hG1 hn hk E d (xs (i + 1))) (cwV 1 hts (gV_ (fun w h => h) k351 k352 k353 k22 k354) rfl rfl rfl (by decide +kernel) ⟨Nat.le_of_ble_eq_true rfl, Nat.le_of_ble_eq_true rfl⟩) ⟨fun a U g mk q => by obtain ⟨q0, q1, qP, qK, qD⟩ := q; exact ⟨q0, q1, qP, va_K.moved (u := U) (U := U.calling g mk a) (Vm.Alike.refl U.vm) qK, qD⟩, va_recv hKc hPc (ci := 1) (q0 := 0) rfl rfl, fun U hU hW => ⟨rfl, by rw [hU], by rw [hU]; exact hPc, va_K.moved hW.alike hKc, hDc.weaken (fun _ _ _ _ => trivial)⟩⟩ rfl rfl hl.1 rfl (lv_room (Nat.le_of_ble_eq_true rfl)) dL_law_522 ⟨Nat.le_of_ble_eq_true rfl, Nat.le_of_ble_eq_true rfl⟩) hS (fun q _ h => hFc q h) hFc (fun r522 u522 t H locs ht hvm w522 hB hz1 hk1 hS => ?_)
          try dsimp only at w522
          obtain ⟨⟨n3, T3, k3, G3⟩, E3, d3⟩ := u522
          obtain ⟨hP1, hK1, hD1⟩ := hB
          rw [ht] at hP1
          obtain ⟨hP, hD⟩ := va_join (wr := [(x0, .inr (0, [.ref x1, .ref x2, .int (nI n2), .int (nI k2)])), (x1, .inl (cA, 3000, .inl T2)), (x2, .inl (cB, 40, .inl G2))]) (w1 := [(y0, .inr (1, [.ref y1, .ref y2, .ref y3, .int (nI n3), .int (nI k3), .int d3])), (y1, .inl (cC, 3000, .inl T3)), (y2, .inl (cD, 40, .inl G3)), (y3, .inl (cE, 20, .inl E3))]) hP hD [0, 1, 2, 3] [4, 5, 6] rfl rfl (by decide) (by decide) hk1 hFc hP1 hD1
          have hP : va_P (dC, dI) vwCl [(x0, .inr (0, [.ref x1, .ref x2, .int (nI n2), .int (nI k2)])), (x1, .inl (cA, 3000, .inl T2)), (x2, .inl (cB, 40, .inl G2)), (y0, .inr (1, [.ref y1, .ref y2, .ref y3, .int (nI n3), .int (nI k3), .int d3])), (y1, .inl (cC, 3000, .inl T3)), (y2, .inl (cD, 40, .inl G3)), (y3, .inl (cE, 20, .inl E3))] H := hP
          have hD : va_D A [(x0, .inr (0, [.ref x1, .ref x2, .int (nI n2), .int (nI k2)])), (x1, .inl (cA, 3000, .inl T2)), (x2, .inl (cB, 40, .inl G2)), (y0, .inr (1, [.ref y1, .ref y2, .ref y3, .int (nI n3), .int (nI k3), .int d3])), (y1, .inl (cC, 3000, .inl T3)), (y2, .inl (cD, 40, .inl G3)), (y3, .inl (cE, 20, .inl E3))] := hD
          refine lv_icmp_eq (tgt := 622) hx hb dL_law_525 rfl (fun h525 => ?_) (fun h525 => ?_)
          · skip
            have h525 := (tl_eq (show r513.toInt = r513.toInt from rfl) (show r522.toInt = r522.toInt from rfl)).mp h525
            generalize (sp_length (xs (i + 1)) n T0 k G0).2 = v at w513 w522
            obtain ⟨nv, Tv, kv, Gv⟩ := v
            obtain ⟨e1, hT, e3, hG, hn, hk⟩ := w513.2
            obtain ⟨f1, hT1, f3, hG1, -, -⟩ := w522.2
            dsimp only at e1 hT e3 hG hn hk f1 hT1 f3 hG1
            have e1 := e1.symm
            subst e1
            have e3 := e3.symm
            subst e3
            have f1 := f1.symm
            subst f1
            have f3 := f3.symm
            subst f3
            refine lv_iinc (lv' := [(3, .int (nI (i + 5))), (0, .ref b), (1, .ref x0), (2, .ref y0)]) (k := 3) (v := nI (i + 5)) hx hb dL_law_622 hl rfl (by rw [show Int32.ofInt 5 = nI 5 from by decide]; exact nI_add _ _) (by decide) rfl (fun ls hl => ?_)
            refine lv_goto (tgt := 18) hx hb dL_law_625 rfl ?_
            exact ih (i + 5) nv kv Tv Gv T2 G2 T3 G3 E3 d3 _ _ ls (by omega) (by omega) (hT) (hG) (hT1) (hG1) (hn) (hk) (lv_sub hl [1, 2, 3, 0] rfl) hP hD hS
          · skip
            have h525 := (not_congr (tl_eq (show r513.toInt = r513.toInt from rfl) (show r522.toInt = r522.toInt from rfl))).mp h525
            exact absurd (by rw [w513.1, w522.1]) h525
        by_cases hs32_12 : ((wj : Nat) : Int) = 12
        · skip
          refine lv_tableIn (off := 498) (tgt := 530) hx hb dL_law_32 (by omega) (by omega) (by rw [sw32, hs32_12]; first | done | rfl) rfl ?_
          refine lv_aload_n hx hb dL_law_530 rfl (lv_at hl 1 rfl) ?_
          refine lv_aload_n hx hb dL_law_531 rfl (lv_at hl 0 rfl) ?_
          refine lv_iload_n hx hb dL_law_532 rfl (lv_at hl 3 rfl) ?_
          refine lv_iconst (v := nI 1) hx hb dL_law_533 (by decide) ?_
          refine lv_iadd hx hb dL_law_534 ?_
          refine tl_top (nI_add _ _) ?_
          refine va_sld hx hb hX hbl hbA hS (vp_in_nI (show i + 1 < L by omega) (by omega)) dL_law_535 ?_
          refine tl_top (show xs (nI (i + 1)).toNatClampNeg = xs (i + 1) by rw [nI_clamp (by omega)]) ?_
          refine lv_aload_n hx hb dL_law_536 rfl (lv_at hl 0 rfl) ?_
          refine lv_iload_n hx hb dL_law_537 rfl (lv_at hl 3 rfl) ?_
          refine lv_iconst (v := nI 2) hx hb dL_law_538 (by decide) ?_
          refine lv_iadd hx hb dL_law_539 ?_
          refine tl_top (nI_add _ _) ?_
          refine va_sld hx hb hX hbl hbA hS (vp_in_nI (show i + 2 < L by omega) (by omega)) dL_law_540 ?_
          refine tl_top (show xs (nI (i + 2)).toNatClampNeg = xs (i + 2) by rw [nI_clamp (by omega)]) ?_
          have hPc := hP.sub (ws' := [(x0, .inr (0, [.ref x1, .ref x2, .int (nI n), .int (nI k)])), (x1, .inl (cA, 3000, .inl T)), (x2, .inl (cB, 40, .inl G))]) [0, 1, 2] rfl
          have hDc := hD.sub (ws' := [(x0, .inr (0, [.ref x1, .ref x2, .int (nI n), .int (nI k)])), (x1, .inl (cA, 3000, .inl T)), (x2, .inl (cB, 40, .inl G))]) [0, 1, 2] (by decide) rfl
          have hKc := hK.sub (tys' := [(cA, .int), (cB, .int)]) [0, 1] rfl
          have hFc := va_free (wc := [(x0, .inr (0, [.ref x1, .ref x2, .int (nI n), .int (nI k)])), (x1, .inl (cA, 3000, .inl T)), (x2, .inl (cB, 40, .inl G))]) hD hS hA [0, 1, 2] rfl
          refine va_calli (va_runV (As := [.int (xs (i + 1)), .int (xs (i + 2))]) (rest := []) ⟨hx, hb, hml, hown, hts⟩ (c_X_lift l dC dI x0 x1 x2 H.size n k cA cB T G T0 G0 hT hG hn hk (xs (i + 1)) (xs (i + 2))) (cwV 2 hts (gV_ (fun w h => h) k216 k217 k218 k21 k219) rfl rfl rfl (by decide +kernel) ⟨Nat.le_of_ble_eq_true rfl, Nat.le_of_ble_eq_true rfl⟩) ⟨fun a U g mk q => by obtain ⟨q0, q1, qP, qK, qD⟩ := q; exact ⟨q0, q1, qP, va_K.moved (u := U) (U := U.calling g mk a) (Vm.Alike.refl U.vm) qK, qD⟩, va_recv hKc hPc (ci := 0) (q0 := 0) rfl rfl, fun U hU hW => ⟨rfl, by rw [hU], by rw [hU]; exact hPc, va_K.moved hW.alike hKc, hDc.weaken (fun _ _ _ _ => trivial)⟩⟩ rfl rfl hl.1 rfl (lv_room (Nat.le_of_ble_eq_true rfl)) dL_law_541 ⟨Nat.le_of_ble_eq_true rfl, Nat.le_of_ble_eq_true rfl⟩) hS (fun q _ h => hFc q h) hFc (fun r541 u541 t H locs ht hvm w541 hB hz1 hk1 hS => ?_)
          try dsimp only at w541
          obtain ⟨n2, T2, k2, G2⟩ := u541
          obtain ⟨hP1, hK1, hD1⟩ := hB
          rw [ht] at hP1
          obtain ⟨hP, hD⟩ := va_join (wr := [(y0, .inr (1, [.ref y1, .ref y2, .ref y3, .int (nI n), .int (nI k), .int d])), (y1, .inl (cC, 3000, .inl T1)), (y2, .inl (cD, 40, .inl G1)), (y3, .inl (cE, 20, .inl E))]) (w1 := [(x0, .inr (0, [.ref x1, .ref x2, .int (nI n2), .int (nI k2)])), (x1, .inl (cA, 3000, .inl T2)), (x2, .inl (cB, 40, .inl G2))]) hP hD [0, 1, 2] [3, 4, 5, 6] rfl rfl (by decide) (by decide) hk1 hFc hP1 hD1
          have hP : va_P (dC, dI) vwCl [(y0, .inr (1, [.ref y1, .ref y2, .ref y3, .int (nI n), .int (nI k), .int d])), (y1, .inl (cC, 3000, .inl T1)), (y2, .inl (cD, 40, .inl G1)), (y3, .inl (cE, 20, .inl E)), (x0, .inr (0, [.ref x1, .ref x2, .int (nI n2), .int (nI k2)])), (x1, .inl (cA, 3000, .inl T2)), (x2, .inl (cB, 40, .inl G2))] H := hP
          have hD : va_D A [(y0, .inr (1, [.ref y1, .ref y2, .ref y3, .int (nI n), .int (nI k), .int d])), (y1, .inl (cC, 3000, .inl T1)), (y2, .inl (cD, 40, .inl G1)), (y3, .inl (cE, 20, .inl E)), (x0, .inr (0, [.ref x1, .ref x2, .int (nI n2), .int (nI k2)])), (x1, .inl (cA, 3000, .inl T2)), (x2, .inl (cB, 40, .inl G2))] := hD
          refine lv_aload_n hx hb dL_law_544 rfl (lv_at hl 2 rfl) ?_
          refine lv_aload_n hx hb dL_law_545 rfl (lv_at hl 0 rfl) ?_
          refine lv_iload_n hx hb dL_law_546 rfl (lv_at hl 3 rfl) ?_
          refine lv_iconst (v := nI 1) hx hb dL_law_547 (by decide) ?_
          refine lv_iadd hx hb dL_law_548 ?_
          refine tl_top (nI_add _ _) ?_
          refine va_sld hx hb hX hbl hbA hS (vp_in_nI (show i + 1 < L by omega) (by omega)) dL_law_549 ?_
          refine tl_top (show xs (nI (i + 1)).toNatClampNeg = xs (i + 1) by rw [nI_clamp (by omega)]) ?_
          refine lv_aload_n hx hb dL_law_550 rfl (lv_at hl 0 rfl) ?_
          refine lv_iload_n hx hb dL_law_551 rfl (lv_at hl 3 rfl) ?_
          refine lv_iconst (v := nI 2) hx hb dL_law_552 (by decide) ?_
          refine lv_iadd hx hb dL_law_553 ?_
          refine tl_top (nI_add _ _) ?_
          refine va_sld hx hb hX hbl hbA hS (vp_in_nI (show i + 2 < L by omega) (by omega)) dL_law_554 ?_
          refine tl_top (show xs (nI (i + 2)).toNatClampNeg = xs (i + 2) by rw [nI_clamp (by omega)]) ?_
          have hPc := hP.sub (ws' := [(y0, .inr (1, [.ref y1, .ref y2, .ref y3, .int (nI n), .int (nI k), .int d])), (y1, .inl (cC, 3000, .inl T1)), (y2, .inl (cD, 40, .inl G1)), (y3, .inl (cE, 20, .inl E))]) [0, 1, 2, 3] rfl
          have hDc := hD.sub (ws' := [(y0, .inr (1, [.ref y1, .ref y2, .ref y3, .int (nI n), .int (nI k), .int d])), (y1, .inl (cC, 3000, .inl T1)), (y2, .inl (cD, 40, .inl G1)), (y3, .inl (cE, 20, .inl E))]) [0, 1, 2, 3] (by decide) rfl
          have hKc := hK.sub (tys' := [(cC, .int), (cD, .int), (cE, .int)]) [2, 3, 4] rfl
          have hFc := va_free (wc := [(y0, .inr (1, [.ref y1, .ref y2, .ref y3, .int (nI n), .int (nI k), .int d])), (y1, .inl (cC, 3000, .inl T1)), (y2, .inl (cD, 40, .inl G1)), (y3, .inl (cE, 20, .inl E))]) hD hS hA [0, 1, 2, 3] rfl
          refine va_calli (va_runV (As := [.int (xs (i + 1)), .int (xs (i + 2))]) (rest := [.int r541]) ⟨hx, hb, hml, hown, hts⟩ (c_M_lift l dC dI y0 y1 y2 y3 H.size n k cC cD cE T1 G1 T0 G0 hT1 hG1 hn hk E d (xs (i + 1)) (xs (i + 2))) (cwV 2 hts (gV_ (fun w h => h) k282 k283 k284 k22 k285) rfl rfl rfl (by decide +kernel) ⟨Nat.le_of_ble_eq_true rfl, Nat.le_of_ble_eq_true rfl⟩) ⟨fun a U g mk q => by obtain ⟨q0, q1, qP, qK, qD⟩ := q; exact ⟨q0, q1, qP, va_K.moved (u := U) (U := U.calling g mk a) (Vm.Alike.refl U.vm) qK, qD⟩, va_recv hKc hPc (ci := 1) (q0 := 0) rfl rfl, fun U hU hW => ⟨rfl, by rw [hU], by rw [hU]; exact hPc, va_K.moved hW.alike hKc, hDc.weaken (fun _ _ _ _ => trivial)⟩⟩ rfl rfl hl.1 rfl (lv_room (Nat.le_of_ble_eq_true rfl)) dL_law_555 ⟨Nat.le_of_ble_eq_true rfl, Nat.le_of_ble_eq_true rfl⟩) hS (fun q _ h => hFc q h) hFc (fun r555 u555 t H locs ht hvm w555 hB hz1 hk1 hS => ?_)
          try dsimp only at w555
          obtain ⟨⟨n3, T3, k3, G3⟩, E3, d3⟩ := u555
          obtain ⟨hP1, hK1, hD1⟩ := hB
          rw [ht] at hP1
          obtain ⟨hP, hD⟩ := va_join (wr := [(x0, .inr (0, [.ref x1, .ref x2, .int (nI n2), .int (nI k2)])), (x1, .inl (cA, 3000, .inl T2)), (x2, .inl (cB, 40, .inl G2))]) (w1 := [(y0, .inr (1, [.ref y1, .ref y2, .ref y3, .int (nI n3), .int (nI k3), .int d3])), (y1, .inl (cC, 3000, .inl T3)), (y2, .inl (cD, 40, .inl G3)), (y3, .inl (cE, 20, .inl E3))]) hP hD [0, 1, 2, 3] [4, 5, 6] rfl rfl (by decide) (by decide) hk1 hFc hP1 hD1
          have hP : va_P (dC, dI) vwCl [(x0, .inr (0, [.ref x1, .ref x2, .int (nI n2), .int (nI k2)])), (x1, .inl (cA, 3000, .inl T2)), (x2, .inl (cB, 40, .inl G2)), (y0, .inr (1, [.ref y1, .ref y2, .ref y3, .int (nI n3), .int (nI k3), .int d3])), (y1, .inl (cC, 3000, .inl T3)), (y2, .inl (cD, 40, .inl G3)), (y3, .inl (cE, 20, .inl E3))] H := hP
          have hD : va_D A [(x0, .inr (0, [.ref x1, .ref x2, .int (nI n2), .int (nI k2)])), (x1, .inl (cA, 3000, .inl T2)), (x2, .inl (cB, 40, .inl G2)), (y0, .inr (1, [.ref y1, .ref y2, .ref y3, .int (nI n3), .int (nI k3), .int d3])), (y1, .inl (cC, 3000, .inl T3)), (y2, .inl (cD, 40, .inl G3)), (y3, .inl (cE, 20, .inl E3))] := hD
          refine lv_icmp_eq (tgt := 622) hx hb dL_law_558 rfl (fun h558 => ?_) (fun h558 => ?_)
          · skip
            have h558 := (tl_eq (show r541.toInt = r541.toInt from rfl) (show r555.toInt = r555.toInt from rfl)).mp h558
            generalize (sp_lift (xs (i + 1)) (xs (i + 2)) n T0 k G0).2 = v at w541 w555
            obtain ⟨nv, Tv, kv, Gv⟩ := v
            obtain ⟨e1, hT, e3, hG, hn, hk⟩ := w541.2
            obtain ⟨f1, hT1, f3, hG1, -, -⟩ := w555.2
            dsimp only at e1 hT e3 hG hn hk f1 hT1 f3 hG1
            have e1 := e1.symm
            subst e1
            have e3 := e3.symm
            subst e3
            have f1 := f1.symm
            subst f1
            have f3 := f3.symm
            subst f3
            refine lv_iinc (lv' := [(3, .int (nI (i + 5))), (0, .ref b), (1, .ref x0), (2, .ref y0)]) (k := 3) (v := nI (i + 5)) hx hb dL_law_622 hl rfl (by rw [show Int32.ofInt 5 = nI 5 from by decide]; exact nI_add _ _) (by decide) rfl (fun ls hl => ?_)
            refine lv_goto (tgt := 18) hx hb dL_law_625 rfl ?_
            exact ih (i + 5) nv kv Tv Gv T2 G2 T3 G3 E3 d3 _ _ ls (by omega) (by omega) (hT) (hG) (hT1) (hG1) (hn) (hk) (lv_sub hl [1, 2, 3, 0] rfl) hP hD hS
          · skip
            have h558 := (not_congr (tl_eq (show r541.toInt = r541.toInt from rfl) (show r555.toInt = r555.toInt from rfl))).mp h558
            exact absurd (by rw [w541.1, w555.1]) h558
        by_cases hs32_13 : ((wj : Nat) : Int) = 13
        · skip
          refine lv_tableIn (off := 531) (tgt := 563) hx hb dL_law_32 (by omega) (by omega) (by rw [sw32, hs32_13]; first | done | rfl) rfl ?_
          refine lv_aload_n hx hb dL_law_563 rfl (lv_at hl 1 rfl) ?_
          refine lv_aload_n hx hb dL_law_564 rfl (lv_at hl 0 rfl) ?_
          refine lv_iload_n hx hb dL_law_565 rfl (lv_at hl 3 rfl) ?_
          refine lv_iconst (v := nI 1) hx hb dL_law_566 (by decide) ?_
          refine lv_iadd hx hb dL_law_567 ?_
          refine tl_top (nI_add _ _) ?_
          refine va_sld hx hb hX hbl hbA hS (vp_in_nI (show i + 1 < L by omega) (by omega)) dL_law_568 ?_
          refine tl_top (show xs (nI (i + 1)).toNatClampNeg = xs (i + 1) by rw [nI_clamp (by omega)]) ?_
          have hPc := hP.sub (ws' := [(x0, .inr (0, [.ref x1, .ref x2, .int (nI n), .int (nI k)])), (x1, .inl (cA, 3000, .inl T)), (x2, .inl (cB, 40, .inl G))]) [0, 1, 2] rfl
          have hKc := hK.sub (tys' := [(cA, .int), (cB, .int)]) [0, 1] rfl
          refine vp_callSi ((va_runV (As := [.int (xs (i + 1))]) (rest := []) ⟨hx, hb, hml, hown, hts⟩ (c_X_look l dC dI x0 x1 x2 n k cA cB T G T0 G0 hT hG hn hk (xs (i + 1))) (cwV 1 hts (gV_ (fun w h => h) k220 k221 k222 k21 k223) rfl rfl rfl (by decide +kernel) ⟨Nat.le_of_ble_eq_true rfl, Nat.le_of_ble_eq_true rfl⟩) ⟨fun a U g mk q => by obtain ⟨q0, qP, qK⟩ := q; exact ⟨q0, qP, va_K.moved (u := U) (U := U.calling g mk a) (Vm.Alike.refl U.vm) qK⟩, va_recv hK hP (ci := 0) (q0 := 0) rfl rfl, fun U hU hW => ⟨rfl, by rw [hU]; exact hPc, va_K.moved hW.alike hKc⟩⟩ rfl rfl hl.1 rfl (lv_room (Nat.le_of_ble_eq_true rfl)) dL_law_569 ⟨Nat.le_of_ble_eq_true rfl, Nat.le_of_ble_eq_true rfl⟩).run) (fun r569 w569 => ?_)
          try dsimp only at w569
          refine lv_aload_n hx hb dL_law_572 rfl (lv_at hl 2 rfl) ?_
          refine lv_aload_n hx hb dL_law_573 rfl (lv_at hl 0 rfl) ?_
          refine lv_iload_n hx hb dL_law_574 rfl (lv_at hl 3 rfl) ?_
          refine lv_iconst (v := nI 1) hx hb dL_law_575 (by decide) ?_
          refine lv_iadd hx hb dL_law_576 ?_
          refine tl_top (nI_add _ _) ?_
          refine va_sld hx hb hX hbl hbA hS (vp_in_nI (show i + 1 < L by omega) (by omega)) dL_law_577 ?_
          refine tl_top (show xs (nI (i + 1)).toNatClampNeg = xs (i + 1) by rw [nI_clamp (by omega)]) ?_
          have hPc := hP.sub (ws' := [(y0, .inr (1, [.ref y1, .ref y2, .ref y3, .int (nI n), .int (nI k), .int d])), (y1, .inl (cC, 3000, .inl T1)), (y2, .inl (cD, 40, .inl G1)), (y3, .inl (cE, 20, .inl E))]) [3, 4, 5, 6] rfl
          have hKc := hK.sub (tys' := [(cC, .int), (cD, .int), (cE, .int)]) [2, 3, 4] rfl
          refine vp_callSi ((va_runV (As := [.int (xs (i + 1))]) (rest := [.int r569]) ⟨hx, hb, hml, hown, hts⟩ (c_M_look l dC dI y0 y1 y2 y3 n k cC cD cE T1 G1 T0 G0 hT1 hG1 hn hk E d (xs (i + 1))) (cwV 1 hts (gV_ (fun w h => h) k363 k364 k365 k22 k366) rfl rfl rfl (by decide +kernel) ⟨Nat.le_of_ble_eq_true rfl, Nat.le_of_ble_eq_true rfl⟩) ⟨fun a U g mk q => by obtain ⟨q0, qP, qK⟩ := q; exact ⟨q0, qP, va_K.moved (u := U) (U := U.calling g mk a) (Vm.Alike.refl U.vm) qK⟩, va_recv hK hP (ci := 1) (q0 := 3) rfl rfl, fun U hU hW => ⟨rfl, by rw [hU]; exact hPc, va_K.moved hW.alike hKc⟩⟩ rfl rfl hl.1 rfl (lv_room (Nat.le_of_ble_eq_true rfl)) dL_law_578 ⟨Nat.le_of_ble_eq_true rfl, Nat.le_of_ble_eq_true rfl⟩).run) (fun r578 w578 => ?_)
          try dsimp only at w578
          refine lv_icmp_eq (tgt := 622) hx hb dL_law_581 rfl (fun h581 => ?_) (fun h581 => ?_)
          · skip
            have h581 := (tl_eq (show r569.toInt = r569.toInt from rfl) (show r578.toInt = r578.toInt from rfl)).mp h581
            refine lv_iinc (lv' := [(3, .int (nI (i + 5))), (0, .ref b), (1, .ref x0), (2, .ref y0)]) (k := 3) (v := nI (i + 5)) hx hb dL_law_622 hl rfl (by rw [show Int32.ofInt 5 = nI 5 from by decide]; exact nI_add _ _) (by decide) rfl (fun ls hl => ?_)
            refine lv_goto (tgt := 18) hx hb dL_law_625 rfl ?_
            exact ih (i + 5) n k T0 G0 T G T1 G1 E d _ _ ls (by omega) (by omega) (hT) (hG) (hT1) (hG1) (hn) (hk) (lv_sub hl [1, 2, 3, 0] rfl) hP hD hS
          · skip
            have h581 := (not_congr (tl_eq (show r569.toInt = r569.toInt from rfl) (show r578.toInt = r578.toInt from rfl))).mp h581
            exact absurd (by rw [w569, w578]) h581
        by_cases hs32_14 : ((wj : Nat) : Int) = 14
        · skip
          refine lv_tableIn (off := 554) (tgt := 586) hx hb dL_law_32 (by omega) (by omega) (by rw [sw32, hs32_14]; first | done | rfl) rfl ?_
          refine lv_aload_n hx hb dL_law_586 rfl (lv_at hl 1 rfl) ?_
          refine lv_aload_n hx hb dL_law_587 rfl (lv_at hl 0 rfl) ?_
          refine lv_iload_n hx hb dL_law_588 rfl (lv_at hl 3 rfl) ?_
          refine lv_iconst (v := nI 1) hx hb dL_law_589 (by decide) ?_
          refine lv_iadd hx hb dL_law_590 ?_
          refine tl_top (nI_add _ _) ?_
          refine va_sld hx hb hX hbl hbA hS (vp_in_nI (show i + 1 < L by omega) (by omega)) dL_law_591 ?_
          refine tl_top (show xs (nI (i + 1)).toNatClampNeg = xs (i + 1) by rw [nI_clamp (by omega)]) ?_
          have hPc := hP.sub (ws' := [(x0, .inr (0, [.ref x1, .ref x2, .int (nI n), .int (nI k)])), (x1, .inl (cA, 3000, .inl T)), (x2, .inl (cB, 40, .inl G))]) [0, 1, 2] rfl
          have hKc := hK.sub (tys' := [(cA, .int), (cB, .int)]) [0, 1] rfl
          refine vp_callSi ((va_runV (As := [.int (xs (i + 1))]) (rest := []) ⟨hx, hb, hml, hown, hts⟩ (c_X_scrap l dC dI x0 x1 x2 n k cA cB T G T0 G0 hT hG hn hk (xs (i + 1))) (cwV 1 hts (gV_ (fun w h => h) k228 k229 k230 k21 k231) rfl rfl rfl (by decide +kernel) ⟨Nat.le_of_ble_eq_true rfl, Nat.le_of_ble_eq_true rfl⟩) ⟨fun a U g mk q => by obtain ⟨q0, qP, qK⟩ := q; exact ⟨q0, qP, va_K.moved (u := U) (U := U.calling g mk a) (Vm.Alike.refl U.vm) qK⟩, va_recv hK hP (ci := 0) (q0 := 0) rfl rfl, fun U hU hW => ⟨rfl, by rw [hU]; exact hPc, va_K.moved hW.alike hKc⟩⟩ rfl rfl hl.1 rfl (lv_room (Nat.le_of_ble_eq_true rfl)) dL_law_592 ⟨Nat.le_of_ble_eq_true rfl, Nat.le_of_ble_eq_true rfl⟩).run) (fun r592 w592 => ?_)
          try dsimp only at w592
          refine lv_aload_n hx hb dL_law_595 rfl (lv_at hl 2 rfl) ?_
          refine lv_aload_n hx hb dL_law_596 rfl (lv_at hl 0 rfl) ?_
          refine lv_iload_n hx hb dL_law_597 rfl (lv_at hl 3 rfl) ?_
          refine lv_iconst (v := nI 1) hx hb dL_law_598 (by decide) ?_
          refine lv_iadd hx hb dL_law_599 ?_
          refine tl_top (nI_add _ _) ?_
          refine va_sld hx hb hX hbl hbA hS (vp_in_nI (show i + 1 < L by omega) (by omega)) dL_law_600 ?_
          refine tl_top (show xs (nI (i + 1)).toNatClampNeg = xs (i + 1) by rw [nI_clamp (by omega)]) ?_
          have hPc := hP.sub (ws' := [(y0, .inr (1, [.ref y1, .ref y2, .ref y3, .int (nI n), .int (nI k), .int d])), (y1, .inl (cC, 3000, .inl T1)), (y2, .inl (cD, 40, .inl G1)), (y3, .inl (cE, 20, .inl E))]) [3, 4, 5, 6] rfl
          have hKc := hK.sub (tys' := [(cC, .int), (cD, .int), (cE, .int)]) [2, 3, 4] rfl
          refine vp_callSi ((va_runV (As := [.int (xs (i + 1))]) (rest := [.int r592]) ⟨hx, hb, hml, hown, hts⟩ (c_M_scrap l dC dI y0 y1 y2 y3 n k cC cD cE T1 G1 T0 G0 hT1 hG1 hn hk E d (xs (i + 1))) (cwV 1 hts (gV_ (fun w h => h) k278 k279 k280 k22 k281) rfl rfl rfl (by decide +kernel) ⟨Nat.le_of_ble_eq_true rfl, Nat.le_of_ble_eq_true rfl⟩) ⟨fun a U g mk q => by obtain ⟨q0, qP, qK⟩ := q; exact ⟨q0, qP, va_K.moved (u := U) (U := U.calling g mk a) (Vm.Alike.refl U.vm) qK⟩, va_recv hK hP (ci := 1) (q0 := 3) rfl rfl, fun U hU hW => ⟨rfl, by rw [hU]; exact hPc, va_K.moved hW.alike hKc⟩⟩ rfl rfl hl.1 rfl (lv_room (Nat.le_of_ble_eq_true rfl)) dL_law_601 ⟨Nat.le_of_ble_eq_true rfl, Nat.le_of_ble_eq_true rfl⟩).run) (fun r601 w601 => ?_)
          try dsimp only at w601
          refine lv_icmp_eq (tgt := 622) hx hb dL_law_604 rfl (fun h604 => ?_) (fun h604 => ?_)
          · skip
            have h604 := (tl_eq (show r592.toInt = r592.toInt from rfl) (show r601.toInt = r601.toInt from rfl)).mp h604
            refine lv_iinc (lv' := [(3, .int (nI (i + 5))), (0, .ref b), (1, .ref x0), (2, .ref y0)]) (k := 3) (v := nI (i + 5)) hx hb dL_law_622 hl rfl (by rw [show Int32.ofInt 5 = nI 5 from by decide]; exact nI_add _ _) (by decide) rfl (fun ls hl => ?_)
            refine lv_goto (tgt := 18) hx hb dL_law_625 rfl ?_
            exact ih (i + 5) n k T0 G0 T G T1 G1 E d _ _ ls (by omega) (by omega) (hT) (hG) (hT1) (hG1) (hn) (hk) (lv_sub hl [1, 2, 3, 0] rfl) hP hD hS
          · skip
            have h604 := (not_congr (tl_eq (show r592.toInt = r592.toInt from rfl) (show r601.toInt = r601.toInt from rfl))).mp h604
            exact absurd (by rw [w592, w601]) h604
        by_cases hs32_15 : ((wj : Nat) : Int) = 15
        · skip
          refine lv_tableIn (off := 577) (tgt := 609) hx hb dL_law_32 (by omega) (by omega) (by rw [sw32, hs32_15]; first | done | rfl) rfl ?_
          refine lv_aload_n hx hb dL_law_609 rfl (lv_at hl 1 rfl) ?_
          have hPc := hP.sub (ws' := [(x0, .inr (0, [.ref x1, .ref x2, .int (nI n), .int (nI k)])), (x1, .inl (cA, 3000, .inl T)), (x2, .inl (cB, 40, .inl G))]) [0, 1, 2] rfl
          have hKc := hK.sub (tys' := [(cA, .int), (cB, .int)]) [0, 1] rfl
          refine vp_callSi ((va_runV (As := []) (rest := []) ⟨hx, hb, hml, hown, hts⟩ (c_X_compare l dC dI x0 x1 x2 n k cA cB T G T0 G0 hT hG hn hk ) (cwV 0 hts (gV_ (fun w h => h) k232 k233 k234 k21 k235) rfl rfl rfl (by decide +kernel) ⟨Nat.le_of_ble_eq_true rfl, Nat.le_of_ble_eq_true rfl⟩) ⟨fun a U g mk q => by obtain ⟨q0, qP, qK⟩ := q; exact ⟨q0, qP, va_K.moved (u := U) (U := U.calling g mk a) (Vm.Alike.refl U.vm) qK⟩, va_recv hK hP (ci := 0) (q0 := 0) rfl rfl, fun U hU hW => ⟨rfl, by rw [hU]; exact hPc, va_K.moved hW.alike hKc⟩⟩ rfl rfl hl.1 rfl (lv_room (Nat.le_of_ble_eq_true rfl)) dL_law_610 ⟨Nat.le_of_ble_eq_true rfl, Nat.le_of_ble_eq_true rfl⟩).run) (fun r610 w610 => ?_)
          try dsimp only at w610
          refine lv_aload_n hx hb dL_law_613 rfl (lv_at hl 2 rfl) ?_
          have hPc := hP.sub (ws' := [(y0, .inr (1, [.ref y1, .ref y2, .ref y3, .int (nI n), .int (nI k), .int d])), (y1, .inl (cC, 3000, .inl T1)), (y2, .inl (cD, 40, .inl G1)), (y3, .inl (cE, 20, .inl E))]) [3, 4, 5, 6] rfl
          have hKc := hK.sub (tys' := [(cC, .int), (cD, .int), (cE, .int)]) [2, 3, 4] rfl
          refine vp_callSi ((va_runV (As := []) (rest := [.int r610]) ⟨hx, hb, hml, hown, hts⟩ (c_M_compare l dC dI y0 y1 y2 y3 n k cC cD cE T1 G1 T0 G0 hT1 hG1 hn hk E d ) (cwV 0 hts (gV_ (fun w h => h) k367 k368 k369 k22 k370) rfl rfl rfl (by decide +kernel) ⟨Nat.le_of_ble_eq_true rfl, Nat.le_of_ble_eq_true rfl⟩) ⟨fun a U g mk q => by obtain ⟨q0, qP, qK⟩ := q; exact ⟨q0, qP, va_K.moved (u := U) (U := U.calling g mk a) (Vm.Alike.refl U.vm) qK⟩, va_recv hK hP (ci := 1) (q0 := 3) rfl rfl, fun U hU hW => ⟨rfl, by rw [hU]; exact hPc, va_K.moved hW.alike hKc⟩⟩ rfl rfl hl.1 rfl (lv_room (Nat.le_of_ble_eq_true rfl)) dL_law_614 ⟨Nat.le_of_ble_eq_true rfl, Nat.le_of_ble_eq_true rfl⟩).run) (fun r614 w614 => ?_)
          try dsimp only at w614
          refine lv_icmp_eq (tgt := 622) hx hb dL_law_617 rfl (fun h617 => ?_) (fun h617 => ?_)
          · skip
            have h617 := (tl_eq (show r610.toInt = r610.toInt from rfl) (show r614.toInt = r614.toInt from rfl)).mp h617
            refine lv_iinc (lv' := [(3, .int (nI (i + 5))), (0, .ref b), (1, .ref x0), (2, .ref y0)]) (k := 3) (v := nI (i + 5)) hx hb dL_law_622 hl rfl (by rw [show Int32.ofInt 5 = nI 5 from by decide]; exact nI_add _ _) (by decide) rfl (fun ls hl => ?_)
            refine lv_goto (tgt := 18) hx hb dL_law_625 rfl ?_
            exact ih (i + 5) n k T0 G0 T G T1 G1 E d _ _ ls (by omega) (by omega) (hT) (hG) (hT1) (hG1) (hn) (hk) (lv_sub hl [1, 2, 3, 0] rfl) hP hD hS
          · skip
            have h617 := (not_congr (tl_eq (show r610.toInt = r610.toInt from rfl) (show r614.toInt = r614.toInt from rfl))).mp h617
            exact absurd (by rw [w610, w614]) h617
        exfalso; omega
  exact LP18 _ 0 0 0 ((fun _ => 0)) ((fun _ => 0)) ((fun _ => 0)) ((fun _ => 0)) ((fun _ => 0)) ((fun _ => 0)) ((fun _ => 0)) 0 _ _ ls (Nat.lt_succ_self _) (by omega) (fun j hj => rfl) (fun j hj => rfl) (fun j hj => rfl) (fun j hj => rfl) (by omega) (by omega) (lv_sub hl [3, 2, 1, 0] rfl) hP hD hS
