set_option maxHeartbeats 4000000 in
set_option maxRecDepth 100000 in
theorem c_M_get (l : Launch) (dC : Nat → ClassId) (dI : Nat → Nat → Nat) (h0 q0 q1 q2 n k : Nat) (cA cB cC : ClassId) (T G T0 G0 : Nat → Int32) (hT : ∀ j, j < n → T j = T0 j) (hG : ∀ j, j < k → G j = G0 j) (hn : n ≤ 3000) (hk : k ≤ 40) (E : Nat → Int32) (d : Int32) (x : Int32) : Met l yX1_get wsX1_get ({ frames := 0, cells := 0, slots := 0, locals := 0 } : Room) (va_Pc [.ref h0, .int x] (fun U => va_P (dC, dI) vwCl [(h0, .inr (1, [.ref q0, .ref q1, .ref q2, .int (nI n), .int (nI k), .int d])), (q0, .inl (cA, 3000, .inl T)), (q1, .inl (cB, 40, .inl G)), (q2, .inl (cC, 20, .inl E))] U.heap ∧ va_K (dC, dI) vwCl [(cA, .int), (cB, .int), (cC, .int)] U)) (vp_Si (fun r : Int32 => r = sp_get x n T0)) 0 0 (fun _ => False) := by
  refine Met.ofW (cc := cX1_get) (maxL := 2) (ret := (some .int)) (by decide) rfl ?_
  intro p e s m args below meth c s₁ B hml hv
  obtain ⟨rfl, hP, hK⟩ := hv
  have hx := B.exec
  have hb := B.bytes
  have hr := B.returns
  have hts := atoms_spec (ws := wsX1_get) B.pre
  have hown : s.vm.findClass RX1 = some m.cls := findClass_of_methodNamed B.named
  have hlocks := B.notSynchronized
  have hP : va_P (dC, dI) vwCl [(h0, .inr (1, [.ref q0, .ref q1, .ref q2, .int (nI n), .int (nI k), .int d])), (q0, .inl (cA, 3000, .inl T)), (q1, .inl (cB, 40, .inl G)), (q2, .inl (cC, 20, .inl E))] s.heap := hP
  have hinX1 : ∀ w ∈ u_ws RX1 TX1 6, w ∈ wsX1_get := fun w h => List.mem_cons_of_mem _ (inX1 w h)
  have hl := lv_entry ([.ref h0, .int x]) (n := 2) (Nat.le_of_ble_eq_true rfl)
  rw [lg_entry_eq]
  generalize (lg_sl ([.ref h0, .int x]) ++ List.replicate (2 - (lg_sl ([.ref h0, .int x])).length) Slot.unset).toArray = ls at hl ⊢
  have hl : lv_has ls 2 [(0, .ref h0), (1, .int x)] := hl
  refine tl_q (fun Q hQ => ?_)
  refine lv_iload_n hx hb dX1_get_0 rfl (lv_at hl 1 rfl) ?_
  refine lv_if_lt (tgt := 12) hx hb dX1_get_1 rfl (fun h1 => ?_) (fun h1 => ?_)
  · skip
    have h1 := (tl_lt (show x.toInt = x.toInt from rfl) (show (0 : Int32).toInt = (0 : Int) from Int32.toInt_zero)).mp h1
    refine lv_iconst (v := (-1 : Int32)) hx hb dX1_get_12 (by decide) ?_
    refine lv_goto (tgt := 22) hx hb dX1_get_13 rfl ?_
    subst hQ
    exact W.iret (v := (-1 : Int32)) hx hb hr (fun t ht hW => ⟨(-1 : Int32), rfl, (by (try dsimp only); unfold sp_get; (repeat' split) <;> first | rfl | (exfalso; omega)), ht⟩) (fun q h => absurd h List.not_mem_nil) dX1_get_22
  · skip
    have h1 := (not_congr (tl_lt (show x.toInt = x.toInt from rfl) (show (0 : Int32).toInt = (0 : Int) from Int32.toInt_zero))).mp h1
    refine lv_iload_n hx hb dX1_get_4 rfl (lv_at hl 1 rfl) ?_
    refine lv_aload_n hx hb dX1_get_5 rfl (lv_at hl 0 rfl) ?_
    refine va_get (D := (dC, dI)) (ci := 1) (v := .int (nI n)) (C := RX1) (T := TX1) (N := 6) hx hb hts hinX1 hown hK hP 0 rfl rfl 3 (by decide) (hts _ (List.mem_cons_of_mem _ k248)) (fun _ h9 => h9) rfl dX1_get_6 ?_
    refine lv_icmp_lt (tgt := 16) hx hb dX1_get_9 rfl (fun h9 => ?_) (fun h9 => ?_)
    · skip
      have h9 := (tl_lt (show x.toInt = x.toInt from rfl) (show (nI n).toInt = ((n : Nat) : Int) from (nI_toInt (by omega)))).mp h9
      obtain ⟨a, lta, rfl⟩ := tl_of (x := x) (by omega)
      have ea : (nI a).toInt = ((a : Nat) : Int) := nI_toInt lta
      refine lv_aload_n hx hb dX1_get_16 rfl (lv_at hl 0 rfl) ?_
      refine va_get (D := (dC, dI)) (ci := 1) (v := .ref q0) (C := RX1) (T := TX1) (N := 6) hx hb hts hinX1 hown hK hP 0 rfl rfl 0 (by decide) (hts _ (List.mem_cons_of_mem _ k245)) (fun _ h9 => h9) rfl dX1_get_17 ?_
      refine lv_iload_n hx hb dX1_get_20 rfl (lv_at hl 1 rfl) ?_
      refine tl_iald (v := T0 a) hx hb hK hP 1 0 rfl rfl (by omega) (by decide) (hT _ (by omega)) dX1_get_21 ?_
      subst hQ
      exact W.iret (v := T0 a) hx hb hr (fun t ht hW => ⟨T0 a, rfl, (by (try dsimp only); unfold sp_get; (try simp only [nI_clamp lta]); (repeat' split) <;> first | rfl | (exfalso; omega)), ht⟩) (fun q h => absurd h List.not_mem_nil) dX1_get_22
    · skip
      have h9 := (not_congr (tl_lt (show x.toInt = x.toInt from rfl) (show (nI n).toInt = ((n : Nat) : Int) from (nI_toInt (by omega))))).mp h9
      refine lv_iconst (v := (-1 : Int32)) hx hb dX1_get_12 (by decide) ?_
      refine lv_goto (tgt := 22) hx hb dX1_get_13 rfl ?_
      subst hQ
      exact W.iret (v := (-1 : Int32)) hx hb hr (fun t ht hW => ⟨(-1 : Int32), rfl, (by (try dsimp only); unfold sp_get; (repeat' split) <;> first | rfl | (exfalso; omega)), ht⟩) (fun q h => absurd h List.not_mem_nil) dX1_get_22
set_option maxHeartbeats 4000000 in
set_option maxRecDepth 100000 in
theorem c_M_scrap (l : Launch) (dC : Nat → ClassId) (dI : Nat → Nat → Nat) (h0 q0 q1 q2 n k : Nat) (cA cB cC : ClassId) (T G T0 G0 : Nat → Int32) (hT : ∀ j, j < n → T j = T0 j) (hG : ∀ j, j < k → G j = G0 j) (hn : n ≤ 3000) (hk : k ≤ 40) (E : Nat → Int32) (d : Int32) (x : Int32) : Met l yX1_scrap wsX1_scrap ({ frames := 0, cells := 0, slots := 0, locals := 0 } : Room) (va_Pc [.ref h0, .int x] (fun U => va_P (dC, dI) vwCl [(h0, .inr (1, [.ref q0, .ref q1, .ref q2, .int (nI n), .int (nI k), .int d])), (q0, .inl (cA, 3000, .inl T)), (q1, .inl (cB, 40, .inl G)), (q2, .inl (cC, 20, .inl E))] U.heap ∧ va_K (dC, dI) vwCl [(cA, .int), (cB, .int), (cC, .int)] U)) (vp_Si (fun r : Int32 => r = sp_scrap x k G0)) 0 0 (fun _ => False) := by
  refine Met.ofW (cc := cX1_scrap) (maxL := 2) (ret := (some .int)) (by decide) rfl ?_
  intro p e s m args below meth c s₁ B hml hv
  obtain ⟨rfl, hP, hK⟩ := hv
  have hx := B.exec
  have hb := B.bytes
  have hr := B.returns
  have hts := atoms_spec (ws := wsX1_scrap) B.pre
  have hown : s.vm.findClass RX1 = some m.cls := findClass_of_methodNamed B.named
  have hlocks := B.notSynchronized
  have hP : va_P (dC, dI) vwCl [(h0, .inr (1, [.ref q0, .ref q1, .ref q2, .int (nI n), .int (nI k), .int d])), (q0, .inl (cA, 3000, .inl T)), (q1, .inl (cB, 40, .inl G)), (q2, .inl (cC, 20, .inl E))] s.heap := hP
  have hinX1 : ∀ w ∈ u_ws RX1 TX1 6, w ∈ wsX1_scrap := fun w h => List.mem_cons_of_mem _ (inX1 w h)
  have hl := lv_entry ([.ref h0, .int x]) (n := 2) (Nat.le_of_ble_eq_true rfl)
  rw [lg_entry_eq]
  generalize (lg_sl ([.ref h0, .int x]) ++ List.replicate (2 - (lg_sl ([.ref h0, .int x])).length) Slot.unset).toArray = ls at hl ⊢
  have hl : lv_has ls 2 [(0, .ref h0), (1, .int x)] := hl
  refine tl_q (fun Q hQ => ?_)
  refine lv_iload_n hx hb dX1_scrap_0 rfl (lv_at hl 1 rfl) ?_
  refine lv_if_lt (tgt := 12) hx hb dX1_scrap_1 rfl (fun h1 => ?_) (fun h1 => ?_)
  · skip
    have h1 := (tl_lt (show x.toInt = x.toInt from rfl) (show (0 : Int32).toInt = (0 : Int) from Int32.toInt_zero)).mp h1
    refine lv_iconst (v := (-1 : Int32)) hx hb dX1_scrap_12 (by decide) ?_
    refine lv_goto (tgt := 22) hx hb dX1_scrap_13 rfl ?_
    subst hQ
    exact W.iret (v := (-1 : Int32)) hx hb hr (fun t ht hW => ⟨(-1 : Int32), rfl, (by (try dsimp only); unfold sp_scrap; (repeat' split) <;> first | rfl | (exfalso; omega)), ht⟩) (fun q h => absurd h List.not_mem_nil) dX1_scrap_22
  · skip
    have h1 := (not_congr (tl_lt (show x.toInt = x.toInt from rfl) (show (0 : Int32).toInt = (0 : Int) from Int32.toInt_zero))).mp h1
    refine lv_iload_n hx hb dX1_scrap_4 rfl (lv_at hl 1 rfl) ?_
    refine lv_aload_n hx hb dX1_scrap_5 rfl (lv_at hl 0 rfl) ?_
    refine va_get (D := (dC, dI)) (ci := 1) (v := .int (nI k)) (C := RX1) (T := TX1) (N := 6) hx hb hts hinX1 hown hK hP 0 rfl rfl 4 (by decide) (hts _ (List.mem_cons_of_mem _ k249)) (fun _ h9 => h9) rfl dX1_scrap_6 ?_
    refine lv_icmp_lt (tgt := 16) hx hb dX1_scrap_9 rfl (fun h9 => ?_) (fun h9 => ?_)
    · skip
      have h9 := (tl_lt (show x.toInt = x.toInt from rfl) (show (nI k).toInt = ((k : Nat) : Int) from (nI_toInt (by omega)))).mp h9
      obtain ⟨a, lta, rfl⟩ := tl_of (x := x) (by omega)
      have ea : (nI a).toInt = ((a : Nat) : Int) := nI_toInt lta
      refine lv_aload_n hx hb dX1_scrap_16 rfl (lv_at hl 0 rfl) ?_
      refine va_get (D := (dC, dI)) (ci := 1) (v := .ref q1) (C := RX1) (T := TX1) (N := 6) hx hb hts hinX1 hown hK hP 0 rfl rfl 1 (by decide) (hts _ (List.mem_cons_of_mem _ k246)) (fun _ h9 => h9) rfl dX1_scrap_17 ?_
      refine lv_iload_n hx hb dX1_scrap_20 rfl (lv_at hl 1 rfl) ?_
      refine tl_iald (v := G0 a) hx hb hK hP 2 1 rfl rfl (by omega) (by decide) (hG _ (by omega)) dX1_scrap_21 ?_
      subst hQ
      exact W.iret (v := G0 a) hx hb hr (fun t ht hW => ⟨G0 a, rfl, (by (try dsimp only); unfold sp_scrap; (try simp only [nI_clamp lta]); (repeat' split) <;> first | rfl | (exfalso; omega)), ht⟩) (fun q h => absurd h List.not_mem_nil) dX1_scrap_22
    · skip
      have h9 := (not_congr (tl_lt (show x.toInt = x.toInt from rfl) (show (nI k).toInt = ((k : Nat) : Int) from (nI_toInt (by omega))))).mp h9
      refine lv_iconst (v := (-1 : Int32)) hx hb dX1_scrap_12 (by decide) ?_
      refine lv_goto (tgt := 22) hx hb dX1_scrap_13 rfl ?_
      subst hQ
      exact W.iret (v := (-1 : Int32)) hx hb hr (fun t ht hW => ⟨(-1 : Int32), rfl, (by (try dsimp only); unfold sp_scrap; (repeat' split) <;> first | rfl | (exfalso; omega)), ht⟩) (fun q h => absurd h List.not_mem_nil) dX1_scrap_22
set_option maxHeartbeats 4000000 in
set_option maxRecDepth 100000 in
theorem c_M_look (l : Launch) (dC : Nat → ClassId) (dI : Nat → Nat → Nat) (h0 q0 q1 q2 n k : Nat) (cA cB cC : ClassId) (T G T0 G0 : Nat → Int32) (hT : ∀ j, j < n → T j = T0 j) (hG : ∀ j, j < k → G j = G0 j) (hn : n ≤ 3000) (hk : k ≤ 40) (E : Nat → Int32) (d : Int32) (x : Int32) : Met l yX1_look wsX1_look ({ frames := 0, cells := 0, slots := 0, locals := 0 } : Room) (va_Pc [.ref h0, .int x] (fun U => va_P (dC, dI) vwCl [(h0, .inr (1, [.ref q0, .ref q1, .ref q2, .int (nI n), .int (nI k), .int d])), (q0, .inl (cA, 3000, .inl T)), (q1, .inl (cB, 40, .inl G)), (q2, .inl (cC, 20, .inl E))] U.heap ∧ va_K (dC, dI) vwCl [(cA, .int), (cB, .int), (cC, .int)] U)) (vp_Si (fun r : Int32 => r = sp_look x n T0 k)) 0 0 (fun _ => False) := by
  refine Met.ofW (cc := cX1_look) (maxL := 4) (ret := (some .int)) (by decide) rfl ?_
  intro p e s m args below meth c s₁ B hml hv
  obtain ⟨rfl, hP, hK⟩ := hv
  have hx := B.exec
  have hb := B.bytes
  have hr := B.returns
  have hts := atoms_spec (ws := wsX1_look) B.pre
  have hown : s.vm.findClass RX1 = some m.cls := findClass_of_methodNamed B.named
  have hlocks := B.notSynchronized
  have hP : va_P (dC, dI) vwCl [(h0, .inr (1, [.ref q0, .ref q1, .ref q2, .int (nI n), .int (nI k), .int d])), (q0, .inl (cA, 3000, .inl T)), (q1, .inl (cB, 40, .inl G)), (q2, .inl (cC, 20, .inl E))] s.heap := hP
  have hinX1 : ∀ w ∈ u_ws RX1 TX1 6, w ∈ wsX1_look := fun w h => List.mem_cons_of_mem _ (inX1 w h)
  have hl := lv_entry ([.ref h0, .int x]) (n := 4) (Nat.le_of_ble_eq_true rfl)
  rw [lg_entry_eq]
  generalize (lg_sl ([.ref h0, .int x]) ++ List.replicate (4 - (lg_sl ([.ref h0, .int x])).length) Slot.unset).toArray = ls at hl ⊢
  have hl : lv_has ls 4 [(0, .ref h0), (1, .int x)] := hl
  refine tl_q (fun Q hQ => ?_)
  refine lv_iconst (v := nI 0) hx hb dX1_look_0 (by decide) ?_
  refine lv_istore_n (lv' := [(2, .int (nI 0)), (0, .ref h0), (1, .int x)]) hx hb dX1_look_1 rfl hl (by decide) rfl (fun ls hl => ?_)
  refine lv_iconst (v := nI 0) hx hb dX1_look_2 (by decide) ?_
  refine lv_istore_n (lv' := [(3, .int (nI 0)), (2, .int (nI 0)), (0, .ref h0), (1, .int x)]) hx hb dX1_look_3 rfl hl (by decide) rfl (fun ls hl => ?_)
  have LP4 : ∀ (fu : Nat) (j : Nat) (ls : Array Slot), n - j < fu → j ≤ n → lv_has ls 4 [(0, .ref h0), (1, .int x), (2, .int (tl_sum T0 j)), (3, .int (nI j))] → W p l e (headSpec wsX1_look ({ frames := 0, cells := 0, slots := 0, locals := 0 } : Room)).room s m ([.ref h0, .int x] : List Value).toArray below meth c s.heap [] 0 0 Q (F0 m 4 ls []) := by
    intro fu
    induction fu with
    | zero => intro j ls hfu; exact absurd hfu (Nat.not_lt_zero _)
    | succ fu ih =>
      intro j ls hfu hj hl
      refine lv_iload_n hx hb dX1_look_4 rfl (lv_at hl 3 rfl) ?_
      refine lv_aload_n hx hb dX1_look_5 rfl (lv_at hl 0 rfl) ?_
      refine va_get (D := (dC, dI)) (ci := 1) (v := .int (nI n)) (C := RX1) (T := TX1) (N := 6) hx hb hts hinX1 hown hK hP 0 rfl rfl 3 (by decide) (hts _ (List.mem_cons_of_mem _ k248)) (fun _ h9 => h9) rfl dX1_look_6 ?_
      refine lv_icmp_ge (tgt := 31) hx hb dX1_look_9 rfl (fun h9 => ?_) (fun h9 => ?_)
      · skip
        have h9 := (tl_le (show (nI n).toInt = ((n : Nat) : Int) from (nI_toInt (by omega))) (show (nI j).toInt = ((j : Nat) : Int) from (nI_toInt (by omega)))).mp h9
        refine lv_iload_n hx hb dX1_look_31 rfl (lv_at hl 1 rfl) ?_
        refine lv_if_ne (tgt := 42) hx hb dX1_look_32 rfl (fun h32 => ?_) (fun h32 => ?_)
        · skip
          have h32 := (not_congr (tl_eq (show x.toInt = x.toInt from rfl) (show (0 : Int32).toInt = (0 : Int) from Int32.toInt_zero))).mp h32
          refine lv_iload_n hx hb dX1_look_42 rfl (lv_at hl 1 rfl) ?_
          refine lv_iconst (v := nI 1) hx hb dX1_look_43 (by decide) ?_
          refine lv_icmp_ne (tgt := 54) hx hb dX1_look_44 rfl (fun h44 => ?_) (fun h44 => ?_)
          · skip
            have h44 := (not_congr (tl_eq (show x.toInt = x.toInt from rfl) (show (nI 1).toInt = (1 : Int) from (by decide)))).mp h44
            refine lv_iload_n hx hb dX1_look_54 rfl (lv_at hl 1 rfl) ?_
            refine lv_iconst (v := nI 2) hx hb dX1_look_55 (by decide) ?_
            refine lv_icmp_ne (tgt := 63) hx hb dX1_look_56 rfl (fun h56 => ?_) (fun h56 => ?_)
            · skip
              have h56 := (not_congr (tl_eq (show x.toInt = x.toInt from rfl) (show (nI 2).toInt = (2 : Int) from (by decide)))).mp h56
              refine lv_iconst (v := (-1 : Int32)) hx hb dX1_look_63 (by decide) ?_
              subst hQ
              exact W.iret (v := (-1 : Int32)) hx hb hr (fun t ht hW => ⟨(-1 : Int32), rfl, (by (try dsimp only); unfold sp_look; (repeat' split) <;> first | rfl | (exfalso; omega) | (rw [show j = n by omega])), ht⟩) (fun q h => absurd h List.not_mem_nil) dX1_look_64
            · skip
              have h56 := (tl_eq (show x.toInt = x.toInt from rfl) (show (nI 2).toInt = (2 : Int) from (by decide))).mp h56
              refine lv_iload_n hx hb dX1_look_59 rfl (lv_at hl 2 rfl) ?_
              refine lv_goto (tgt := 64) hx hb dX1_look_60 rfl ?_
              subst hQ
              exact W.iret (v := tl_sum T0 j) hx hb hr (fun t ht hW => ⟨tl_sum T0 j, rfl, (by (try dsimp only); unfold sp_look; (repeat' split) <;> first | rfl | (exfalso; omega) | (rw [show j = n by omega])), ht⟩) (fun q h => absurd h List.not_mem_nil) dX1_look_64
          · skip
            have h44 := (tl_eq (show x.toInt = x.toInt from rfl) (show (nI 1).toInt = (1 : Int) from (by decide))).mp h44
            refine lv_aload_n hx hb dX1_look_47 rfl (lv_at hl 0 rfl) ?_
            refine va_get (D := (dC, dI)) (ci := 1) (v := .int (nI k)) (C := RX1) (T := TX1) (N := 6) hx hb hts hinX1 hown hK hP 0 rfl rfl 4 (by decide) (hts _ (List.mem_cons_of_mem _ k249)) (fun _ h9 => h9) rfl dX1_look_48 ?_
            refine lv_goto (tgt := 64) hx hb dX1_look_51 rfl ?_
            subst hQ
            exact W.iret (v := nI k) hx hb hr (fun t ht hW => ⟨nI k, rfl, (by (try dsimp only); unfold sp_look; (repeat' split) <;> first | rfl | (exfalso; omega) | (rw [show j = n by omega])), ht⟩) (fun q h => absurd h List.not_mem_nil) dX1_look_64
        · skip
          have h32 := (tl_eq (show x.toInt = x.toInt from rfl) (show (0 : Int32).toInt = (0 : Int) from Int32.toInt_zero)).mp h32
          refine lv_aload_n hx hb dX1_look_35 rfl (lv_at hl 0 rfl) ?_
          refine va_get (D := (dC, dI)) (ci := 1) (v := .int (nI n)) (C := RX1) (T := TX1) (N := 6) hx hb hts hinX1 hown hK hP 0 rfl rfl 3 (by decide) (hts _ (List.mem_cons_of_mem _ k248)) (fun _ h9 => h9) rfl dX1_look_36 ?_
          refine lv_goto (tgt := 64) hx hb dX1_look_39 rfl ?_
          subst hQ
          exact W.iret (v := nI n) hx hb hr (fun t ht hW => ⟨nI n, rfl, (by (try dsimp only); unfold sp_look; (repeat' split) <;> first | rfl | (exfalso; omega) | (rw [show j = n by omega])), ht⟩) (fun q h => absurd h List.not_mem_nil) dX1_look_64
      · skip
        have h9 := (not_congr (tl_le (show (nI n).toInt = ((n : Nat) : Int) from (nI_toInt (by omega))) (show (nI j).toInt = ((j : Nat) : Int) from (nI_toInt (by omega))))).mp h9
        refine lv_iload_n hx hb dX1_look_12 rfl (lv_at hl 2 rfl) ?_
        refine lv_iload_n hx hb dX1_look_13 rfl (lv_at hl 3 rfl) ?_
        refine lv_iconst (v := nI 1) hx hb dX1_look_14 (by decide) ?_
        refine lv_iadd hx hb dX1_look_15 ?_
        refine tl_top (nI_add _ _) ?_
        refine lv_aload_n hx hb dX1_look_16 rfl (lv_at hl 0 rfl) ?_
        refine va_get (D := (dC, dI)) (ci := 1) (v := .ref q0) (C := RX1) (T := TX1) (N := 6) hx hb hts hinX1 hown hK hP 0 rfl rfl 0 (by decide) (hts _ (List.mem_cons_of_mem _ k245)) (fun _ h9 => h9) rfl dX1_look_17 ?_
        refine lv_iload_n hx hb dX1_look_20 rfl (lv_at hl 3 rfl) ?_
        refine tl_iald (v := T0 j) hx hb hK hP 1 0 rfl rfl (by omega) (by decide) (hT _ (by omega)) dX1_look_21 ?_
        refine lv_imul hx hb dX1_look_22 ?_
        refine lv_iadd hx hb dX1_look_23 ?_
        refine tl_top (y := tl_sum T0 (j + 1)) (rfl) ?_
        refine lv_istore_n (lv' := [(2, .int (tl_sum T0 (j + 1))), (0, .ref h0), (1, .int x), (3, .int (nI j))]) hx hb dX1_look_24 rfl hl (by decide) rfl (fun ls hl => ?_)
        refine lv_iinc (lv' := [(3, .int (nI (j + 1))), (2, .int (tl_sum T0 (j + 1))), (0, .ref h0), (1, .int x)]) (k := 3) (v := nI (j + 1)) hx hb dX1_look_25 hl rfl (tl_inc1 _) (by decide) rfl (fun ls hl => ?_)
        refine lv_goto (tgt := 4) hx hb dX1_look_28 rfl ?_
        exact ih (j + 1) ls (by omega) (by omega) (lv_sub hl [2, 3, 1, 0] rfl)
  exact LP4 _ 0 ls (Nat.lt_succ_self _) (by omega) (lv_sub hl [2, 3, 1, 0] rfl)
set_option maxHeartbeats 4000000 in
set_option maxRecDepth 100000 in
theorem c_M_compare (l : Launch) (dC : Nat → ClassId) (dI : Nat → Nat → Nat) (h0 q0 q1 q2 n k : Nat) (cA cB cC : ClassId) (T G T0 G0 : Nat → Int32) (hT : ∀ j, j < n → T j = T0 j) (hG : ∀ j, j < k → G j = G0 j) (hn : n ≤ 3000) (hk : k ≤ 40) (E : Nat → Int32) (d : Int32)  : Met l yX1_compare wsX1_compare ({ frames := 0, cells := 0, slots := 0, locals := 0 } : Room) (va_Pc [.ref h0] (fun U => va_P (dC, dI) vwCl [(h0, .inr (1, [.ref q0, .ref q1, .ref q2, .int (nI n), .int (nI k), .int d])), (q0, .inl (cA, 3000, .inl T)), (q1, .inl (cB, 40, .inl G)), (q2, .inl (cC, 20, .inl E))] U.heap ∧ va_K (dC, dI) vwCl [(cA, .int), (cB, .int), (cC, .int)] U)) (vp_Si (fun r : Int32 => r = sp_compare n T0 k G0)) 0 0 (fun _ => False) := by
  refine Met.ofW (cc := cX1_compare) (maxL := 2) (ret := (some .int)) (by decide) rfl ?_
  intro p e s m args below meth c s₁ B hml hv
  obtain ⟨rfl, hP, hK⟩ := hv
  have hx := B.exec
  have hb := B.bytes
  have hr := B.returns
  have hts := atoms_spec (ws := wsX1_compare) B.pre
  have hown : s.vm.findClass RX1 = some m.cls := findClass_of_methodNamed B.named
  have hlocks := B.notSynchronized
  have hP : va_P (dC, dI) vwCl [(h0, .inr (1, [.ref q0, .ref q1, .ref q2, .int (nI n), .int (nI k), .int d])), (q0, .inl (cA, 3000, .inl T)), (q1, .inl (cB, 40, .inl G)), (q2, .inl (cC, 20, .inl E))] s.heap := hP
  have hinX1 : ∀ w ∈ u_ws RX1 TX1 6, w ∈ wsX1_compare := fun w h => List.mem_cons_of_mem _ (inX1 w h)
  have hl := lv_entry ([.ref h0]) (n := 2) (Nat.le_of_ble_eq_true rfl)
  rw [lg_entry_eq]
  generalize (lg_sl ([.ref h0]) ++ List.replicate (2 - (lg_sl ([.ref h0])).length) Slot.unset).toArray = ls at hl ⊢
  have hl : lv_has ls 2 [(0, .ref h0)] := hl
  refine tl_q (fun Q hQ => ?_)
  refine lv_iconst (v := nI 0) hx hb dX1_compare_0 (by decide) ?_
  refine lv_istore_n (lv' := [(1, .int (nI 0)), (0, .ref h0)]) hx hb dX1_compare_1 rfl hl (by decide) rfl (fun ls hl => ?_)
  have LP2 : ∀ (fu : Nat) (j : Nat) (ls : Array Slot), min n k - j < fu → j ≤ min n k → sp_compare n T0 k G0 = tl_cmp T0 G0 (tl_ord n k) (min n k - j) j → lv_has ls 2 [(0, .ref h0), (1, .int (nI j))] → W p l e (headSpec wsX1_compare ({ frames := 0, cells := 0, slots := 0, locals := 0 } : Room)).room s m ([.ref h0] : List Value).toArray below meth c s.heap [] 0 0 Q (F0 m 2 ls []) := by
    intro fu
    induction fu with
    | zero => intro j ls hfu; exact absurd hfu (Nat.not_lt_zero _)
    | succ fu ih =>
      intro j ls hfu hj hf hl
      refine lv_iload_n hx hb dX1_compare_2 rfl (lv_at hl 1 rfl) ?_
      refine lv_aload_n hx hb dX1_compare_3 rfl (lv_at hl 0 rfl) ?_
      refine va_get (D := (dC, dI)) (ci := 1) (v := .int (nI n)) (C := RX1) (T := TX1) (N := 6) hx hb hts hinX1 hown hK hP 0 rfl rfl 3 (by decide) (hts _ (List.mem_cons_of_mem _ k248)) (fun _ h9 => h9) rfl dX1_compare_4 ?_
      refine lv_icmp_ge (tgt := 60) hx hb dX1_compare_7 rfl (fun h7 => ?_) (fun h7 => ?_)
      · skip
        have h7 := (tl_le (show (nI n).toInt = ((n : Nat) : Int) from (nI_toInt (by omega))) (show (nI j).toInt = ((j : Nat) : Int) from (nI_toInt (by omega)))).mp h7
        refine lv_aload_n hx hb dX1_compare_60 rfl (lv_at hl 0 rfl) ?_
        refine va_get (D := (dC, dI)) (ci := 1) (v := .int (nI n)) (C := RX1) (T := TX1) (N := 6) hx hb hts hinX1 hown hK hP 0 rfl rfl 3 (by decide) (hts _ (List.mem_cons_of_mem _ k248)) (fun _ h9 => h9) rfl dX1_compare_61 ?_
        refine lv_aload_n hx hb dX1_compare_64 rfl (lv_at hl 0 rfl) ?_
        refine va_get (D := (dC, dI)) (ci := 1) (v := .int (nI k)) (C := RX1) (T := TX1) (N := 6) hx hb hts hinX1 hown hK hP 0 rfl rfl 4 (by decide) (hts _ (List.mem_cons_of_mem _ k249)) (fun _ h9 => h9) rfl dX1_compare_65 ?_
        refine lv_icmp_ge (tgt := 75) hx hb dX1_compare_68 rfl (fun h68 => ?_) (fun h68 => ?_)
        · skip
          have h68 := (tl_le (show (nI k).toInt = ((k : Nat) : Int) from (nI_toInt (by omega))) (show (nI n).toInt = ((n : Nat) : Int) from (nI_toInt (by omega)))).mp h68
          refine lv_aload_n hx hb dX1_compare_75 rfl (lv_at hl 0 rfl) ?_
          refine va_get (D := (dC, dI)) (ci := 1) (v := .int (nI n)) (C := RX1) (T := TX1) (N := 6) hx hb hts hinX1 hown hK hP 0 rfl rfl 3 (by decide) (hts _ (List.mem_cons_of_mem _ k248)) (fun _ h9 => h9) rfl dX1_compare_76 ?_
          refine lv_aload_n hx hb dX1_compare_79 rfl (lv_at hl 0 rfl) ?_
          refine va_get (D := (dC, dI)) (ci := 1) (v := .int (nI k)) (C := RX1) (T := TX1) (N := 6) hx hb hts hinX1 hown hK hP 0 rfl rfl 4 (by decide) (hts _ (List.mem_cons_of_mem _ k249)) (fun _ h9 => h9) rfl dX1_compare_80 ?_
          refine lv_icmp_le (tgt := 90) hx hb dX1_compare_83 rfl (fun h83 => ?_) (fun h83 => ?_)
          · skip
            have h83 := (tl_le (show (nI n).toInt = ((n : Nat) : Int) from (nI_toInt (by omega))) (show (nI k).toInt = ((k : Nat) : Int) from (nI_toInt (by omega)))).mp h83
            refine lv_iconst (v := nI 0) hx hb dX1_compare_90 (by decide) ?_
            subst hQ
            exact W.iret (v := nI 0) hx hb hr (fun t ht hW => ⟨nI 0, rfl, (by rw [hf, show min n k - j = 0 by omega, tl_cmp, tl_ord]; (repeat' split) <;> first | rfl | (exfalso; omega)), ht⟩) (fun q h => absurd h List.not_mem_nil) dX1_compare_91
          · skip
            have h83 := (not_congr (tl_le (show (nI n).toInt = ((n : Nat) : Int) from (nI_toInt (by omega))) (show (nI k).toInt = ((k : Nat) : Int) from (nI_toInt (by omega))))).mp h83
            refine lv_iconst (v := nI 1) hx hb dX1_compare_86 (by decide) ?_
            refine lv_goto (tgt := 91) hx hb dX1_compare_87 rfl ?_
            subst hQ
            exact W.iret (v := nI 1) hx hb hr (fun t ht hW => ⟨nI 1, rfl, (by rw [hf, show min n k - j = 0 by omega, tl_cmp, tl_ord]; (repeat' split) <;> first | rfl | (exfalso; omega)), ht⟩) (fun q h => absurd h List.not_mem_nil) dX1_compare_91
        · skip
          have h68 := (not_congr (tl_le (show (nI k).toInt = ((k : Nat) : Int) from (nI_toInt (by omega))) (show (nI n).toInt = ((n : Nat) : Int) from (nI_toInt (by omega))))).mp h68
          refine lv_iconst (v := (-1 : Int32)) hx hb dX1_compare_71 (by decide) ?_
          refine lv_goto (tgt := 91) hx hb dX1_compare_72 rfl ?_
          subst hQ
          exact W.iret (v := (-1 : Int32)) hx hb hr (fun t ht hW => ⟨(-1 : Int32), rfl, (by rw [hf, show min n k - j = 0 by omega, tl_cmp, tl_ord]; (repeat' split) <;> first | rfl | (exfalso; omega)), ht⟩) (fun q h => absurd h List.not_mem_nil) dX1_compare_91
      · skip
        have h7 := (not_congr (tl_le (show (nI n).toInt = ((n : Nat) : Int) from (nI_toInt (by omega))) (show (nI j).toInt = ((j : Nat) : Int) from (nI_toInt (by omega))))).mp h7
        refine lv_iload_n hx hb dX1_compare_10 rfl (lv_at hl 1 rfl) ?_
        refine lv_aload_n hx hb dX1_compare_11 rfl (lv_at hl 0 rfl) ?_
        refine va_get (D := (dC, dI)) (ci := 1) (v := .int (nI k)) (C := RX1) (T := TX1) (N := 6) hx hb hts hinX1 hown hK hP 0 rfl rfl 4 (by decide) (hts _ (List.mem_cons_of_mem _ k249)) (fun _ h9 => h9) rfl dX1_compare_12 ?_
        refine lv_icmp_ge (tgt := 60) hx hb dX1_compare_15 rfl (fun h15 => ?_) (fun h15 => ?_)
        · skip
          have h15 := (tl_le (show (nI k).toInt = ((k : Nat) : Int) from (nI_toInt (by omega))) (show (nI j).toInt = ((j : Nat) : Int) from (nI_toInt (by omega)))).mp h15
          refine lv_aload_n hx hb dX1_compare_60 rfl (lv_at hl 0 rfl) ?_
          refine va_get (D := (dC, dI)) (ci := 1) (v := .int (nI n)) (C := RX1) (T := TX1) (N := 6) hx hb hts hinX1 hown hK hP 0 rfl rfl 3 (by decide) (hts _ (List.mem_cons_of_mem _ k248)) (fun _ h9 => h9) rfl dX1_compare_61 ?_
          refine lv_aload_n hx hb dX1_compare_64 rfl (lv_at hl 0 rfl) ?_
          refine va_get (D := (dC, dI)) (ci := 1) (v := .int (nI k)) (C := RX1) (T := TX1) (N := 6) hx hb hts hinX1 hown hK hP 0 rfl rfl 4 (by decide) (hts _ (List.mem_cons_of_mem _ k249)) (fun _ h9 => h9) rfl dX1_compare_65 ?_
          refine lv_icmp_ge (tgt := 75) hx hb dX1_compare_68 rfl (fun h68 => ?_) (fun h68 => ?_)
          · skip
            have h68 := (tl_le (show (nI k).toInt = ((k : Nat) : Int) from (nI_toInt (by omega))) (show (nI n).toInt = ((n : Nat) : Int) from (nI_toInt (by omega)))).mp h68
            refine lv_aload_n hx hb dX1_compare_75 rfl (lv_at hl 0 rfl) ?_
            refine va_get (D := (dC, dI)) (ci := 1) (v := .int (nI n)) (C := RX1) (T := TX1) (N := 6) hx hb hts hinX1 hown hK hP 0 rfl rfl 3 (by decide) (hts _ (List.mem_cons_of_mem _ k248)) (fun _ h9 => h9) rfl dX1_compare_76 ?_
            refine lv_aload_n hx hb dX1_compare_79 rfl (lv_at hl 0 rfl) ?_
            refine va_get (D := (dC, dI)) (ci := 1) (v := .int (nI k)) (C := RX1) (T := TX1) (N := 6) hx hb hts hinX1 hown hK hP 0 rfl rfl 4 (by decide) (hts _ (List.mem_cons_of_mem _ k249)) (fun _ h9 => h9) rfl dX1_compare_80 ?_
            refine lv_icmp_le (tgt := 90) hx hb dX1_compare_83 rfl (fun h83 => ?_) (fun h83 => ?_)
            · skip
              have h83 := (tl_le (show (nI n).toInt = ((n : Nat) : Int) from (nI_toInt (by omega))) (show (nI k).toInt = ((k : Nat) : Int) from (nI_toInt (by omega)))).mp h83
              refine lv_iconst (v := nI 0) hx hb dX1_compare_90 (by decide) ?_
              subst hQ
              exact W.iret (v := nI 0) hx hb hr (fun t ht hW => ⟨nI 0, rfl, (by rw [hf, show min n k - j = 0 by omega, tl_cmp, tl_ord]; (repeat' split) <;> first | rfl | (exfalso; omega)), ht⟩) (fun q h => absurd h List.not_mem_nil) dX1_compare_91
            · skip
              have h83 := (not_congr (tl_le (show (nI n).toInt = ((n : Nat) : Int) from (nI_toInt (by omega))) (show (nI k).toInt = ((k : Nat) : Int) from (nI_toInt (by omega))))).mp h83
              refine lv_iconst (v := nI 1) hx hb dX1_compare_86 (by decide) ?_
              refine lv_goto (tgt := 91) hx hb dX1_compare_87 rfl ?_
              subst hQ
              exact W.iret (v := nI 1) hx hb hr (fun t ht hW => ⟨nI 1, rfl, (by rw [hf, show min n k - j = 0 by omega, tl_cmp, tl_ord]; (repeat' split) <;> first | rfl | (exfalso; omega)), ht⟩) (fun q h => absurd h List.not_mem_nil) dX1_compare_91
          · skip
            have h68 := (not_congr (tl_le (show (nI k).toInt = ((k : Nat) : Int) from (nI_toInt (by omega))) (show (nI n).toInt = ((n : Nat) : Int) from (nI_toInt (by omega))))).mp h68
            refine lv_iconst (v := (-1 : Int32)) hx hb dX1_compare_71 (by decide) ?_
            refine lv_goto (tgt := 91) hx hb dX1_compare_72 rfl ?_
            subst hQ
            exact W.iret (v := (-1 : Int32)) hx hb hr (fun t ht hW => ⟨(-1 : Int32), rfl, (by rw [hf, show min n k - j = 0 by omega, tl_cmp, tl_ord]; (repeat' split) <;> first | rfl | (exfalso; omega)), ht⟩) (fun q h => absurd h List.not_mem_nil) dX1_compare_91
        · skip
          have h15 := (not_congr (tl_le (show (nI k).toInt = ((k : Nat) : Int) from (nI_toInt (by omega))) (show (nI j).toInt = ((j : Nat) : Int) from (nI_toInt (by omega))))).mp h15
          refine lv_aload_n hx hb dX1_compare_18 rfl (lv_at hl 0 rfl) ?_
          refine va_get (D := (dC, dI)) (ci := 1) (v := .ref q0) (C := RX1) (T := TX1) (N := 6) hx hb hts hinX1 hown hK hP 0 rfl rfl 0 (by decide) (hts _ (List.mem_cons_of_mem _ k245)) (fun _ h9 => h9) rfl dX1_compare_19 ?_
          refine lv_iload_n hx hb dX1_compare_22 rfl (lv_at hl 1 rfl) ?_
          refine tl_iald (v := T0 j) hx hb hK hP 1 0 rfl rfl (by omega) (by decide) (hT _ (by omega)) dX1_compare_23 ?_
          refine lv_aload_n hx hb dX1_compare_24 rfl (lv_at hl 0 rfl) ?_
          refine va_get (D := (dC, dI)) (ci := 1) (v := .ref q1) (C := RX1) (T := TX1) (N := 6) hx hb hts hinX1 hown hK hP 0 rfl rfl 1 (by decide) (hts _ (List.mem_cons_of_mem _ k246)) (fun _ h9 => h9) rfl dX1_compare_25 ?_
          refine lv_iload_n hx hb dX1_compare_28 rfl (lv_at hl 1 rfl) ?_
          refine tl_iald (v := G0 j) hx hb hK hP 2 1 rfl rfl (by omega) (by decide) (hG _ (by omega)) dX1_compare_29 ?_
          refine lv_icmp_eq (tgt := 54) hx hb dX1_compare_30 rfl (fun h30 => ?_) (fun h30 => ?_)
          · skip
            have h30 := (tl_eq (show (T0 j).toInt = (T0 j).toInt from rfl) (show (G0 j).toInt = (G0 j).toInt from rfl)).mp h30
            refine lv_iinc (lv' := [(1, .int (nI (j + 1))), (0, .ref h0)]) (k := 1) (v := nI (j + 1)) hx hb dX1_compare_54 hl rfl (tl_inc1 _) (by decide) rfl (fun ls hl => ?_)
            refine lv_goto (tgt := 2) hx hb dX1_compare_57 rfl ?_
            exact ih (j + 1) ls (by omega) (by omega) (by rw [hf, tl_cmp_step (by omega), if_pos h30]) (lv_sub hl [1, 0] rfl)
          · skip
            have h30 := (not_congr (tl_eq (show (T0 j).toInt = (T0 j).toInt from rfl) (show (G0 j).toInt = (G0 j).toInt from rfl))).mp h30
            refine lv_aload_n hx hb dX1_compare_33 rfl (lv_at hl 0 rfl) ?_
            refine va_get (D := (dC, dI)) (ci := 1) (v := .ref q0) (C := RX1) (T := TX1) (N := 6) hx hb hts hinX1 hown hK hP 0 rfl rfl 0 (by decide) (hts _ (List.mem_cons_of_mem _ k245)) (fun _ h9 => h9) rfl dX1_compare_34 ?_
            refine lv_iload_n hx hb dX1_compare_37 rfl (lv_at hl 1 rfl) ?_
            refine tl_iald (v := T0 j) hx hb hK hP 1 0 rfl rfl (by omega) (by decide) (hT _ (by omega)) dX1_compare_38 ?_
            refine lv_aload_n hx hb dX1_compare_39 rfl (lv_at hl 0 rfl) ?_
            refine va_get (D := (dC, dI)) (ci := 1) (v := .ref q1) (C := RX1) (T := TX1) (N := 6) hx hb hts hinX1 hown hK hP 0 rfl rfl 1 (by decide) (hts _ (List.mem_cons_of_mem _ k246)) (fun _ h9 => h9) rfl dX1_compare_40 ?_
            refine lv_iload_n hx hb dX1_compare_43 rfl (lv_at hl 1 rfl) ?_
            refine tl_iald (v := G0 j) hx hb hK hP 2 1 rfl rfl (by omega) (by decide) (hG _ (by omega)) dX1_compare_44 ?_
            refine lv_icmp_ge (tgt := 52) hx hb dX1_compare_45 rfl (fun h45 => ?_) (fun h45 => ?_)
            · skip
              have h45 := (tl_le (show (G0 j).toInt = (G0 j).toInt from rfl) (show (T0 j).toInt = (T0 j).toInt from rfl)).mp h45
              refine lv_iconst (v := nI 1) hx hb dX1_compare_52 (by decide) ?_
              subst hQ
              exact W.iret (v := nI 1) hx hb hr (fun t ht hW => ⟨nI 1, rfl, (by (try dsimp only); rw [hf, tl_cmp_step (by omega), if_neg h30]; split <;> first | rfl | (exfalso; omega)), ht⟩) (fun q h => absurd h List.not_mem_nil) dX1_compare_53
            · skip
              have h45 := (not_congr (tl_le (show (G0 j).toInt = (G0 j).toInt from rfl) (show (T0 j).toInt = (T0 j).toInt from rfl))).mp h45
              refine lv_iconst (v := (-1 : Int32)) hx hb dX1_compare_48 (by decide) ?_
              refine lv_goto (tgt := 53) hx hb dX1_compare_49 rfl ?_
              subst hQ
              exact W.iret (v := (-1 : Int32)) hx hb hr (fun t ht hW => ⟨(-1 : Int32), rfl, (by (try dsimp only); rw [hf, tl_cmp_step (by omega), if_neg h30]; split <;> first | rfl | (exfalso; omega)), ht⟩) (fun q h => absurd h List.not_mem_nil) dX1_compare_53
  exact LP2 _ 0 ls (Nat.lt_succ_self _) (by omega) (by rfl) (lv_sub hl [1, 0] rfl)
set_option maxHeartbeats 4000000 in
set_option maxRecDepth 100000 in
theorem c_M_stands (l : Launch) (dC : Nat → ClassId) (dI : Nat → Nat → Nat) (h0 q0 q1 q2 n k : Nat) (cA cB cC : ClassId) (T G T0 G0 : Nat → Int32) (hT : ∀ j, j < n → T j = T0 j) (hG : ∀ j, j < k → G j = G0 j) (hn : n ≤ 3000) (hk : k ≤ 40) (E : Nat → Int32) (d : Int32) (a : Nat) (han : a ≤ n) : Met l yX1_stands wsX1_stands ({ frames := 0, cells := 0, slots := 0, locals := 0 } : Room) (va_Pc [.ref h0, .int (nI a)] (fun U => va_P (dC, dI) vwCl [(h0, .inr (1, [.ref q0, .ref q1, .ref q2, .int (nI n), .int (nI k), .int d])), (q0, .inl (cA, 3000, .inl T)), (q1, .inl (cB, 40, .inl G)), (q2, .inl (cC, 20, .inl E))] U.heap ∧ va_K (dC, dI) vwCl [(cA, .int), (cB, .int), (cC, .int)] U)) (vp_Si (fun r : Int32 => (r = 1 ∧ (tl_std n T0 k G0 a)) ∨ (r = 0 ∧ ¬ (tl_std n T0 k G0 a)))) 0 0 (fun _ => False) := by
  refine Met.ofW (cc := cX1_stands) (maxL := 3) (ret := (some .boolean)) (by decide) rfl ?_
  intro p e s m args below meth c s₁ B hml hv
  obtain ⟨rfl, hP, hK⟩ := hv
  have hx := B.exec
  have hb := B.bytes
  have hr := B.returns
  have hts := atoms_spec (ws := wsX1_stands) B.pre
  have hown : s.vm.findClass RX1 = some m.cls := findClass_of_methodNamed B.named
  have hlocks := B.notSynchronized
  have hP : va_P (dC, dI) vwCl [(h0, .inr (1, [.ref q0, .ref q1, .ref q2, .int (nI n), .int (nI k), .int d])), (q0, .inl (cA, 3000, .inl T)), (q1, .inl (cB, 40, .inl G)), (q2, .inl (cC, 20, .inl E))] s.heap := hP
  have hinX1 : ∀ w ∈ u_ws RX1 TX1 6, w ∈ wsX1_stands := fun w h => List.mem_cons_of_mem _ (inX1 w h)
  have hl := lv_entry ([.ref h0, .int (nI a)]) (n := 3) (Nat.le_of_ble_eq_true rfl)
  rw [lg_entry_eq]
  generalize (lg_sl ([.ref h0, .int (nI a)]) ++ List.replicate (3 - (lg_sl ([.ref h0, .int (nI a)])).length) Slot.unset).toArray = ls at hl ⊢
  have hl : lv_has ls 3 [(0, .ref h0), (1, .int (nI a))] := hl
  refine tl_q (fun Q hQ => ?_)
  refine lv_iload_n hx hb dX1_stands_0 rfl (lv_at hl 1 rfl) ?_
  refine lv_aload_n hx hb dX1_stands_1 rfl (lv_at hl 0 rfl) ?_
  refine va_get (D := (dC, dI)) (ci := 1) (v := .int (nI k)) (C := RX1) (T := TX1) (N := 6) hx hb hts hinX1 hown hK hP 0 rfl rfl 4 (by decide) (hts _ (List.mem_cons_of_mem _ k249)) (fun _ h9 => h9) rfl dX1_stands_2 ?_
  refine lv_iadd hx hb dX1_stands_5 ?_
  refine tl_top (nI_add _ _) ?_
  refine lv_aload_n hx hb dX1_stands_6 rfl (lv_at hl 0 rfl) ?_
  refine va_get (D := (dC, dI)) (ci := 1) (v := .int (nI n)) (C := RX1) (T := TX1) (N := 6) hx hb hts hinX1 hown hK hP 0 rfl rfl 3 (by decide) (hts _ (List.mem_cons_of_mem _ k248)) (fun _ h9 => h9) rfl dX1_stands_7 ?_
  refine lv_icmp_le (tgt := 15) hx hb dX1_stands_10 rfl (fun h10 => ?_) (fun h10 => ?_)
  · skip
    have h10 := (tl_le (show (nI (a + k)).toInt = ((a + k : Nat) : Int) from (nI_toInt (by omega))) (show (nI n).toInt = ((n : Nat) : Int) from (nI_toInt (by omega)))).mp h10
    refine lv_iconst (v := nI 0) hx hb dX1_stands_15 (by decide) ?_
    refine lv_istore_n (lv' := [(2, .int (nI 0)), (0, .ref h0), (1, .int (nI a))]) hx hb dX1_stands_16 rfl hl (by decide) rfl (fun ls hl => ?_)
    have LP17 : ∀ (fu : Nat) (j : Nat) (ls : Array Slot), k - j < fu → j ≤ k → (∀ i, i < j → (T0 (a + i)).toInt = (G0 i).toInt) → lv_has ls 3 [(0, .ref h0), (1, .int (nI a)), (2, .int (nI j))] → W p l e (headSpec wsX1_stands ({ frames := 0, cells := 0, slots := 0, locals := 0 } : Room)).room s m ([.ref h0, .int (nI a)] : List Value).toArray below meth c s.heap [] 0 0 Q (F0 m 17 ls []) := by
      intro fu
      induction fu with
      | zero => intro j ls hfu; exact absurd hfu (Nat.not_lt_zero _)
      | succ fu ih =>
        intro j ls hfu hj hi hl
        refine lv_iload_n hx hb dX1_stands_17 rfl (lv_at hl 2 rfl) ?_
        refine lv_aload_n hx hb dX1_stands_18 rfl (lv_at hl 0 rfl) ?_
        refine va_get (D := (dC, dI)) (ci := 1) (v := .int (nI k)) (C := RX1) (T := TX1) (N := 6) hx hb hts hinX1 hown hK hP 0 rfl rfl 4 (by decide) (hts _ (List.mem_cons_of_mem _ k249)) (fun _ h9 => h9) rfl dX1_stands_19 ?_
        refine lv_icmp_ge (tgt := 50) hx hb dX1_stands_22 rfl (fun h22 => ?_) (fun h22 => ?_)
        · skip
          have h22 := (tl_le (show (nI k).toInt = ((k : Nat) : Int) from (nI_toInt (by omega))) (show (nI j).toInt = ((j : Nat) : Int) from (nI_toInt (by omega)))).mp h22
          refine lv_iconst (v := nI 1) hx hb dX1_stands_50 (by decide) ?_
          subst hQ
          exact W.zret (v := nI 1) hx hb hr (by decide) (fun t ht hW => ⟨nI 1, rfl, (Or.inl ⟨by decide, by omega, fun i hi2 => hi i (by omega)⟩), ht⟩) (fun q h => absurd h List.not_mem_nil) dX1_stands_51
        · skip
          have h22 := (not_congr (tl_le (show (nI k).toInt = ((k : Nat) : Int) from (nI_toInt (by omega))) (show (nI j).toInt = ((j : Nat) : Int) from (nI_toInt (by omega))))).mp h22
          refine lv_aload_n hx hb dX1_stands_25 rfl (lv_at hl 0 rfl) ?_
          refine va_get (D := (dC, dI)) (ci := 1) (v := .ref q0) (C := RX1) (T := TX1) (N := 6) hx hb hts hinX1 hown hK hP 0 rfl rfl 0 (by decide) (hts _ (List.mem_cons_of_mem _ k245)) (fun _ h9 => h9) rfl dX1_stands_26 ?_
          refine lv_iload_n hx hb dX1_stands_29 rfl (lv_at hl 1 rfl) ?_
          refine lv_iload_n hx hb dX1_stands_30 rfl (lv_at hl 2 rfl) ?_
          refine lv_iadd hx hb dX1_stands_31 ?_
          refine tl_top (nI_add _ _) ?_
          refine tl_iald (v := T0 (a + j)) hx hb hK hP 1 0 rfl rfl (by omega) (by decide) (hT _ (by omega)) dX1_stands_32 ?_
          refine lv_aload_n hx hb dX1_stands_33 rfl (lv_at hl 0 rfl) ?_
          refine va_get (D := (dC, dI)) (ci := 1) (v := .ref q1) (C := RX1) (T := TX1) (N := 6) hx hb hts hinX1 hown hK hP 0 rfl rfl 1 (by decide) (hts _ (List.mem_cons_of_mem _ k246)) (fun _ h9 => h9) rfl dX1_stands_34 ?_
          refine lv_iload_n hx hb dX1_stands_37 rfl (lv_at hl 2 rfl) ?_
          refine tl_iald (v := G0 j) hx hb hK hP 2 1 rfl rfl (by omega) (by decide) (hG _ (by omega)) dX1_stands_38 ?_
          refine lv_icmp_eq (tgt := 44) hx hb dX1_stands_39 rfl (fun h39 => ?_) (fun h39 => ?_)
          · skip
            have h39 := (tl_eq (show (T0 (a + j)).toInt = (T0 (a + j)).toInt from rfl) (show (G0 j).toInt = (G0 j).toInt from rfl)).mp h39
            refine lv_iinc (lv' := [(2, .int (nI (j + 1))), (0, .ref h0), (1, .int (nI a))]) (k := 2) (v := nI (j + 1)) hx hb dX1_stands_44 hl rfl (tl_inc1 _) (by decide) rfl (fun ls hl => ?_)
            refine lv_goto (tgt := 17) hx hb dX1_stands_47 rfl ?_
            exact ih (j + 1) ls (by omega) (by omega) (lt_s hi h39) (lv_sub hl [1, 2, 0] rfl)
          · skip
            have h39 := (not_congr (tl_eq (show (T0 (a + j)).toInt = (T0 (a + j)).toInt from rfl) (show (G0 j).toInt = (G0 j).toInt from rfl))).mp h39
            refine lv_iconst (v := nI 0) hx hb dX1_stands_42 (by decide) ?_
            subst hQ
            exact W.zret (v := nI 0) hx hb hr (by decide) (fun t ht hW => ⟨nI 0, rfl, (Or.inr ⟨by decide, fun q => h39 (q.2 j (by omega))⟩), ht⟩) (fun q h => absurd h List.not_mem_nil) dX1_stands_43
    exact LP17 _ 0 ls (Nat.lt_succ_self _) (by omega) (by intro i hi; omega) (lv_sub hl [1, 2, 0] rfl)
  · skip
    have h10 := (not_congr (tl_le (show (nI (a + k)).toInt = ((a + k : Nat) : Int) from (nI_toInt (by omega))) (show (nI n).toInt = ((n : Nat) : Int) from (nI_toInt (by omega))))).mp h10
    refine lv_iconst (v := nI 0) hx hb dX1_stands_13 (by decide) ?_
    subst hQ
    exact W.zret (v := nI 0) hx hb hr (by decide) (fun t ht hW => ⟨nI 0, rfl, (Or.inr ⟨by decide, fun q => by have := q.1; omega⟩), ht⟩) (fun q h => absurd h List.not_mem_nil) dX1_stands_14
