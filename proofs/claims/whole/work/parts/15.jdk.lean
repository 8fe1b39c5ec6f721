set_option maxHeartbeats 4000000 in
set_option maxRecDepth 100000 in
theorem c_J_coder (l : Launch) (sa sv N : Nat) (f : Nat → Int32) (hN : N < 2 ^ 31) : Met l yJ0_coder_7d493 wsJ0_coder_7d493 ({ frames := 0, cells := 0, slots := 0, locals := 0 } : Room) (va_Pc [.ref sa] (fun U => sK sa sv N f (fun _ => False) U U.heap)) (vp_Si (fun r : Int32 => r = 0)) 0 0 (fun _ => False) := by
  refine Met.ofW (cc := cJ0_coder_7d493) (maxL := 1) (ret := (some .byte)) (by decide) rfl ?_
  intro p e s m args below meth c s₁ B hml hv
  obtain ⟨rfl, hO, hC, hV, hB8, hZ, hZq⟩ := hv
  have hx := B.exec
  have hb := B.bytes
  have hr := B.returns
  have hts := atoms_spec (ws := wsJ0_coder_7d493) B.pre
  have hown : s.vm.findClass RJ0 = some m.cls := findClass_of_methodNamed B.named
  have hlocks := B.notSynchronized
  have hSK : sK sa sv N f (fun _ => False) s s.heap := ⟨hO, hC, hV, hB8, hZ, hZq⟩
  have hS : va_S (fun _ => False) s.heap s.heap [] := va_S.rf
  have hl := lv_entry ([.ref sa]) (n := 1) (Nat.le_of_ble_eq_true rfl)
  rw [lg_entry_eq]
  generalize (lg_sl ([.ref sa]) ++ List.replicate (1 - (lg_sl ([.ref sa])).length) Slot.unset).toArray = ls at hl ⊢
  have hl : lv_has ls 1 [(0, .ref sa)] := hl
  refine tl_q (fun Q hQ => ?_)
  refine va_gets hx hb hZ hS hown (hts _ (List.mem_cons_of_mem _ k105)) (fun _ h9 => h9) dJ0_coder_7d493_0 ?_
  refine lv_if_eq (tgt := 13) hx hb dJ0_coder_7d493_3 rfl (fun h3 => ?_) (fun h3 => ?_)
  · skip
    have h3 := (tl_eq (show ((1 : Int32)).toInt = (1 : Int) from (by decide)) (show (0 : Int32).toInt = (0 : Int) from Int32.toInt_zero)).mp h3
    exfalso; omega
  · skip
    have h3 := (not_congr (tl_eq (show ((1 : Int32)).toInt = (1 : Int) from (by decide)) (show (0 : Int32).toInt = (0 : Int) from Int32.toInt_zero))).mp h3
    refine lv_aload_n hx hb dJ0_coder_7d493_6 rfl (lv_at hl 0 rfl) ?_
    refine vk_getf hx hb hC hS hown (hts _ (List.mem_cons_of_mem _ k373)) (fun _ h9 => h9) dJ0_coder_7d493_7 ?_
    refine lv_goto (tgt := 14) hx hb dJ0_coder_7d493_10 rfl ?_
    subst hQ
    exact W.zret (v := (0 : Int32)) hx hb hr (by decide) (fun t ht hW => ⟨(0 : Int32), rfl, rfl, ht⟩) (fun q h => absurd h List.not_mem_nil) dJ0_coder_7d493_14
set_option maxHeartbeats 4000000 in
set_option maxRecDepth 100000 in
theorem c_J_isLatin1 (l : Launch) (sa sv N : Nat) (f : Nat → Int32) (hN : N < 2 ^ 31) : Met l yJ0_isLatin1_aae02 wsJ0_isLatin1_aae02 ({ frames := 0, cells := 0, slots := 0, locals := 0 } : Room) (va_Pc [.ref sa] (fun U => sK sa sv N f (fun _ => False) U U.heap)) (vp_Si (fun r : Int32 => r = nI 1)) 0 0 (fun _ => False) := by
  refine Met.ofW (cc := cJ0_isLatin1_aae02) (maxL := 1) (ret := (some .boolean)) (by decide) rfl ?_
  intro p e s m args below meth c s₁ B hml hv
  obtain ⟨rfl, hO, hC, hV, hB8, hZ, hZq⟩ := hv
  have hx := B.exec
  have hb := B.bytes
  have hr := B.returns
  have hts := atoms_spec (ws := wsJ0_isLatin1_aae02) B.pre
  have hown : s.vm.findClass RJ0 = some m.cls := findClass_of_methodNamed B.named
  have hlocks := B.notSynchronized
  have hSK : sK sa sv N f (fun _ => False) s s.heap := ⟨hO, hC, hV, hB8, hZ, hZq⟩
  have hS : va_S (fun _ => False) s.heap s.heap [] := va_S.rf
  have hl := lv_entry ([.ref sa]) (n := 1) (Nat.le_of_ble_eq_true rfl)
  rw [lg_entry_eq]
  generalize (lg_sl ([.ref sa]) ++ List.replicate (1 - (lg_sl ([.ref sa])).length) Slot.unset).toArray = ls at hl ⊢
  have hl : lv_has ls 1 [(0, .ref sa)] := hl
  refine tl_q (fun Q hQ => ?_)
  refine va_gets hx hb hZ hS hown (hts _ (List.mem_cons_of_mem _ k105)) (fun _ h9 => h9) dJ0_isLatin1_aae02_0 ?_
  refine lv_if_eq (tgt := 17) hx hb dJ0_isLatin1_aae02_3 rfl (fun h3 => ?_) (fun h3 => ?_)
  · skip
    have h3 := (tl_eq (show ((1 : Int32)).toInt = (1 : Int) from (by decide)) (show (0 : Int32).toInt = (0 : Int) from Int32.toInt_zero)).mp h3
    exfalso; omega
  · skip
    have h3 := (not_congr (tl_eq (show ((1 : Int32)).toInt = (1 : Int) from (by decide)) (show (0 : Int32).toInt = (0 : Int) from Int32.toInt_zero))).mp h3
    refine lv_aload_n hx hb dJ0_isLatin1_aae02_6 rfl (lv_at hl 0 rfl) ?_
    refine vk_getf hx hb hC hS hown (hts _ (List.mem_cons_of_mem _ k373)) (fun _ h9 => h9) dJ0_isLatin1_aae02_7 ?_
    refine lv_if_ne (tgt := 17) hx hb dJ0_isLatin1_aae02_10 rfl (fun h10 => ?_) (fun h10 => ?_)
    · skip
      have h10 := (not_congr (tl_eq (show ((0 : Int32)).toInt = (0 : Int) from (by decide)) (show (0 : Int32).toInt = (0 : Int) from Int32.toInt_zero))).mp h10
      exfalso; omega
    · skip
      have h10 := (tl_eq (show ((0 : Int32)).toInt = (0 : Int) from (by decide)) (show (0 : Int32).toInt = (0 : Int) from Int32.toInt_zero)).mp h10
      refine lv_iconst (v := nI 1) hx hb dJ0_isLatin1_aae02_13 (by decide) ?_
      refine lv_goto (tgt := 18) hx hb dJ0_isLatin1_aae02_14 rfl ?_
      subst hQ
      exact W.zret (v := nI 1) hx hb hr (by decide) (fun t ht hW => ⟨nI 1, rfl, rfl, ht⟩) (fun q h => absurd h List.not_mem_nil) dJ0_isLatin1_aae02_18
set_option maxHeartbeats 4000000 in
set_option maxRecDepth 100000 in
theorem c_J_length (l : Launch) (sa sv N : Nat) (f : Nat → Int32) (hN : N < 2 ^ 31) : Met l yJ0_length_8abf5 wsJ0_length_8abf5 ({ frames := 1, cells := 0, slots := 0, locals := 20 } : Room) (va_Pc [.ref sa] (fun U => sK sa sv N f (fun _ => False) U U.heap)) (vp_Si (fun r : Int32 => r = nI N)) 0 0 (fun _ => False) := by
  refine Met.ofW (cc := cJ0_length_8abf5) (maxL := 1) (ret := (some .int)) (by decide) rfl ?_
  intro p e s m args below meth c s₁ B hml hv
  obtain ⟨rfl, hO, hC, hV, hB8, hZ, hZq⟩ := hv
  have hx := B.exec
  have hb := B.bytes
  have hr := B.returns
  have hts := atoms_spec (ws := wsJ0_length_8abf5) B.pre
  have hown : s.vm.findClass RJ0 = some m.cls := findClass_of_methodNamed B.named
  have hlocks := B.notSynchronized
  have hSK : sK sa sv N f (fun _ => False) s s.heap := ⟨hO, hC, hV, hB8, hZ, hZq⟩
  have hS : va_S (fun _ => False) s.heap s.heap [] := va_S.rf
  have hl := lv_entry ([.ref sa]) (n := 1) (Nat.le_of_ble_eq_true rfl)
  rw [lg_entry_eq]
  generalize (lg_sl ([.ref sa]) ++ List.replicate (1 - (lg_sl ([.ref sa])).length) Slot.unset).toArray = ls at hl ⊢
  have hl : lv_has ls 1 [(0, .ref sa)] := hl
  refine tl_q (fun Q hQ => ?_)
  refine lv_aload_n hx hb dJ0_length_8abf5_0 rfl (lv_at hl 0 rfl) ?_
  refine vk_getf hx hb hV hS hown (hts _ (List.mem_cons_of_mem _ k372)) (fun _ h9 => h9) dJ0_length_8abf5_1 ?_
  refine va_tlen (v := nI N) hx hb hB8 hS rfl dJ0_length_8abf5_4 ?_
  refine lv_aload_n hx hb dJ0_length_8abf5_5 rfl (lv_at hl 0 rfl) ?_
  refine vp_callSi ((va_runV (As := []) (rest := [.int (nI N)]) ⟨hx, hb, hml, hown, hts⟩ (c_J_coder l sa sv N f hN) (cwV 0 hts (gV_ (fun w h => List.mem_cons_of_mem _ h) k101 k102 k103 k25 k104) rfl rfl rfl (by decide +kernel) ⟨Nat.le_of_ble_eq_true rfl, Nat.le_of_ble_eq_true rfl⟩) ⟨fun a U g mk q => by obtain ⟨q0, qS⟩ := q; exact ⟨q0, sK_moved (u := U) (U := U.calling g mk a) (Vm.Alike.refl U.vm) qS⟩, va_Orecv hSK.1 hS, fun U hU hW => ⟨rfl, sK_at hSK hS (fun q h => h.elim) hW.alike hU⟩⟩ rfl rfl hl.1 rfl (lv_room (Nat.le_of_ble_eq_true rfl)) dJ0_length_8abf5_6 ⟨Nat.le_of_ble_eq_true rfl, Nat.le_of_ble_eq_true rfl⟩).run) (fun r6 w6 => ?_)
  try dsimp only at w6
  subst w6
  refine lv_ishr hx hb dJ0_length_8abf5_9 ?_
  refine tl_top (y := nI N) (sc_shr0 hN) ?_
  subst hQ
  exact W.iret (v := nI N) hx hb hr (fun t ht hW => ⟨nI N, rfl, rfl, ht⟩) (fun q h => absurd h List.not_mem_nil) dJ0_length_8abf5_10
set_option maxHeartbeats 4000000 in
set_option maxRecDepth 100000 in
theorem c_J3_ckN (l : Launch) (j N : Nat) (hN : N < 2 ^ 31) (hj : j < N) : Met l yJ3_checkIndex_8e157 wsJ3_checkIndex_8e157 ({ frames := 0, cells := 0, slots := 0, locals := 0 } : Room) (va_Pc [.int (nI j), .int (nI N), .null] (fun _ => True)) (vp_Si (fun r : Int32 => r = nI j)) 0 0 (fun _ => False) := by
  refine Met.ofW (cc := cJ3_checkIndex_8e157) (maxL := 3) (ret := (some .int)) (by decide) rfl ?_
  intro p e s m args below meth c s₁ B hml hv
  obtain ⟨rfl, -⟩ := hv
  have hx := B.exec
  have hb := B.bytes
  have hr := B.returns
  have hts := atoms_spec (ws := wsJ3_checkIndex_8e157) B.pre
  have hown : s.vm.findClass RJ3 = some m.cls := findClass_of_methodNamed B.named
  have hlocks := B.notSynchronized
  have hl := lv_entry ([.int (nI j), .int (nI N), .null]) (n := 3) (Nat.le_of_ble_eq_true rfl)
  rw [lg_entry_eq]
  generalize (lg_sl ([.int (nI j), .int (nI N), .null]) ++ List.replicate (3 - (lg_sl ([.int (nI j), .int (nI N), .null])).length) Slot.unset).toArray = ls at hl ⊢
  have hl : lv_has ls 3 [(0, .int (nI j)), (1, .int (nI N)), (2, .null)] := hl
  refine tl_q (fun Q hQ => ?_)
  refine lv_iload_n hx hb dJ3_checkIndex_8e157_0 rfl (lv_at hl 0 rfl) ?_
  refine lv_if_lt (tgt := 9) hx hb dJ3_checkIndex_8e157_1 rfl (fun h1 => ?_) (fun h1 => ?_)
  · skip
    have h1 := (tl_lt (show (nI j).toInt = ((j : Nat) : Int) from (nI_toInt (by omega))) (show (0 : Int32).toInt = (0 : Int) from Int32.toInt_zero)).mp h1
    exfalso; omega
  · skip
    have h1 := (not_congr (tl_lt (show (nI j).toInt = ((j : Nat) : Int) from (nI_toInt (by omega))) (show (0 : Int32).toInt = (0 : Int) from Int32.toInt_zero))).mp h1
    refine lv_iload_n hx hb dJ3_checkIndex_8e157_4 rfl (lv_at hl 0 rfl) ?_
    refine lv_iload_n hx hb dJ3_checkIndex_8e157_5 rfl (lv_at hl 1 rfl) ?_
    refine lv_icmp_lt (tgt := 16) hx hb dJ3_checkIndex_8e157_6 rfl (fun h6 => ?_) (fun h6 => ?_)
    · skip
      have h6 := (tl_lt (show (nI j).toInt = ((j : Nat) : Int) from (nI_toInt (by omega))) (show (nI N).toInt = ((N : Nat) : Int) from (nI_toInt (by omega)))).mp h6
      refine lv_iload_n hx hb dJ3_checkIndex_8e157_16 rfl (lv_at hl 0 rfl) ?_
      subst hQ
      exact W.iret (v := nI j) hx hb hr (fun t ht hW => ⟨nI j, rfl, rfl, ht⟩) (fun q h => absurd h List.not_mem_nil) dJ3_checkIndex_8e157_17
    · skip
      have h6 := (not_congr (tl_lt (show (nI j).toInt = ((j : Nat) : Int) from (nI_toInt (by omega))) (show (nI N).toInt = ((N : Nat) : Int) from (nI_toInt (by omega))))).mp h6
      exfalso; omega
set_option maxHeartbeats 4000000 in
set_option maxRecDepth 100000 in
theorem c_J3_ckR (l : Launch) (j N : Nat) (hN : N < 2 ^ 31) (hj : j < N) (zt : Nat) : Met l yJ3_checkIndex_8e157 wsJ3_checkIndex_8e157 ({ frames := 0, cells := 0, slots := 0, locals := 0 } : Room) (va_Pc [.int (nI j), .int (nI N), .ref zt] (fun _ => True)) (vp_Si (fun r : Int32 => r = nI j)) 0 0 (fun _ => False) := by
  refine Met.ofW (cc := cJ3_checkIndex_8e157) (maxL := 3) (ret := (some .int)) (by decide) rfl ?_
  intro p e s m args below meth c s₁ B hml hv
  obtain ⟨rfl, -⟩ := hv
  have hx := B.exec
  have hb := B.bytes
  have hr := B.returns
  have hts := atoms_spec (ws := wsJ3_checkIndex_8e157) B.pre
  have hown : s.vm.findClass RJ3 = some m.cls := findClass_of_methodNamed B.named
  have hlocks := B.notSynchronized
  have hl := lv_entry ([.int (nI j), .int (nI N), .ref zt]) (n := 3) (Nat.le_of_ble_eq_true rfl)
  rw [lg_entry_eq]
  generalize (lg_sl ([.int (nI j), .int (nI N), .ref zt]) ++ List.replicate (3 - (lg_sl ([.int (nI j), .int (nI N), .ref zt])).length) Slot.unset).toArray = ls at hl ⊢
  have hl : lv_has ls 3 [(0, .int (nI j)), (1, .int (nI N)), (2, .ref zt)] := hl
  refine tl_q (fun Q hQ => ?_)
  refine lv_iload_n hx hb dJ3_checkIndex_8e157_0 rfl (lv_at hl 0 rfl) ?_
  refine lv_if_lt (tgt := 9) hx hb dJ3_checkIndex_8e157_1 rfl (fun h1 => ?_) (fun h1 => ?_)
  · skip
    have h1 := (tl_lt (show (nI j).toInt = ((j : Nat) : Int) from (nI_toInt (by omega))) (show (0 : Int32).toInt = (0 : Int) from Int32.toInt_zero)).mp h1
    exfalso; omega
  · skip
    have h1 := (not_congr (tl_lt (show (nI j).toInt = ((j : Nat) : Int) from (nI_toInt (by omega))) (show (0 : Int32).toInt = (0 : Int) from Int32.toInt_zero))).mp h1
    refine lv_iload_n hx hb dJ3_checkIndex_8e157_4 rfl (lv_at hl 0 rfl) ?_
    refine lv_iload_n hx hb dJ3_checkIndex_8e157_5 rfl (lv_at hl 1 rfl) ?_
    refine lv_icmp_lt (tgt := 16) hx hb dJ3_checkIndex_8e157_6 rfl (fun h6 => ?_) (fun h6 => ?_)
    · skip
      have h6 := (tl_lt (show (nI j).toInt = ((j : Nat) : Int) from (nI_toInt (by omega))) (show (nI N).toInt = ((N : Nat) : Int) from (nI_toInt (by omega)))).mp h6
      refine lv_iload_n hx hb dJ3_checkIndex_8e157_16 rfl (lv_at hl 0 rfl) ?_
      subst hQ
      exact W.iret (v := nI j) hx hb hr (fun t ht hW => ⟨nI j, rfl, rfl, ht⟩) (fun q h => absurd h List.not_mem_nil) dJ3_checkIndex_8e157_17
    · skip
      have h6 := (not_congr (tl_lt (show (nI j).toInt = ((j : Nat) : Int) from (nI_toInt (by omega))) (show (nI N).toInt = ((N : Nat) : Int) from (nI_toInt (by omega))))).mp h6
      exfalso; omega
set_option maxHeartbeats 4000000 in
set_option maxRecDepth 100000 in
theorem c_J_ck (l : Launch) (j N : Nat) (hN : N < 2 ^ 31) (hj : j < N) : Met l yJ0_checkIndex_df160 wsJ0_checkIndex_df160 ({ frames := 1, cells := 0, slots := 0, locals := 22 } : Room) (va_Pc [.int (nI j), .int (nI N)] (fun U => va_Zq "jdk/internal/util/Preconditions" "SIOOBE_FORMATTER" "Ljava/util/function/BiFunction;" (fun _ => False) U U.heap)) (va_Sv (fun _ => True)) 0 0 (fun _ => False) := by
  refine Met.ofW (cc := cJ0_checkIndex_df160) (maxL := 2) (ret := none) (by decide) rfl ?_
  intro p e s m args below meth c s₁ B hml hv
  obtain ⟨rfl, hZq⟩ := hv
  have hx := B.exec
  have hb := B.bytes
  have hr := B.returns
  have hts := atoms_spec (ws := wsJ0_checkIndex_df160) B.pre
  have hown : s.vm.findClass RJ0 = some m.cls := findClass_of_methodNamed B.named
  have hlocks := B.notSynchronized
  have hS : va_S (fun _ => False) s.heap s.heap [] := va_S.rf
  have hl := lv_entry ([.int (nI j), .int (nI N)]) (n := 2) (Nat.le_of_ble_eq_true rfl)
  rw [lg_entry_eq]
  generalize (lg_sl ([.int (nI j), .int (nI N)]) ++ List.replicate (2 - (lg_sl ([.int (nI j), .int (nI N)])).length) Slot.unset).toArray = ls at hl ⊢
  have hl : lv_has ls 2 [(0, .int (nI j)), (1, .int (nI N))] := hl
  refine tl_q (fun Q hQ => ?_)
  refine lv_iload_n hx hb dJ0_checkIndex_df160_0 rfl (lv_at hl 0 rfl) ?_
  refine lv_iload_n hx hb dJ0_checkIndex_df160_1 rfl (lv_at hl 1 rfl) ?_
  rcases hZq with hz | ⟨zt, hz⟩
  · skip
    refine va_gets hx hb hz hS hown (hts _ (List.mem_cons_of_mem _ k121)) (fun _ h9 => h9) dJ0_checkIndex_df160_2 ?_
    refine vp_callSi ((va_runS (As := [.int (nI j), .int (nI N), .null]) (rest := []) ⟨hx, hb, hml, hown, hts⟩ (c_J3_ckN l j N hN hj) (va_cwS 3 hts (gS_ (fun w h => List.mem_cons_of_mem _ h) k123 k124 k27 k125) rfl rfl rfl (by decide +kernel) ⟨Nat.le_of_ble_eq_true rfl, Nat.le_of_ble_eq_true rfl⟩) ⟨fun a U g mk q => q, fun U hU hW => ⟨rfl, trivial⟩⟩ rfl rfl hl.1 rfl (lv_room (Nat.le_of_ble_eq_true rfl)) dJ0_checkIndex_df160_5 ⟨Nat.le_of_ble_eq_true rfl, Nat.le_of_ble_eq_true rfl⟩).run) (fun r5 w5 => ?_)
    refine lv_pop hx hb dJ0_checkIndex_df160_8 rfl ?_
    subst hQ
    exact W.vret hx hb hr (fun t ht hW => ⟨rfl, trivial, ht⟩) (fun q h => absurd h List.not_mem_nil) dJ0_checkIndex_df160_9
  · skip
    refine va_gets hx hb hz hS hown (hts _ (List.mem_cons_of_mem _ k121)) (fun _ h9 => h9) dJ0_checkIndex_df160_2 ?_
    refine vp_callSi ((va_runS (As := [.int (nI j), .int (nI N), .ref zt]) (rest := []) ⟨hx, hb, hml, hown, hts⟩ (c_J3_ckR l j N hN hj zt) (va_cwS 3 hts (gS_ (fun w h => List.mem_cons_of_mem _ h) k123 k124 k27 k125) rfl rfl rfl (by decide +kernel) ⟨Nat.le_of_ble_eq_true rfl, Nat.le_of_ble_eq_true rfl⟩) ⟨fun a U g mk q => q, fun U hU hW => ⟨rfl, trivial⟩⟩ rfl rfl hl.1 rfl (lv_room (Nat.le_of_ble_eq_true rfl)) dJ0_checkIndex_df160_5 ⟨Nat.le_of_ble_eq_true rfl, Nat.le_of_ble_eq_true rfl⟩).run) (fun r5 w5 => ?_)
    refine lv_pop hx hb dJ0_checkIndex_df160_8 rfl ?_
    subst hQ
    exact W.vret hx hb hr (fun t ht hW => ⟨rfl, trivial, ht⟩) (fun q h => absurd h List.not_mem_nil) dJ0_checkIndex_df160_9
set_option maxHeartbeats 4000000 in
set_option maxRecDepth 100000 in
theorem c_J1_charAt (l : Launch) (sa sv N : Nat) (f : Nat → Int32) (hN : N < 2 ^ 31) (hch : tl_chr N f) (j : Nat) (hj : j < N) : Met l yJ1_charAt_3b067 wsJ1_charAt_3b067 ({ frames := 2, cells := 0, slots := 0, locals := 43 } : Room) (va_Pc [.ref sv, .int (nI j)] (fun U => sK sa sv N f (fun _ => False) U U.heap)) (vp_Si (fun r : Int32 => r = f j)) 0 0 (fun _ => False) := by
  refine Met.ofW (cc := cJ1_charAt_3b067) (maxL := 2) (ret := (some .char)) (by decide) rfl ?_
  intro p e s m args below meth c s₁ B hml hv
  obtain ⟨rfl, hO, hC, hV, hB8, hZ, hZq⟩ := hv
  have hx := B.exec
  have hb := B.bytes
  have hr := B.returns
  have hts := atoms_spec (ws := wsJ1_charAt_3b067) B.pre
  have hown : s.vm.findClass RJ1 = some m.cls := findClass_of_methodNamed B.named
  have hlocks := B.notSynchronized
  have hSK : sK sa sv N f (fun _ => False) s s.heap := ⟨hO, hC, hV, hB8, hZ, hZq⟩
  have hS : va_S (fun _ => False) s.heap s.heap [] := va_S.rf
  have hl := lv_entry ([.ref sv, .int (nI j)]) (n := 2) (Nat.le_of_ble_eq_true rfl)
  rw [lg_entry_eq]
  generalize (lg_sl ([.ref sv, .int (nI j)]) ++ List.replicate (2 - (lg_sl ([.ref sv, .int (nI j)])).length) Slot.unset).toArray = ls at hl ⊢
  have hl : lv_has ls 2 [(0, .ref sv), (1, .int (nI j))] := hl
  refine tl_q (fun Q hQ => ?_)
  refine lv_iload_n hx hb dJ1_charAt_3b067_0 rfl (lv_at hl 1 rfl) ?_
  refine lv_aload_n hx hb dJ1_charAt_3b067_1 rfl (lv_at hl 0 rfl) ?_
  refine va_tlen (v := nI N) hx hb hB8 hS rfl dJ1_charAt_3b067_2 ?_
  refine va_csv ((va_runS (As := [.int (nI j), .int (nI N)]) (rest := []) ⟨hx, hb, hml, hown, hts⟩ (c_J_ck l j N hN hj) (va_cwS 2 hts (gS_ (fun w h => List.mem_cons_of_mem _ h) k118 k119 k25 k120) rfl rfl rfl (by decide +kernel) ⟨Nat.le_of_ble_eq_true rfl, Nat.le_of_ble_eq_true rfl⟩) ⟨fun a U g mk q => by obtain ⟨q0, qS⟩ := q; exact ⟨q0, va_Zq.moved (u := U) (U := U.calling g mk a) (Vm.Alike.refl U.vm) qS⟩, fun U hU hW => ⟨rfl, by dsimp only; rw [hU]; exact va_Zq.moved hW.alike hZq⟩⟩ rfl rfl hl.1 rfl (lv_room (Nat.le_of_ble_eq_true rfl)) dJ1_charAt_3b067_3 ⟨Nat.le_of_ble_eq_true rfl, Nat.le_of_ble_eq_true rfl⟩).run) (fun _ => ?_)
  refine lv_aload_n hx hb dJ1_charAt_3b067_6 rfl (lv_at hl 0 rfl) ?_
  refine lv_iload_n hx hb dJ1_charAt_3b067_7 rfl (lv_at hl 1 rfl) ?_
  refine va_tb (v := .int (f j)) hx hb hB8 hS (vp_in_nI (by omega) (by omega)) (by rw [nI_clamp (by omega)]) dJ1_charAt_3b067_8 ?_
  refine lv_sipush (v := nI 255) hx hb dJ1_charAt_3b067_9 (by decide) ?_
  refine lv_iand hx hb dJ1_charAt_3b067_12 ?_
  refine lv_i2c hx hb dJ1_charAt_3b067_13 rfl ?_
  refine tl_top (y := f j) ((hch j hj).1) ?_
  subst hQ
  exact W.zret (v := f j) hx hb hr (hch j hj).2 (fun t ht hW => ⟨f j, rfl, rfl, ht⟩) (fun q h => absurd h List.not_mem_nil) dJ1_charAt_3b067_14
set_option maxHeartbeats 4000000 in
set_option maxRecDepth 100000 in
theorem c_J_charAt (l : Launch) (sa sv N : Nat) (f : Nat → Int32) (hN : N < 2 ^ 31) (hch : tl_chr N f) (j : Nat) (hj : j < N) : Met l yJ0_charAt_5068e wsJ0_charAt_5068e ({ frames := 3, cells := 0, slots := 0, locals := 64 } : Room) (va_Pc [.ref sa, .int (nI j)] (fun U => sK sa sv N f (fun _ => False) U U.heap)) (vp_Si (fun r : Int32 => r = f j)) 0 0 (fun _ => False) := by
  refine Met.ofW (cc := cJ0_charAt_5068e) (maxL := 2) (ret := (some .char)) (by decide) rfl ?_
  intro p e s m args below meth c s₁ B hml hv
  obtain ⟨rfl, hO, hC, hV, hB8, hZ, hZq⟩ := hv
  have hx := B.exec
  have hb := B.bytes
  have hr := B.returns
  have hts := atoms_spec (ws := wsJ0_charAt_5068e) B.pre
  have hown : s.vm.findClass RJ0 = some m.cls := findClass_of_methodNamed B.named
  have hlocks := B.notSynchronized
  have hSK : sK sa sv N f (fun _ => False) s s.heap := ⟨hO, hC, hV, hB8, hZ, hZq⟩
  have hS : va_S (fun _ => False) s.heap s.heap [] := va_S.rf
  have hl := lv_entry ([.ref sa, .int (nI j)]) (n := 2) (Nat.le_of_ble_eq_true rfl)
  rw [lg_entry_eq]
  generalize (lg_sl ([.ref sa, .int (nI j)]) ++ List.replicate (2 - (lg_sl ([.ref sa, .int (nI j)])).length) Slot.unset).toArray = ls at hl ⊢
  have hl : lv_has ls 2 [(0, .ref sa), (1, .int (nI j))] := hl
  refine tl_q (fun Q hQ => ?_)
  refine lv_aload_n hx hb dJ0_charAt_5068e_0 rfl (lv_at hl 0 rfl) ?_
  refine vp_callSi ((va_runV (As := []) (rest := []) ⟨hx, hb, hml, hown, hts⟩ (c_J_isLatin1 l sa sv N f hN) (cwV 0 hts (gV_ (fun w h => List.mem_cons_of_mem _ h) k111 k112 k113 k25 k114) rfl rfl rfl (by decide +kernel) ⟨Nat.le_of_ble_eq_true rfl, Nat.le_of_ble_eq_true rfl⟩) ⟨fun a U g mk q => by obtain ⟨q0, qS⟩ := q; exact ⟨q0, sK_moved (u := U) (U := U.calling g mk a) (Vm.Alike.refl U.vm) qS⟩, va_Orecv hSK.1 hS, fun U hU hW => ⟨rfl, sK_at hSK hS (fun q h => h.elim) hW.alike hU⟩⟩ rfl rfl hl.1 rfl (lv_room (Nat.le_of_ble_eq_true rfl)) dJ0_charAt_5068e_1 ⟨Nat.le_of_ble_eq_true rfl, Nat.le_of_ble_eq_true rfl⟩).run) (fun r1 w1 => ?_)
  try dsimp only at w1
  subst w1
  refine lv_if_eq (tgt := 16) hx hb dJ0_charAt_5068e_4 rfl (fun h4 => ?_) (fun h4 => ?_)
  · skip
    have h4 := (tl_eq (show (nI 1).toInt = ((1 : Nat) : Int) from (nI_toInt (by omega))) (show (0 : Int32).toInt = (0 : Int) from Int32.toInt_zero)).mp h4
    exfalso; omega
  · skip
    have h4 := (not_congr (tl_eq (show (nI 1).toInt = ((1 : Nat) : Int) from (nI_toInt (by omega))) (show (0 : Int32).toInt = (0 : Int) from Int32.toInt_zero))).mp h4
    refine lv_aload_n hx hb dJ0_charAt_5068e_7 rfl (lv_at hl 0 rfl) ?_
    refine vk_getf hx hb hV hS hown (hts _ (List.mem_cons_of_mem _ k372)) (fun _ h9 => h9) dJ0_charAt_5068e_8 ?_
    refine lv_iload_n hx hb dJ0_charAt_5068e_11 rfl (lv_at hl 1 rfl) ?_
    refine vp_callSi ((va_runS (As := [.ref sv, .int (nI j)]) (rest := []) ⟨hx, hb, hml, hown, hts⟩ (c_J1_charAt l sa sv N f hN hch j hj) (va_cwS 2 hts (gS_ (fun w h => List.mem_cons_of_mem _ h) k115 k116 k26 k117) rfl rfl rfl (by decide +kernel) ⟨Nat.le_of_ble_eq_true rfl, Nat.le_of_ble_eq_true rfl⟩) ⟨fun a U g mk q => by obtain ⟨q0, qS⟩ := q; exact ⟨q0, sK_moved (u := U) (U := U.calling g mk a) (Vm.Alike.refl U.vm) qS⟩, fun U hU hW => ⟨rfl, sK_at hSK hS (fun q h => h.elim) hW.alike hU⟩⟩ rfl rfl hl.1 rfl (lv_room (Nat.le_of_ble_eq_true rfl)) dJ0_charAt_5068e_12 ⟨Nat.le_of_ble_eq_true rfl, Nat.le_of_ble_eq_true rfl⟩).run) (fun r12 w12 => ?_)
    try dsimp only at w12
    subst w12
    subst hQ
    exact W.zret (v := f j) hx hb hr (hch j hj).2 (fun t ht hW => ⟨f j, rfl, rfl, ht⟩) (fun q h => absurd h List.not_mem_nil) dJ0_charAt_5068e_15
