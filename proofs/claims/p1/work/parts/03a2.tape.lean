set_option maxHeartbeats 1000000 in
set_option maxRecDepth 100000 in
theorem c_X7_hasRoomFor (l : Launch) (dC : Nat → ClassId) (dI : Nat → Nat → Nat) (h0 h1 : Nat) (len more : Int32) (sz : Nat)  : Met l yX7_hasRoomFor wsX7_hasRoomFor ({ frames := 0, cells := 0, slots := 0, locals := 0 }) (va_Pc [.ref h0, .int more] (kPre dC dI [] [(h0, .inr (7, [.ref h1, .int len]))] sz)) (va_Qi (fun (r : Int32) (_ : Unit) => r = fRoom (len + more)) (fun (_ : Unit) (t : State) => kB dC dI (va_A [(h0, .inr (7, [.ref h1, .int len]))] sz) [] [(h0, .inr (7, [.ref h1, .int len]))] t) (va_A [(h0, .inr (7, [.ref h1, .int len]))] sz)) 0 0 (va_A [(h0, .inr (7, [.ref h1, .int len]))] sz) := by
  refine Met.ofW (cc := cX7_hasRoomFor) (maxL := 2) (ret := (some .boolean)) (by decide) rfl ?_
  intro p e s m args below meth c s₁ B hml hv
  obtain ⟨rfl, hsz, hP, hK, hD0, hN⟩ := hv
  have hx := B.exec
  have hb := B.bytes
  have hr := B.returns
  have hts := atoms_spec (ws := wsX7_hasRoomFor) B.pre
  have hown : s.vm.findClass RX7 = some m.cls := findClass_of_methodNamed B.named
  have hlocks := B.notSynchronized
  subst hsz
  have hD := hD0.self (sz := s.heap.size)
  generalize hAe : va_A [(h0, .inr (7, [.ref h1, .int len]))] s.heap.size = A at hD ⊢
  have hA : ∀ q : Nat, s.heap.size ≤ q → A q := fun q h => by rw [← hAe]; exact Or.inr h
  have hS : va_S A s.heap s.heap [] := va_S.rf
  have hP : va_P (dC, dI) vwCl [(h0, .inr (7, [.ref h1, .int len]))] s.heap := hP
  have hinX7 : ∀ w ∈ wsX70, w ∈ wsX7_hasRoomFor := fun _ h => List.mem_cons_of_mem _ (List.mem_append_right _ h)
  have hl := lv_entry ([.ref h0, .int more]) (n := 2) (Nat.le_of_ble_eq_true rfl)
  rw [lg_entry_eq]
  generalize (lg_sl ([.ref h0, .int more]) ++ List.replicate (2 - (lg_sl ([.ref h0, .int more])).length) Slot.unset).toArray = ls at hl ⊢
  have hl : lv_has ls 2 [(0, .ref h0), (1, .int more)] := hl
  refine lv_aload_n hx hb dX7_hasRoomFor_0 rfl (lv_at hl 0 rfl) ?_
  refine va_get (D := (dC, dI)) (ci := 7) (v := .int len) (C := RX7) (T := TX7) (N := 2) hx hb hts hinX7 hown hK hP 0 rfl rfl 1 (by decide) (hts (.fieldLink RX7 15 "CensusDesk$Tape" "length" "I") (List.mem_of_getElem? (i := 1) rfl)) (fun _ h9 => h9) rfl dX7_hasRoomFor_1 ?_
  refine lv_iload_n hx hb dX7_hasRoomFor_4 rfl (lv_at hl 1 rfl) ?_
  refine lv_iadd hx hb dX7_hasRoomFor_5 ?_
  refine lv_sipush (v := 4000) hx hb dX7_hasRoomFor_6 (by decide) ?_
  refine lv_icmp_gt (tgt := 16) hx hb dX7_hasRoomFor_9 (by decide) (fun c_1 => ?_) (fun c_1 => ?_)
  · refine lv_iconst (v := 0) hx hb dX7_hasRoomFor_16 (by decide) ?_
    have hP9 := hP.sub (ws' := [(h0, .inr (7, [.ref h1, .int len]))]) [0] rfl
    have hD9 := hD.sub (ws' := [(h0, .inr (7, [.ref h1, .int len]))]) [0] (by decide) rfl
    have hK9 := hK.sub (tys' := []) [] rfl
    exact W.zret (v := 0) hx hb hr (by first | rfl | decide) (fun t ht hW => ⟨⟨0, (), rfl, (by unfold fRoom; rw [if_pos c_1]), ⟨by rw [ht]; exact hP9, va_K.moved hW.alike hK9, hD9⟩⟩, hS.F ht⟩) hS.2.2 dX7_hasRoomFor_17
  · refine lv_iconst (v := 1) hx hb dX7_hasRoomFor_12 (by decide) ?_
    refine lv_goto (tgt := 17) hx hb dX7_hasRoomFor_13 (by decide) ?_
    have hP9 := hP.sub (ws' := [(h0, .inr (7, [.ref h1, .int len]))]) [0] rfl
    have hD9 := hD.sub (ws' := [(h0, .inr (7, [.ref h1, .int len]))]) [0] (by decide) rfl
    have hK9 := hK.sub (tys' := []) [] rfl
    exact W.zret (v := 1) hx hb hr (by first | rfl | decide) (fun t ht hW => ⟨⟨1, (), rfl, (by unfold fRoom; rw [if_neg c_1]), ⟨by rw [ht]; exact hP9, va_K.moved hW.alike hK9, hD9⟩⟩, hS.F ht⟩) hS.2.2 dX7_hasRoomFor_17
set_option maxHeartbeats 1000000 in
set_option maxRecDepth 100000 in
theorem c_X7_append (l : Launch) (dC : Nat → ClassId) (dI : Nat → Nat → Nat) (h0 h1 : Nat) (cB : ClassId) (n : Nat) (f : Nat → Int32) (wd : Int32) (sz : Nat) (hn : n + 4 ≤ 4000) : Met l yX7_append wsX7_append ({ frames := 0, cells := 0, slots := 0, locals := 0 }) (va_Pc [.ref h0, .int wd] (kPre dC dI [(cB, .byte)] [(h0, .inr (7, [.ref h1, .int (nI n)])), (h1, .inl (cB, 4000, .inl f))] sz)) (va_Qv (fun (_ : Unit) => True) (fun (_ : Unit) (t : State) => ∃ (f2 : Nat → Int32), kB dC dI (va_A [(h0, .inr (7, [.ref h1, .int (nI n)])), (h1, .inl (cB, 4000, .inl f))] sz) [(cB, .byte)] [(h0, .inr (7, [.ref h1, .int (nI (n + 4))])), (h1, .inl (cB, 4000, .inl f2))] t) (va_A [(h0, .inr (7, [.ref h1, .int (nI n)])), (h1, .inl (cB, 4000, .inl f))] sz)) 0 0 (va_A [(h0, .inr (7, [.ref h1, .int (nI n)])), (h1, .inl (cB, 4000, .inl f))] sz) := by
  refine Met.ofW (cc := cX7_append) (maxL := 3) (ret := none) (by decide) rfl ?_
  intro p e s m args below meth c s₁ B hml hv
  obtain ⟨rfl, hsz, hP, hK, hD0, hN⟩ := hv
  have hx := B.exec
  have hb := B.bytes
  have hr := B.returns
  have hts := atoms_spec (ws := wsX7_append) B.pre
  have hown : s.vm.findClass RX7 = some m.cls := findClass_of_methodNamed B.named
  have hlocks := B.notSynchronized
  subst hsz
  have hD := hD0.self (sz := s.heap.size)
  generalize hAe : va_A [(h0, .inr (7, [.ref h1, .int (nI n)])), (h1, .inl (cB, 4000, .inl f))] s.heap.size = A at hD ⊢
  have hA : ∀ q : Nat, s.heap.size ≤ q → A q := fun q h => by rw [← hAe]; exact Or.inr h
  have hS : va_S A s.heap s.heap [] := va_S.rf
  have hP : va_P (dC, dI) vwCl [(h0, .inr (7, [.ref h1, .int (nI n)])), (h1, .inl (cB, 4000, .inl f))] s.heap := hP
  have hinX7 : ∀ w ∈ wsX70, w ∈ wsX7_append := fun _ h => List.mem_cons_of_mem _ (List.mem_append_right _ h)
  have hl := lv_entry ([.ref h0, .int wd]) (n := 3) (Nat.le_of_ble_eq_true rfl)
  rw [lg_entry_eq]
  generalize (lg_sl ([.ref h0, .int wd]) ++ List.replicate (3 - (lg_sl ([.ref h0, .int wd])).length) Slot.unset).toArray = ls at hl ⊢
  have hl : lv_has ls 3 [(0, .ref h0), (1, .int wd)] := hl
  refine lv_bipush (v := 24) hx hb dX7_append_0 (by decide) ?_
  refine lv_istore_n (lv' := [(2, .int 24), (0, .ref h0), (1, .int wd)]) hx hb dX7_append_2 rfl hl (by decide) rfl (fun ls hl => ?_)
  refine lv_iload_n hx hb dX7_append_3 rfl (lv_at hl 0 rfl) ?_
  refine lv_if_lt (tgt := 46) hx hb dX7_append_4 (by decide) (fun c_1 => absurd c_1 (by decide)) (fun c_1 => ?_)
  refine lv_aload_n hx hb dX7_append_7 rfl (lv_at hl 1 rfl) ?_
  refine va_get (D := (dC, dI)) (ci := 7) (v := .int (nI n)) (C := RX7) (T := TX7) (N := 2) hx hb hts hinX7 hown hK hP 0 rfl rfl 1 (by decide) (hts (.fieldLink RX7 15 "CensusDesk$Tape" "length" "I") (List.mem_of_getElem? (i := 1) rfl)) (fun _ h9 => h9) rfl dX7_append_8 ?_
  refine lv_sipush (v := 4000) hx hb dX7_append_11 (by decide) ?_
  refine lv_icmp_ge (tgt := 40) hx hb dX7_append_14 (by decide) (fun c_2 => False.elim (nI_ge (a := n + 0) (b := 4000) (by omega) (by decide) c_2)) (fun c_2 => ?_)
  refine lv_aload_n hx hb dX7_append_17 rfl (lv_at hl 1 rfl) ?_
  refine va_get (D := (dC, dI)) (ci := 7) (v := .ref h1) (C := RX7) (T := TX7) (N := 2) hx hb hts hinX7 hown hK hP 0 rfl rfl 0 (by decide) (hts (.fieldLink RX7 11 "CensusDesk$Tape" "bytes" "[B") (List.mem_of_getElem? (i := 2) rfl)) (fun _ h9 => h9) rfl dX7_append_18 ?_
  refine lv_aload_n hx hb dX7_append_21 rfl (lv_at hl 1 rfl) ?_
  refine va_get (D := (dC, dI)) (ci := 7) (v := .int (nI n)) (C := RX7) (T := TX7) (N := 2) hx hb hts hinX7 hown hK hP 0 rfl rfl 1 (by decide) (hts (.fieldLink RX7 15 "CensusDesk$Tape" "length" "I") (List.mem_of_getElem? (i := 1) rfl)) (fun _ h9 => h9) rfl dX7_append_22 ?_
  refine lv_iload_n hx hb dX7_append_25 rfl (lv_at hl 2 rfl) ?_
  refine lv_iload_n hx hb dX7_append_26 rfl (lv_at hl 0 rfl) ?_
  obtain ⟨z_3, ez_3⟩ : ∃ z : Int32, (Int32.toUInt32 wd >>> (Int32.toUInt32 24 &&& Int32.toUInt32 31)).toInt32 = z := ⟨_, rfl⟩
  refine lv_iushr (v := z_3) hx hb dX7_append_27 ez_3 ?_
  obtain ⟨z_4, ez_4⟩ : ∃ z : Int32, (Int32.toInt8 z_3).toInt32 = z := ⟨_, rfl⟩
  refine lv_i2b (v := z_4) hx hb dX7_append_28 ez_4 ?_
  refine va_bast hx hb hK hP hD hS 1 0 rfl rfl (i := (nI n)) (x := z_4) (vp_in_nI (by omega) (by decide)) dX7_append_29 (fun H locs hP hD hS => ?_)
  obtain ⟨f_5, ef_5⟩ : ∃ z : Nat → Int32, z = upd f (Int32.toNatClampNeg (nI n)) (vp_nar .byte z_4) := ⟨_, rfl⟩
  rw [← ef_5] at hP hD
  have hP : va_P (dC, dI) vwCl [(h0, .inr (7, [.ref h1, .int (nI n)])), (h1, .inl (cB, 4000, .inl f_5))] H := hP
  have hD : va_D A [(h0, .inr (7, [.ref h1, .int (nI n)])), (h1, .inl (cB, 4000, .inl f_5))] := hD
  refine lv_aload_n hx hb dX7_append_30 rfl (lv_at hl 1 rfl) ?_
  refine lv_dup hx hb dX7_append_31 rfl ?_
  refine va_get (D := (dC, dI)) (ci := 7) (v := .int (nI n)) (C := RX7) (T := TX7) (N := 2) hx hb hts hinX7 hown hK hP 0 rfl rfl 1 (by decide) (hts (.fieldLink RX7 15 "CensusDesk$Tape" "length" "I") (List.mem_of_getElem? (i := 1) rfl)) (fun _ h9 => h9) rfl dX7_append_32 ?_
  refine lv_iconst (v := 1) hx hb dX7_append_35 (by decide) ?_
  refine lv_iadd hx hb dX7_append_36 ?_
  refine k_top (v := (nI (n + 1))) (nI_1 _) ?_
  refine va_put (D := (dC, dI)) (ci := 7) (v := .int (nI (n + 1))) (ty := .int) (C := RX7) (T := TX7) (N := 2) hx hb hts hinX7 tyX7 tyX7_ok nmX7 hown hK hP hD hS 0 rfl rfl 1 (by decide) (hts (.fieldLink RX7 15 "CensusDesk$Tape" "length" "I") (List.mem_of_getElem? (i := 1) rfl)) (fun _ h9 => h9) rfl (by decide +kernel) rfl rfl (Nat.le_of_ble_eq_true rfl) dX7_append_37 (fun H locs hP hD hS => ?_)
  have hP : va_P (dC, dI) vwCl [(h0, .inr (7, [.ref h1, .int (nI (n + 1))])), (h1, .inl (cB, 4000, .inl f_5))] H := hP
  have hD : va_D A [(h0, .inr (7, [.ref h1, .int (nI (n + 1))])), (h1, .inl (cB, 4000, .inl f_5))] := hD
  refine lv_iinc (v := 16) (lv' := [(2, .int 16), (0, .ref h0), (1, .int wd)]) hx hb dX7_append_40 hl (k := 0) rfl (by decide) (by decide) rfl (fun ls hl => ?_)
  refine lv_goto (tgt := 3) hx hb dX7_append_43 (by decide) ?_
  refine lv_iload_n hx hb dX7_append_3 rfl (lv_at hl 0 rfl) ?_
  refine lv_if_lt (tgt := 46) hx hb dX7_append_4 (by decide) (fun c_6 => absurd c_6 (by decide)) (fun c_6 => ?_)
  refine lv_aload_n hx hb dX7_append_7 rfl (lv_at hl 1 rfl) ?_
  refine va_get (D := (dC, dI)) (ci := 7) (v := .int (nI (n + 1))) (C := RX7) (T := TX7) (N := 2) hx hb hts hinX7 hown hK hP 0 rfl rfl 1 (by decide) (hts (.fieldLink RX7 15 "CensusDesk$Tape" "length" "I") (List.mem_of_getElem? (i := 1) rfl)) (fun _ h9 => h9) rfl dX7_append_8 ?_
  refine lv_sipush (v := 4000) hx hb dX7_append_11 (by decide) ?_
  refine lv_icmp_ge (tgt := 40) hx hb dX7_append_14 (by decide) (fun c_7 => False.elim (nI_ge (a := n + 1) (b := 4000) (by omega) (by decide) c_7)) (fun c_7 => ?_)
  refine lv_aload_n hx hb dX7_append_17 rfl (lv_at hl 1 rfl) ?_
  refine va_get (D := (dC, dI)) (ci := 7) (v := .ref h1) (C := RX7) (T := TX7) (N := 2) hx hb hts hinX7 hown hK hP 0 rfl rfl 0 (by decide) (hts (.fieldLink RX7 11 "CensusDesk$Tape" "bytes" "[B") (List.mem_of_getElem? (i := 2) rfl)) (fun _ h9 => h9) rfl dX7_append_18 ?_
  refine lv_aload_n hx hb dX7_append_21 rfl (lv_at hl 1 rfl) ?_
  refine va_get (D := (dC, dI)) (ci := 7) (v := .int (nI (n + 1))) (C := RX7) (T := TX7) (N := 2) hx hb hts hinX7 hown hK hP 0 rfl rfl 1 (by decide) (hts (.fieldLink RX7 15 "CensusDesk$Tape" "length" "I") (List.mem_of_getElem? (i := 1) rfl)) (fun _ h9 => h9) rfl dX7_append_22 ?_
  refine lv_iload_n hx hb dX7_append_25 rfl (lv_at hl 2 rfl) ?_
  refine lv_iload_n hx hb dX7_append_26 rfl (lv_at hl 0 rfl) ?_
  obtain ⟨z_8, ez_8⟩ : ∃ z : Int32, (Int32.toUInt32 wd >>> (Int32.toUInt32 16 &&& Int32.toUInt32 31)).toInt32 = z := ⟨_, rfl⟩
  refine lv_iushr (v := z_8) hx hb dX7_append_27 ez_8 ?_
  obtain ⟨z_9, ez_9⟩ : ∃ z : Int32, (Int32.toInt8 z_8).toInt32 = z := ⟨_, rfl⟩
  refine lv_i2b (v := z_9) hx hb dX7_append_28 ez_9 ?_
  refine va_bast hx hb hK hP hD hS 1 0 rfl rfl (i := (nI (n + 1))) (x := z_9) (vp_in_nI (by omega) (by decide)) dX7_append_29 (fun H locs hP hD hS => ?_)
  obtain ⟨f_10, ef_10⟩ : ∃ z : Nat → Int32, z = upd f_5 (Int32.toNatClampNeg (nI (n + 1))) (vp_nar .byte z_9) := ⟨_, rfl⟩
  rw [← ef_10] at hP hD
  have hP : va_P (dC, dI) vwCl [(h0, .inr (7, [.ref h1, .int (nI (n + 1))])), (h1, .inl (cB, 4000, .inl f_10))] H := hP
  have hD : va_D A [(h0, .inr (7, [.ref h1, .int (nI (n + 1))])), (h1, .inl (cB, 4000, .inl f_10))] := hD
  refine lv_aload_n hx hb dX7_append_30 rfl (lv_at hl 1 rfl) ?_
  refine lv_dup hx hb dX7_append_31 rfl ?_
  refine va_get (D := (dC, dI)) (ci := 7) (v := .int (nI (n + 1))) (C := RX7) (T := TX7) (N := 2) hx hb hts hinX7 hown hK hP 0 rfl rfl 1 (by decide) (hts (.fieldLink RX7 15 "CensusDesk$Tape" "length" "I") (List.mem_of_getElem? (i := 1) rfl)) (fun _ h9 => h9) rfl dX7_append_32 ?_
  refine lv_iconst (v := 1) hx hb dX7_append_35 (by decide) ?_
  refine lv_iadd hx hb dX7_append_36 ?_
  refine k_top (v := (nI (n + 2))) (nI_1 _) ?_
  refine va_put (D := (dC, dI)) (ci := 7) (v := .int (nI (n + 2))) (ty := .int) (C := RX7) (T := TX7) (N := 2) hx hb hts hinX7 tyX7 tyX7_ok nmX7 hown hK hP hD hS 0 rfl rfl 1 (by decide) (hts (.fieldLink RX7 15 "CensusDesk$Tape" "length" "I") (List.mem_of_getElem? (i := 1) rfl)) (fun _ h9 => h9) rfl (by decide +kernel) rfl rfl (Nat.le_of_ble_eq_true rfl) dX7_append_37 (fun H locs hP hD hS => ?_)
  have hP : va_P (dC, dI) vwCl [(h0, .inr (7, [.ref h1, .int (nI (n + 2))])), (h1, .inl (cB, 4000, .inl f_10))] H := hP
  have hD : va_D A [(h0, .inr (7, [.ref h1, .int (nI (n + 2))])), (h1, .inl (cB, 4000, .inl f_10))] := hD
  refine lv_iinc (v := 8) (lv' := [(2, .int 8), (0, .ref h0), (1, .int wd)]) hx hb dX7_append_40 hl (k := 0) rfl (by decide) (by decide) rfl (fun ls hl => ?_)
  refine lv_goto (tgt := 3) hx hb dX7_append_43 (by decide) ?_
  refine lv_iload_n hx hb dX7_append_3 rfl (lv_at hl 0 rfl) ?_
  refine lv_if_lt (tgt := 46) hx hb dX7_append_4 (by decide) (fun c_11 => absurd c_11 (by decide)) (fun c_11 => ?_)
  refine lv_aload_n hx hb dX7_append_7 rfl (lv_at hl 1 rfl) ?_
  refine va_get (D := (dC, dI)) (ci := 7) (v := .int (nI (n + 2))) (C := RX7) (T := TX7) (N := 2) hx hb hts hinX7 hown hK hP 0 rfl rfl 1 (by decide) (hts (.fieldLink RX7 15 "CensusDesk$Tape" "length" "I") (List.mem_of_getElem? (i := 1) rfl)) (fun _ h9 => h9) rfl dX7_append_8 ?_
  refine lv_sipush (v := 4000) hx hb dX7_append_11 (by decide) ?_
  refine lv_icmp_ge (tgt := 40) hx hb dX7_append_14 (by decide) (fun c_12 => False.elim (nI_ge (a := n + 2) (b := 4000) (by omega) (by decide) c_12)) (fun c_12 => ?_)
  refine lv_aload_n hx hb dX7_append_17 rfl (lv_at hl 1 rfl) ?_
  refine va_get (D := (dC, dI)) (ci := 7) (v := .ref h1) (C := RX7) (T := TX7) (N := 2) hx hb hts hinX7 hown hK hP 0 rfl rfl 0 (by decide) (hts (.fieldLink RX7 11 "CensusDesk$Tape" "bytes" "[B") (List.mem_of_getElem? (i := 2) rfl)) (fun _ h9 => h9) rfl dX7_append_18 ?_
  refine lv_aload_n hx hb dX7_append_21 rfl (lv_at hl 1 rfl) ?_
  refine va_get (D := (dC, dI)) (ci := 7) (v := .int (nI (n + 2))) (C := RX7) (T := TX7) (N := 2) hx hb hts hinX7 hown hK hP 0 rfl rfl 1 (by decide) (hts (.fieldLink RX7 15 "CensusDesk$Tape" "length" "I") (List.mem_of_getElem? (i := 1) rfl)) (fun _ h9 => h9) rfl dX7_append_22 ?_
  refine lv_iload_n hx hb dX7_append_25 rfl (lv_at hl 2 rfl) ?_
  refine lv_iload_n hx hb dX7_append_26 rfl (lv_at hl 0 rfl) ?_
  obtain ⟨z_13, ez_13⟩ : ∃ z : Int32, (Int32.toUInt32 wd >>> (Int32.toUInt32 8 &&& Int32.toUInt32 31)).toInt32 = z := ⟨_, rfl⟩
  refine lv_iushr (v := z_13) hx hb dX7_append_27 ez_13 ?_
  obtain ⟨z_14, ez_14⟩ : ∃ z : Int32, (Int32.toInt8 z_13).toInt32 = z := ⟨_, rfl⟩
  refine lv_i2b (v := z_14) hx hb dX7_append_28 ez_14 ?_
  refine va_bast hx hb hK hP hD hS 1 0 rfl rfl (i := (nI (n + 2))) (x := z_14) (vp_in_nI (by omega) (by decide)) dX7_append_29 (fun H locs hP hD hS => ?_)
  obtain ⟨f_15, ef_15⟩ : ∃ z : Nat → Int32, z = upd f_10 (Int32.toNatClampNeg (nI (n + 2))) (vp_nar .byte z_14) := ⟨_, rfl⟩
  rw [← ef_15] at hP hD
  have hP : va_P (dC, dI) vwCl [(h0, .inr (7, [.ref h1, .int (nI (n + 2))])), (h1, .inl (cB, 4000, .inl f_15))] H := hP
  have hD : va_D A [(h0, .inr (7, [.ref h1, .int (nI (n + 2))])), (h1, .inl (cB, 4000, .inl f_15))] := hD
  refine lv_aload_n hx hb dX7_append_30 rfl (lv_at hl 1 rfl) ?_
  refine lv_dup hx hb dX7_append_31 rfl ?_
  refine va_get (D := (dC, dI)) (ci := 7) (v := .int (nI (n + 2))) (C := RX7) (T := TX7) (N := 2) hx hb hts hinX7 hown hK hP 0 rfl rfl 1 (by decide) (hts (.fieldLink RX7 15 "CensusDesk$Tape" "length" "I") (List.mem_of_getElem? (i := 1) rfl)) (fun _ h9 => h9) rfl dX7_append_32 ?_
  refine lv_iconst (v := 1) hx hb dX7_append_35 (by decide) ?_
  refine lv_iadd hx hb dX7_append_36 ?_
  refine k_top (v := (nI (n + 3))) (nI_1 _) ?_
  refine va_put (D := (dC, dI)) (ci := 7) (v := .int (nI (n + 3))) (ty := .int) (C := RX7) (T := TX7) (N := 2) hx hb hts hinX7 tyX7 tyX7_ok nmX7 hown hK hP hD hS 0 rfl rfl 1 (by decide) (hts (.fieldLink RX7 15 "CensusDesk$Tape" "length" "I") (List.mem_of_getElem? (i := 1) rfl)) (fun _ h9 => h9) rfl (by decide +kernel) rfl rfl (Nat.le_of_ble_eq_true rfl) dX7_append_37 (fun H locs hP hD hS => ?_)
  have hP : va_P (dC, dI) vwCl [(h0, .inr (7, [.ref h1, .int (nI (n + 3))])), (h1, .inl (cB, 4000, .inl f_15))] H := hP
  have hD : va_D A [(h0, .inr (7, [.ref h1, .int (nI (n + 3))])), (h1, .inl (cB, 4000, .inl f_15))] := hD
  refine lv_iinc (v := 0) (lv' := [(2, .int 0), (0, .ref h0), (1, .int wd)]) hx hb dX7_append_40 hl (k := 0) rfl (by decide) (by decide) rfl (fun ls hl => ?_)
  refine lv_goto (tgt := 3) hx hb dX7_append_43 (by decide) ?_
  refine lv_iload_n hx hb dX7_append_3 rfl (lv_at hl 0 rfl) ?_
  refine lv_if_lt (tgt := 46) hx hb dX7_append_4 (by decide) (fun c_16 => absurd c_16 (by decide)) (fun c_16 => ?_)
  refine lv_aload_n hx hb dX7_append_7 rfl (lv_at hl 1 rfl) ?_
  refine va_get (D := (dC, dI)) (ci := 7) (v := .int (nI (n + 3))) (C := RX7) (T := TX7) (N := 2) hx hb hts hinX7 hown hK hP 0 rfl rfl 1 (by decide) (hts (.fieldLink RX7 15 "CensusDesk$Tape" "length" "I") (List.mem_of_getElem? (i := 1) rfl)) (fun _ h9 => h9) rfl dX7_append_8 ?_
  refine lv_sipush (v := 4000) hx hb dX7_append_11 (by decide) ?_
  refine lv_icmp_ge (tgt := 40) hx hb dX7_append_14 (by decide) (fun c_17 => False.elim (nI_ge (a := n + 3) (b := 4000) (by omega) (by decide) c_17)) (fun c_17 => ?_)
  refine lv_aload_n hx hb dX7_append_17 rfl (lv_at hl 1 rfl) ?_
  refine va_get (D := (dC, dI)) (ci := 7) (v := .ref h1) (C := RX7) (T := TX7) (N := 2) hx hb hts hinX7 hown hK hP 0 rfl rfl 0 (by decide) (hts (.fieldLink RX7 11 "CensusDesk$Tape" "bytes" "[B") (List.mem_of_getElem? (i := 2) rfl)) (fun _ h9 => h9) rfl dX7_append_18 ?_
  refine lv_aload_n hx hb dX7_append_21 rfl (lv_at hl 1 rfl) ?_
  refine va_get (D := (dC, dI)) (ci := 7) (v := .int (nI (n + 3))) (C := RX7) (T := TX7) (N := 2) hx hb hts hinX7 hown hK hP 0 rfl rfl 1 (by decide) (hts (.fieldLink RX7 15 "CensusDesk$Tape" "length" "I") (List.mem_of_getElem? (i := 1) rfl)) (fun _ h9 => h9) rfl dX7_append_22 ?_
  refine lv_iload_n hx hb dX7_append_25 rfl (lv_at hl 2 rfl) ?_
  refine lv_iload_n hx hb dX7_append_26 rfl (lv_at hl 0 rfl) ?_
  obtain ⟨z_18, ez_18⟩ : ∃ z : Int32, (Int32.toUInt32 wd >>> (Int32.toUInt32 0 &&& Int32.toUInt32 31)).toInt32 = z := ⟨_, rfl⟩
  refine lv_iushr (v := z_18) hx hb dX7_append_27 ez_18 ?_
  obtain ⟨z_19, ez_19⟩ : ∃ z : Int32, (Int32.toInt8 z_18).toInt32 = z := ⟨_, rfl⟩
  refine lv_i2b (v := z_19) hx hb dX7_append_28 ez_19 ?_
  refine va_bast hx hb hK hP hD hS 1 0 rfl rfl (i := (nI (n + 3))) (x := z_19) (vp_in_nI (by omega) (by decide)) dX7_append_29 (fun H locs hP hD hS => ?_)
  obtain ⟨f_20, ef_20⟩ : ∃ z : Nat → Int32, z = upd f_15 (Int32.toNatClampNeg (nI (n + 3))) (vp_nar .byte z_19) := ⟨_, rfl⟩
  rw [← ef_20] at hP hD
  have hP : va_P (dC, dI) vwCl [(h0, .inr (7, [.ref h1, .int (nI (n + 3))])), (h1, .inl (cB, 4000, .inl f_20))] H := hP
  have hD : va_D A [(h0, .inr (7, [.ref h1, .int (nI (n + 3))])), (h1, .inl (cB, 4000, .inl f_20))] := hD
  refine lv_aload_n hx hb dX7_append_30 rfl (lv_at hl 1 rfl) ?_
  refine lv_dup hx hb dX7_append_31 rfl ?_
  refine va_get (D := (dC, dI)) (ci := 7) (v := .int (nI (n + 3))) (C := RX7) (T := TX7) (N := 2) hx hb hts hinX7 hown hK hP 0 rfl rfl 1 (by decide) (hts (.fieldLink RX7 15 "CensusDesk$Tape" "length" "I") (List.mem_of_getElem? (i := 1) rfl)) (fun _ h9 => h9) rfl dX7_append_32 ?_
  refine lv_iconst (v := 1) hx hb dX7_append_35 (by decide) ?_
  refine lv_iadd hx hb dX7_append_36 ?_
  refine k_top (v := (nI (n + 4))) (nI_1 _) ?_
  refine va_put (D := (dC, dI)) (ci := 7) (v := .int (nI (n + 4))) (ty := .int) (C := RX7) (T := TX7) (N := 2) hx hb hts hinX7 tyX7 tyX7_ok nmX7 hown hK hP hD hS 0 rfl rfl 1 (by decide) (hts (.fieldLink RX7 15 "CensusDesk$Tape" "length" "I") (List.mem_of_getElem? (i := 1) rfl)) (fun _ h9 => h9) rfl (by decide +kernel) rfl rfl (Nat.le_of_ble_eq_true rfl) dX7_append_37 (fun H locs hP hD hS => ?_)
  have hP : va_P (dC, dI) vwCl [(h0, .inr (7, [.ref h1, .int (nI (n + 4))])), (h1, .inl (cB, 4000, .inl f_20))] H := hP
  have hD : va_D A [(h0, .inr (7, [.ref h1, .int (nI (n + 4))])), (h1, .inl (cB, 4000, .inl f_20))] := hD
  refine lv_iinc (v := (-8)) (lv' := [(2, .int (-8)), (0, .ref h0), (1, .int wd)]) hx hb dX7_append_40 hl (k := 0) rfl (by decide) (by decide) rfl (fun ls hl => ?_)
  refine lv_goto (tgt := 3) hx hb dX7_append_43 (by decide) ?_
  refine lv_iload_n hx hb dX7_append_3 rfl (lv_at hl 0 rfl) ?_
  refine lv_if_lt (tgt := 46) hx hb dX7_append_4 (by decide) (fun c_21 => ?_) (fun c_21 => absurd c_21 (by decide))
  have hP9 := hP.sub (ws' := [(h0, .inr (7, [.ref h1, .int (nI (n + 4))])), (h1, .inl (cB, 4000, .inl f_20))]) [0, 1] rfl
  have hD9 := hD.sub (ws' := [(h0, .inr (7, [.ref h1, .int (nI (n + 4))])), (h1, .inl (cB, 4000, .inl f_20))]) [0, 1] (by decide) rfl
  have hK9 := hK.sub (tys' := [(cB, .byte)]) [0] rfl
  exact W.vret hx hb hr (fun t ht hW => ⟨⟨(), rfl, trivial, f_20, ⟨by rw [ht]; exact hP9, va_K.moved hW.alike hK9, hD9⟩⟩, hS.F ht⟩) hS.2.2 dX7_append_46
set_option maxHeartbeats 1000000 in
set_option maxRecDepth 100000 in
theorem c_X7_keepFirst (l : Launch) (dC : Nat → ClassId) (dI : Nat → Nat → Nat) (h0 h1 : Nat) (len n : Int32) (sz : Nat)  : Met l yX7_keepFirst wsX7_keepFirst ({ frames := 0, cells := 0, slots := 0, locals := 0 }) (va_Pc [.ref h0, .int n] (kPre dC dI [] [(h0, .inr (7, [.ref h1, .int len]))] sz)) (va_Qv (fun (_ : Unit) => True) (fun (_ : Unit) (_ : State) => True) (va_A [(h0, .inr (7, [.ref h1, .int len]))] sz)) 0 0 (va_A [(h0, .inr (7, [.ref h1, .int len]))] sz) := by
  refine Met.ofW (cc := cX7_keepFirst) (maxL := 2) (ret := none) (by decide) rfl ?_
  intro p e s m args below meth c s₁ B hml hv
  obtain ⟨rfl, hsz, hP, hK, hD0, hN⟩ := hv
  have hx := B.exec
  have hb := B.bytes
  have hr := B.returns
  have hts := atoms_spec (ws := wsX7_keepFirst) B.pre
  have hown : s.vm.findClass RX7 = some m.cls := findClass_of_methodNamed B.named
  have hlocks := B.notSynchronized
  subst hsz
  have hD := hD0.self (sz := s.heap.size)
  generalize hAe : va_A [(h0, .inr (7, [.ref h1, .int len]))] s.heap.size = A at hD ⊢
  have hA : ∀ q : Nat, s.heap.size ≤ q → A q := fun q h => by rw [← hAe]; exact Or.inr h
  have hS : va_S A s.heap s.heap [] := va_S.rf
  have hP : va_P (dC, dI) vwCl [(h0, .inr (7, [.ref h1, .int len]))] s.heap := hP
  have hinX7 : ∀ w ∈ wsX70, w ∈ wsX7_keepFirst := fun _ h => List.mem_cons_of_mem _ (List.mem_append_right _ h)
  have hl := lv_entry ([.ref h0, .int n]) (n := 2) (Nat.le_of_ble_eq_true rfl)
  rw [lg_entry_eq]
  generalize (lg_sl ([.ref h0, .int n]) ++ List.replicate (2 - (lg_sl ([.ref h0, .int n])).length) Slot.unset).toArray = ls at hl ⊢
  have hl : lv_has ls 2 [(0, .ref h0), (1, .int n)] := hl
  refine lv_iload_n hx hb dX7_keepFirst_0 rfl (lv_at hl 1 rfl) ?_
  refine lv_if_lt (tgt := 17) hx hb dX7_keepFirst_1 (by decide) (fun c_1 => ?_) (fun c_1 => ?_)
  · exact W.vret hx hb hr (fun t ht hW => ⟨⟨(), rfl, trivial, trivial⟩, hS.F ht⟩) hS.2.2 dX7_keepFirst_17
  · refine lv_iload_n hx hb dX7_keepFirst_4 rfl (lv_at hl 1 rfl) ?_
    refine lv_aload_n hx hb dX7_keepFirst_5 rfl (lv_at hl 0 rfl) ?_
    refine va_get (D := (dC, dI)) (ci := 7) (v := .int len) (C := RX7) (T := TX7) (N := 2) hx hb hts hinX7 hown hK hP 0 rfl rfl 1 (by decide) (hts (.fieldLink RX7 15 "CensusDesk$Tape" "length" "I") (List.mem_of_getElem? (i := 1) rfl)) (fun _ h9 => h9) rfl dX7_keepFirst_6 ?_
    refine lv_icmp_gt (tgt := 17) hx hb dX7_keepFirst_9 (by decide) (fun c_2 => ?_) (fun c_2 => ?_)
    · exact W.vret hx hb hr (fun t ht hW => ⟨⟨(), rfl, trivial, trivial⟩, hS.F ht⟩) hS.2.2 dX7_keepFirst_17
    · refine lv_aload_n hx hb dX7_keepFirst_12 rfl (lv_at hl 0 rfl) ?_
      refine lv_iload_n hx hb dX7_keepFirst_13 rfl (lv_at hl 1 rfl) ?_
      refine va_put (D := (dC, dI)) (ci := 7) (v := .int n) (ty := .int) (C := RX7) (T := TX7) (N := 2) hx hb hts hinX7 tyX7 tyX7_ok nmX7 hown hK hP hD hS 0 rfl rfl 1 (by decide) (hts (.fieldLink RX7 15 "CensusDesk$Tape" "length" "I") (List.mem_of_getElem? (i := 1) rfl)) (fun _ h9 => h9) rfl (by decide +kernel) rfl rfl (Nat.le_of_ble_eq_true rfl) dX7_keepFirst_14 (fun H locs hP hD hS => ?_)
      have hP : va_P (dC, dI) vwCl [(h0, .inr (7, [.ref h1, .int n]))] H := hP
      have hD : va_D A [(h0, .inr (7, [.ref h1, .int n]))] := hD
      exact W.vret hx hb hr (fun t ht hW => ⟨⟨(), rfl, trivial, trivial⟩, hS.F ht⟩) hS.2.2 dX7_keepFirst_17
set_option maxHeartbeats 1000000 in
set_option maxRecDepth 100000 in
theorem c_X7_behind0 (l : Launch) (dC : Nat → ClassId) (dI : Nat → Nat → Nat) (h0 h1 : Nat) (sz : Nat)  : Met l yX7_behindEmptyLines wsX7_behindEmptyLines ({ frames := 0, cells := 0, slots := 0, locals := 0 }) (va_Pc [.ref h0, .int 0] (kPre dC dI [] [(h0, .inr (7, [.ref h1, .int 0]))] sz)) (va_Qi (fun (r : Int32) (_ : Unit) => r = 0) (fun (_ : Unit) (t : State) => kB dC dI (va_A [(h0, .inr (7, [.ref h1, .int 0]))] sz) [] [(h0, .inr (7, [.ref h1, .int 0]))] t) (va_A [(h0, .inr (7, [.ref h1, .int 0]))] sz)) 0 0 (va_A [(h0, .inr (7, [.ref h1, .int 0]))] sz) := by
  refine Met.ofW (cc := cX7_behindEmptyLines) (maxL := 3) (ret := (some .int)) (by decide) rfl ?_
  intro p e s m args below meth c s₁ B hml hv
  obtain ⟨rfl, hsz, hP, hK, hD0, hN⟩ := hv
  have hx := B.exec
  have hb := B.bytes
  have hr := B.returns
  have hts := atoms_spec (ws := wsX7_behindEmptyLines) B.pre
  have hown : s.vm.findClass RX7 = some m.cls := findClass_of_methodNamed B.named
  have hlocks := B.notSynchronized
  subst hsz
  have hD := hD0.self (sz := s.heap.size)
  generalize hAe : va_A [(h0, .inr (7, [.ref h1, .int 0]))] s.heap.size = A at hD ⊢
  have hA : ∀ q : Nat, s.heap.size ≤ q → A q := fun q h => by rw [← hAe]; exact Or.inr h
  have hS : va_S A s.heap s.heap [] := va_S.rf
  have hP : va_P (dC, dI) vwCl [(h0, .inr (7, [.ref h1, .int 0]))] s.heap := hP
  have hinX7 : ∀ w ∈ wsX70, w ∈ wsX7_behindEmptyLines := fun _ h => List.mem_cons_of_mem _ (List.mem_append_right _ h)
  have hl := lv_entry ([.ref h0, .int 0]) (n := 3) (Nat.le_of_ble_eq_true rfl)
  rw [lg_entry_eq]
  generalize (lg_sl ([.ref h0, .int 0]) ++ List.replicate (3 - (lg_sl ([.ref h0, .int 0])).length) Slot.unset).toArray = ls at hl ⊢
  have hl : lv_has ls 3 [(0, .ref h0), (1, .int 0)] := hl
  refine lv_iload_n hx hb dX7_behindEmptyLines_0 rfl (lv_at hl 1 rfl) ?_
  refine lv_istore_n (lv' := [(2, .int 0), (0, .ref h0), (1, .int 0)]) hx hb dX7_behindEmptyLines_1 rfl hl (by decide) rfl (fun ls hl => ?_)
  refine lv_iload_n hx hb dX7_behindEmptyLines_2 rfl (lv_at hl 0 rfl) ?_
  refine lv_aload_n hx hb dX7_behindEmptyLines_3 rfl (lv_at hl 1 rfl) ?_
  refine va_get (D := (dC, dI)) (ci := 7) (v := .int 0) (C := RX7) (T := TX7) (N := 2) hx hb hts hinX7 hown hK hP 0 rfl rfl 1 (by decide) (hts (.fieldLink RX7 15 "CensusDesk$Tape" "length" "I") (List.mem_of_getElem? (i := 1) rfl)) (fun _ h9 => h9) rfl dX7_behindEmptyLines_4 ?_
  refine lv_icmp_ge (tgt := 28) hx hb dX7_behindEmptyLines_7 (by decide) (fun c_1 => ?_) (fun c_1 => absurd c_1 (by decide))
  refine lv_aload_n hx hb dX7_behindEmptyLines_28 rfl (lv_at hl 1 rfl) ?_
  refine va_get (D := (dC, dI)) (ci := 7) (v := .int 0) (C := RX7) (T := TX7) (N := 2) hx hb hts hinX7 hown hK hP 0 rfl rfl 1 (by decide) (hts (.fieldLink RX7 15 "CensusDesk$Tape" "length" "I") (List.mem_of_getElem? (i := 1) rfl)) (fun _ h9 => h9) rfl dX7_behindEmptyLines_29 ?_
  have hP9 := hP.sub (ws' := [(h0, .inr (7, [.ref h1, .int 0]))]) [0] rfl
  have hD9 := hD.sub (ws' := [(h0, .inr (7, [.ref h1, .int 0]))]) [0] (by decide) rfl
  have hK9 := hK.sub (tys' := []) [] rfl
  exact W.iret (v := 0) hx hb hr (fun t ht hW => ⟨⟨0, (), rfl, rfl, ⟨by rw [ht]; exact hP9, va_K.moved hW.alike hK9, hD9⟩⟩, hS.F ht⟩) hS.2.2 dX7_behindEmptyLines_32
set_option maxHeartbeats 1000000 in
set_option maxRecDepth 100000 in
theorem c_fill (l : Launch) (dC : Nat → ClassId) (dI : Nat → Nat → Nat) (h1 : Nat) (cA : ClassId) (N : Nat) (f : Nat → Int32) (v : Int32) (sz : Nat) (hNN : N < 2 ^ 31) : Met l yJ7_fill_53178 wsJ7_fill_53178 ({ frames := 0, cells := 0, slots := 0, locals := 0 }) (va_Pc [.ref h1, .int v] (kPre dC dI [(cA, .int)] [(h1, .inl (cA, N, .inl f))] sz)) (va_Qv (fun (_ : Unit) => True) (fun (_ : Unit) (t : State) => ∃ (f2 : Nat → Int32), (∀ j, j < N → f2 j = v) ∧ kB dC dI (va_A [(h1, .inl (cA, N, .inl f))] sz) [(cA, .int)] [(h1, .inl (cA, N, .inl f2))] t) (va_A [(h1, .inl (cA, N, .inl f))] sz)) 0 0 (va_A [(h1, .inl (cA, N, .inl f))] sz) := by
  refine Met.ofW (cc := cJ7_fill_53178) (maxL := 4) (ret := none) (by decide) rfl ?_
  intro p e s m args below meth c s₁ B hml hv
  obtain ⟨rfl, hsz, hP, hK, hD0, hN⟩ := hv
  have hx := B.exec
  have hb := B.bytes
  have hr := B.returns
  have hts := atoms_spec (ws := wsJ7_fill_53178) B.pre
  have hown : s.vm.findClass RJ7 = some m.cls := findClass_of_methodNamed B.named
  have hlocks := B.notSynchronized
  subst hsz
  have hD := hD0.self (sz := s.heap.size)
  generalize hAe : va_A [(h1, .inl (cA, N, .inl f))] s.heap.size = A at hD ⊢
  have hA : ∀ q : Nat, s.heap.size ≤ q → A q := fun q h => by rw [← hAe]; exact Or.inr h
  have hS : va_S A s.heap s.heap [] := va_S.rf
  have hP : va_P (dC, dI) vwCl [(h1, .inl (cA, N, .inl f))] s.heap := hP
  have hl := lv_entry ([.ref h1, .int v]) (n := 4) (Nat.le_of_ble_eq_true rfl)
  rw [lg_entry_eq]
  generalize (lg_sl ([.ref h1, .int v]) ++ List.replicate (4 - (lg_sl ([.ref h1, .int v])).length) Slot.unset).toArray = ls at hl ⊢
  have hl : lv_has ls 4 [(0, .ref h1), (1, .int v)] := hl
  refine k_gen (fun QQ eQ => ?_)
  refine lv_iconst (v := 0) hx hb dJ7_fill_53178_0 (by decide) ?_
  refine lv_istore_n (lv' := [(2, .int 0), (0, .ref h1), (1, .int v)]) hx hb dJ7_fill_53178_1 rfl hl (by decide) rfl (fun ls hl => ?_)
  refine lv_aload_n hx hb dJ7_fill_53178_2 rfl (lv_at hl 1 rfl) ?_
  refine va_alen hx hb hK hP 0 0 rfl rfl (v := (nI N)) rfl dJ7_fill_53178_3 ?_
  refine lv_istore_n (lv' := [(3, .int (nI N)), (2, .int 0), (0, .ref h1), (1, .int v)]) hx hb dJ7_fill_53178_4 rfl hl (by decide) rfl (fun ls hl => ?_)
  have loop5 : ∀ (n5 : Nat) (i : Nat) (f : Nat → Int32) (H : Heap) (locs : List Loc) (ls : Array Slot), (i ≤ N) → (∀ j, j < i → f j = v) → N - i < n5 → va_P (dC, dI) vwCl [(h1, .inl (cA, N, .inl f))] H → va_D A [(h1, .inl (cA, N, .inl f))] → va_S A s.heap H locs → lv_has ls 4 [(2, .int (nI i)), (0, .ref h1), (1, .int v), (3, .int (nI N))] → W p l e ({ frames := 0, cells := 0, slots := 0, locals := 0 } : Room) s m ([.ref h1, .int v] : List Value).toArray below meth c H locs 0 0 QQ (F0 m 5 ls []) := by
    intro n5
    induction n5 with
    | zero =>
      intro i f H locs ls hi hf hm
      exact absurd hm (Nat.not_lt_zero _)
    | succ n5 ih5 =>
      intro i f H locs ls hi hf hm hP hD hS hl
      refine lv_iload_n hx hb dJ7_fill_53178_5 rfl (lv_at hl 0 rfl) ?_
      refine lv_iload_n hx hb dJ7_fill_53178_6 rfl (lv_at hl 3 rfl) ?_
      refine lv_icmp_ge (tgt := 20) hx hb dJ7_fill_53178_7 (by decide) (fun c_1 => ?_) (fun c_1 => ?_)
      · have hge : N ≤ i := by rcases Nat.lt_or_ge i N with q | q; exact absurd c_1 (nI_ge q hNN); exact q
        subst eQ
        have hP9 := hP.sub (ws' := [(h1, .inl (cA, N, .inl f))]) [0] rfl
        have hD9 := hD.sub (ws' := [(h1, .inl (cA, N, .inl f))]) [0] (by decide) rfl
        have hK9 := hK.sub (tys' := [(cA, .int)]) [0] rfl
        exact W.vret hx hb hr (fun t ht hW => ⟨⟨(), rfl, trivial, f, (fun j h => hf j (by omega)), ⟨by rw [ht]; exact hP9, va_K.moved hW.alike hK9, hD9⟩⟩, hS.F ht⟩) hS.2.2 dJ7_fill_53178_20
      · have hlt : i < N := by rcases Nat.lt_or_ge i N with q | q; exact q; exact absurd (nI_le q (by omega)) c_1
        refine lv_aload_n hx hb dJ7_fill_53178_10 rfl (lv_at hl 1 rfl) ?_
        refine lv_iload_n hx hb dJ7_fill_53178_11 rfl (lv_at hl 0 rfl) ?_
        refine lv_iload_n hx hb dJ7_fill_53178_12 rfl (lv_at hl 2 rfl) ?_
        refine va_iast hx hb hK hP hD hS 0 0 rfl rfl (i := (nI i)) (x := v) (vp_in_nI hlt hNN) dJ7_fill_53178_13 (fun H locs hP hD hS => ?_)
        obtain ⟨f_2, ef_2⟩ : ∃ z : Nat → Int32, z = upd f (Int32.toNatClampNeg (nI i)) v := ⟨_, rfl⟩
        rw [← ef_2] at hP hD
        have hP : va_P (dC, dI) vwCl [(h1, .inl (cA, N, .inl f_2))] H := hP
        have hD : va_D A [(h1, .inl (cA, N, .inl f_2))] := hD
        refine lv_iinc (v := (nI (i + 1))) (lv' := [(2, .int (nI (i + 1))), (0, .ref h1), (1, .int v), (3, .int (nI N))]) hx hb dJ7_fill_53178_14 hl (k := 0) rfl (nI_1 i) (by decide) rfl (fun ls hl => ?_)
        refine lv_goto (tgt := 5) hx hb dJ7_fill_53178_17 (by decide) ?_
        exact ih5 (i + 1) (f_2) _ _ _ hlt (fun j h => by rw [ef_2, nI_clamp (by omega)]; rcases Nat.lt_succ_iff_lt_or_eq.mp h with h | h; exact (pk_un (by omega)).trans (hf j h); rw [h]; exact pk_us) (by omega) (hP.sub [0] rfl) (hD.sub [0] (by decide) rfl) hS (lv_sub hl [0, 1, 2, 3] rfl)
  exact loop5 (N - 0 + 1) (0) (f) _ _ _ (Nat.zero_le _) (fun j h => absurd h (Nat.not_lt_zero j)) (Nat.lt_succ_self _) (hP.sub [0] rfl) (hD.sub [0] (by decide) rfl) hS (lv_sub hl [1, 2, 3, 0] rfl)
