set_option maxHeartbeats 1000000 in
set_option maxRecDepth 100000 in
theorem c_X1_init (l : Launch) (dC : Nat → ClassId) (dI : Nat → Nat → Nat) (h0 : Nat) (sz : Nat)  : Met l yX1_init wsX1_init ({ frames := 1, cells := 9, slots := 1537, locals := 24 }) (va_Pc [.ref h0] (kPre dC dI [] [(h0, .inr (1, [.null, .null, .null, .null, .int 0]))] sz)) (va_Qv (fun (_ : Unit) => True) (fun (_ : Unit) (t : State) => ∃ (qf : Nat) (qk : Nat) (kk : ClassId) (qi : Nat) (ki : ClassId) (qo : Nat) (ko : ClassId), kB dC dI (va_A [(h0, .inr (1, [.null, .null, .null, .null, .int 0]))] sz) [(kk, .int), (ki, .int), (ko, .int)] [(h0, .inr (1, [.ref qf, .ref qk, .ref qi, .ref qo, .int 0])), (qk, .inl (kk, 22, .inl ((fun _ => 0)))), (qi, .inl (ki, 5, .inl ((fun _ => 0)))), (qo, .inl (ko, 5, .inl ((fun _ => 0))))] t) (va_A [(h0, .inr (1, [.null, .null, .null, .null, .int 0]))] sz)) 9 1537 (va_A [(h0, .inr (1, [.null, .null, .null, .null, .int 0]))] sz) := by
  refine Met.ofW (cc := cX1_init) (maxL := 1) (ret := none) (by decide) rfl ?_
  intro p e s m args below meth c s₁ B hml hv
  obtain ⟨rfl, hsz, hP, hK, hD0, hN⟩ := hv
  have hx := B.exec
  have hb := B.bytes
  have hr := B.returns
  have hts := atoms_spec (ws := wsX1_init) B.pre
  have hown : s.vm.findClass RX1 = some m.cls := findClass_of_methodNamed B.named
  have hlocks := B.notSynchronized
  have hin : meth.name = "<init>" := (name_of_methodNamed B.named B.method).1
  have hAO := hN.2.2
  subst hsz
  have hD := hD0.self (sz := s.heap.size)
  generalize hAe : va_A [(h0, .inr (1, [.null, .null, .null, .null, .int 0]))] s.heap.size = A at hD ⊢
  have hA : ∀ q : Nat, s.heap.size ≤ q → A q := fun q h => by rw [← hAe]; exact Or.inr h
  have hS : va_S A s.heap s.heap [] := va_S.rf
  have hP : va_P (dC, dI) vwCl [(h0, .inr (1, [.null, .null, .null, .null, .int 0]))] s.heap := hP
  have hinX1 : ∀ w ∈ wsX10, w ∈ wsX1_init := fun _ h => List.mem_cons_of_mem _ (List.mem_append_right _ h)
  have hl := lv_entry ([.ref h0]) (n := 1) (Nat.le_of_ble_eq_true rfl)
  rw [lg_entry_eq]
  generalize (lg_sl ([.ref h0]) ++ List.replicate (1 - (lg_sl ([.ref h0])).length) Slot.unset).toArray = ls at hl ⊢
  have hl : lv_has ls 1 [(0, .ref h0)] := hl
  refine lv_aload_n hx hb dX1_init_0 rfl (lv_at hl 0 rfl) ?_
  refine W.objInit hx hb hown (hts (.methodLink RX1 3 objectInit) (List.mem_of_getElem? (i := 1) rfl)) (hts (.instanceMethod objectInit) (List.mem_of_getElem? (i := 2) rfl)) (hts (.code objectInit ⟨#[0xb1]⟩ 1 none) (List.mem_of_getElem? (i := 3) rfl)) rfl (by rw [hml]; exact hl.1) rfl dX1_init_1 (Nat.le_of_ble_eq_true rfl) (Nat.le_of_ble_eq_true rfl) ?_
  refine W.eq (g2 := F0 m 4 ls []) rfl ?_
  refine lv_aload_n hx hb dX1_init_4 rfl (lv_at hl 0 rfl) ?_
  refine lv_iconst (v := 5) hx hb dX1_init_5 (by decide) ?_
  refine lv_sipush (v := 300) hx hb dX1_init_6 (by decide) ?_
  obtain ⟨cy_2, _, _, hcy_2, -⟩ := Cond.arrayClass_spec (hts (.arrayClass .int) (List.mem_of_getElem? (i := 5) rfl))
  refine va_mna (X := [(h0, .inr (1, [.null, .null, .null, .null, .int 0]))]) (L := []) (f := fun _ => .inr (0, [])) (ty := .int) (cy := cy_2) (z := (300, .inl (fun _ => 0))) (N' := 5) (K' := 300) hx hb hown (hts (.classLink RX1 11 "[[I") (List.mem_of_getElem? (i := 4) rfl)) hAO (hts (.arrayClass .int) (List.mem_of_getElem? (i := 5) rfl)) hcy_2 hK hP hD hS hA (by decide +kernel) (by decide +kernel) (by decide +kernel) (by decide +kernel) (by decide +kernel) (by decide +kernel) (by decide +kernel) rfl rfl (by decide +kernel) (by decide +kernel) (fun c9 => k_inner c9 300) dX1_init_9 (fun q_1 r9 cA9 H hr9 hr9b hK hP hD hS => ?_)
  have hP := hP.sub (ws' := [(h0, .inr (1, [.null, .null, .null, .null, .int 0]))]) [0] rfl
  have hD := hD.sub (ws' := [(h0, .inr (1, [.null, .null, .null, .null, .int 0]))]) [0] (by decide) rfl
  have hK := hK.sub (tys' := []) [] rfl
  refine W.widen (k := 6) (n := 1505) (by decide +kernel) (by decide +kernel) ?_
  refine va_putF (D := (dC, dI)) (ci := 1) (v := .ref q_1) (ty := .array (.array .int)) (C := RX1) (T := TX1) (N := 5) hx hb hts hinX1 tyX1 tyX1_ok nmX1 hown hK hP hD hS 0 rfl rfl 0 (by decide) (hts (.fieldLink RX1 13 "CensusDesk$Failures" "facts" "[[I") (List.mem_of_getElem? (i := 6) rfl)) (fun _ h9 => h9) rfl hin rfl (by decide +kernel) rfl rfl (Nat.le_of_ble_eq_true rfl) dX1_init_13 (fun H locs hP hD hS => ?_)
  have hP : va_P (dC, dI) vwCl [(h0, .inr (1, [.ref q_1, .null, .null, .null, .int 0]))] H := hP
  have hD : va_D A [(h0, .inr (1, [.ref q_1, .null, .null, .null, .int 0]))] := hD
  refine lv_aload_n hx hb dX1_init_16 rfl (lv_at hl 0 rfl) ?_
  refine lv_bipush (v := 22) hx hb dX1_init_17 (by decide) ?_
  refine va_newa (atype := .int) (a0 := (22, .inl (fun _ => 0))) (ty := .int) (N' := 22) hx hb (hts (.arrayClass .int) (List.mem_of_getElem? (i := 5) rfl)) rfl hK hP hD hS hA (fun c9 => k_cellI c9 22) (by decide +kernel) (by decide +kernel) (by decide +kernel) (by decide +kernel) (by decide +kernel) dX1_init_19 (fun q_3 k_4 H hK hP hD hS => ?_)
  have hP : va_P (dC, dI) vwCl [(h0, .inr (1, [.ref q_1, .null, .null, .null, .int 0])), (q_3, .inl (k_4, 22, .inl ((fun _ => 0))))] H := hP
  have hD : va_D A [(h0, .inr (1, [.ref q_1, .null, .null, .null, .int 0])), (q_3, .inl (k_4, 22, .inl ((fun _ => 0))))] := hD
  have hK : va_K (dC, dI) vwCl [(k_4, .int)] s := hK
  refine W.widen (k := 7) (n := 1527) (by decide +kernel) (by decide +kernel) ?_
  refine va_putF (D := (dC, dI)) (ci := 1) (v := .ref q_3) (ty := .array .int) (C := RX1) (T := TX1) (N := 5) hx hb hts hinX1 tyX1 tyX1_ok nmX1 hown hK hP hD hS 0 rfl rfl 1 (by decide) (hts (.fieldLink RX1 16 "CensusDesk$Failures" "byKind" "[I") (List.mem_of_getElem? (i := 7) rfl)) (fun _ h9 => h9) rfl hin rfl (by decide +kernel) rfl rfl (Nat.le_of_ble_eq_true rfl) dX1_init_21 (fun H locs hP hD hS => ?_)
  have hP : va_P (dC, dI) vwCl [(h0, .inr (1, [.ref q_1, .ref q_3, .null, .null, .int 0])), (q_3, .inl (k_4, 22, .inl ((fun _ => 0))))] H := hP
  have hD : va_D A [(h0, .inr (1, [.ref q_1, .ref q_3, .null, .null, .int 0])), (q_3, .inl (k_4, 22, .inl ((fun _ => 0))))] := hD
  refine lv_aload_n hx hb dX1_init_24 rfl (lv_at hl 0 rfl) ?_
  refine lv_iconst (v := 5) hx hb dX1_init_25 (by decide) ?_
  refine va_newa (atype := .int) (a0 := (5, .inl (fun _ => 0))) (ty := .int) (N' := 5) hx hb (hts (.arrayClass .int) (List.mem_of_getElem? (i := 5) rfl)) rfl hK hP hD hS hA (fun c9 => k_cellI c9 5) (by decide +kernel) (by decide +kernel) (by decide +kernel) (by decide +kernel) (by decide +kernel) dX1_init_26 (fun q_5 k_6 H hK hP hD hS => ?_)
  have hP : va_P (dC, dI) vwCl [(h0, .inr (1, [.ref q_1, .ref q_3, .null, .null, .int 0])), (q_3, .inl (k_4, 22, .inl ((fun _ => 0)))), (q_5, .inl (k_6, 5, .inl ((fun _ => 0))))] H := hP
  have hD : va_D A [(h0, .inr (1, [.ref q_1, .ref q_3, .null, .null, .int 0])), (q_3, .inl (k_4, 22, .inl ((fun _ => 0)))), (q_5, .inl (k_6, 5, .inl ((fun _ => 0))))] := hD
  have hK : va_K (dC, dI) vwCl [(k_4, .int), (k_6, .int)] s := hK
  refine W.widen (k := 8) (n := 1532) (by decide +kernel) (by decide +kernel) ?_
  refine va_putF (D := (dC, dI)) (ci := 1) (v := .ref q_5) (ty := .array .int) (C := RX1) (T := TX1) (N := 5) hx hb hts hinX1 tyX1 tyX1_ok nmX1 hown hK hP hD hS 0 rfl rfl 2 (by decide) (hts (.fieldLink RX1 20 "CensusDesk$Failures" "firstInHousehold" "[I") (List.mem_of_getElem? (i := 8) rfl)) (fun _ h9 => h9) rfl hin rfl (by decide +kernel) rfl rfl (Nat.le_of_ble_eq_true rfl) dX1_init_28 (fun H locs hP hD hS => ?_)
  have hP : va_P (dC, dI) vwCl [(h0, .inr (1, [.ref q_1, .ref q_3, .ref q_5, .null, .int 0])), (q_3, .inl (k_4, 22, .inl ((fun _ => 0)))), (q_5, .inl (k_6, 5, .inl ((fun _ => 0))))] H := hP
  have hD : va_D A [(h0, .inr (1, [.ref q_1, .ref q_3, .ref q_5, .null, .int 0])), (q_3, .inl (k_4, 22, .inl ((fun _ => 0)))), (q_5, .inl (k_6, 5, .inl ((fun _ => 0))))] := hD
  refine lv_aload_n hx hb dX1_init_31 rfl (lv_at hl 0 rfl) ?_
  refine lv_iconst (v := 5) hx hb dX1_init_32 (by decide) ?_
  refine va_newa (atype := .int) (a0 := (5, .inl (fun _ => 0))) (ty := .int) (N' := 5) hx hb (hts (.arrayClass .int) (List.mem_of_getElem? (i := 5) rfl)) rfl hK hP hD hS hA (fun c9 => k_cellI c9 5) (by decide +kernel) (by decide +kernel) (by decide +kernel) (by decide +kernel) (by decide +kernel) dX1_init_33 (fun q_7 k_8 H hK hP hD hS => ?_)
  have hP : va_P (dC, dI) vwCl [(h0, .inr (1, [.ref q_1, .ref q_3, .ref q_5, .null, .int 0])), (q_3, .inl (k_4, 22, .inl ((fun _ => 0)))), (q_5, .inl (k_6, 5, .inl ((fun _ => 0)))), (q_7, .inl (k_8, 5, .inl ((fun _ => 0))))] H := hP
  have hD : va_D A [(h0, .inr (1, [.ref q_1, .ref q_3, .ref q_5, .null, .int 0])), (q_3, .inl (k_4, 22, .inl ((fun _ => 0)))), (q_5, .inl (k_6, 5, .inl ((fun _ => 0)))), (q_7, .inl (k_8, 5, .inl ((fun _ => 0))))] := hD
  have hK : va_K (dC, dI) vwCl [(k_4, .int), (k_6, .int), (k_8, .int)] s := hK
  refine W.widen (k := 9) (n := 1537) (by decide +kernel) (by decide +kernel) ?_
  refine va_putF (D := (dC, dI)) (ci := 1) (v := .ref q_7) (ty := .array .int) (C := RX1) (T := TX1) (N := 5) hx hb hts hinX1 tyX1 tyX1_ok nmX1 hown hK hP hD hS 0 rfl rfl 3 (by decide) (hts (.fieldLink RX1 23 "CensusDesk$Failures" "firstOutside" "[I") (List.mem_of_getElem? (i := 9) rfl)) (fun _ h9 => h9) rfl hin rfl (by decide +kernel) rfl rfl (Nat.le_of_ble_eq_true rfl) dX1_init_35 (fun H locs hP hD hS => ?_)
  have hP : va_P (dC, dI) vwCl [(h0, .inr (1, [.ref q_1, .ref q_3, .ref q_5, .ref q_7, .int 0])), (q_3, .inl (k_4, 22, .inl ((fun _ => 0)))), (q_5, .inl (k_6, 5, .inl ((fun _ => 0)))), (q_7, .inl (k_8, 5, .inl ((fun _ => 0))))] H := hP
  have hD : va_D A [(h0, .inr (1, [.ref q_1, .ref q_3, .ref q_5, .ref q_7, .int 0])), (q_3, .inl (k_4, 22, .inl ((fun _ => 0)))), (q_5, .inl (k_6, 5, .inl ((fun _ => 0)))), (q_7, .inl (k_8, 5, .inl ((fun _ => 0))))] := hD
  have hP9 := hP.sub (ws' := [(h0, .inr (1, [.ref q_1, .ref q_3, .ref q_5, .ref q_7, .int 0])), (q_3, .inl (k_4, 22, .inl ((fun _ => 0)))), (q_5, .inl (k_6, 5, .inl ((fun _ => 0)))), (q_7, .inl (k_8, 5, .inl ((fun _ => 0))))]) [0, 1, 2, 3] rfl
  have hD9 := hD.sub (ws' := [(h0, .inr (1, [.ref q_1, .ref q_3, .ref q_5, .ref q_7, .int 0])), (q_3, .inl (k_4, 22, .inl ((fun _ => 0)))), (q_5, .inl (k_6, 5, .inl ((fun _ => 0)))), (q_7, .inl (k_8, 5, .inl ((fun _ => 0))))]) [0, 1, 2, 3] (by decide) rfl
  have hK9 := hK.sub (tys' := [(k_4, .int), (k_6, .int), (k_8, .int)]) [0, 1, 2] rfl
  exact W.vret hx hb hr (fun t ht hW => ⟨⟨(), rfl, trivial, q_1, q_3, k_4, q_5, k_6, q_7, k_8, ⟨by rw [ht]; exact hP9, va_K.moved hW.alike hK9, hD9⟩⟩, hS.F ht⟩) hS.2.2 dX1_init_38
set_option maxHeartbeats 1000000 in
set_option maxRecDepth 100000 in
theorem c_X1_forgetHousehold (l : Launch) (dC : Nat → ClassId) (dI : Nat → Nat → Nat) (h0 h1 h2 h3 h4 : Nat) (k3 : ClassId) (f3 : Nat → Int32) (sz : Nat)  : Met l yX1_forgetHousehold wsX1_forgetHousehold ({ frames := 1, cells := 0, slots := 0, locals := 23 }) (va_Pc [.ref h0] (kPre dC dI [(k3, .int)] [(h0, .inr (1, [.ref h1, .ref h2, .ref h3, .ref h4, .int 0])), (h3, .inl (k3, 5, .inl f3))] sz)) (va_Qv (fun (_ : Unit) => True) (fun (_ : Unit) (_ : State) => True) (va_A [(h0, .inr (1, [.ref h1, .ref h2, .ref h3, .ref h4, .int 0])), (h3, .inl (k3, 5, .inl f3))] sz)) 0 0 (va_A [(h0, .inr (1, [.ref h1, .ref h2, .ref h3, .ref h4, .int 0])), (h3, .inl (k3, 5, .inl f3))] sz) := by
  refine Met.ofW (cc := cX1_forgetHousehold) (maxL := 1) (ret := none) (by decide) rfl ?_
  intro p e s m args below meth c s₁ B hml hv
  obtain ⟨rfl, hsz, hP, hK, hD0, hN⟩ := hv
  have hx := B.exec
  have hb := B.bytes
  have hr := B.returns
  have hts := atoms_spec (ws := wsX1_forgetHousehold) B.pre
  have hown : s.vm.findClass RX1 = some m.cls := findClass_of_methodNamed B.named
  have hlocks := B.notSynchronized
  subst hsz
  have hD := hD0.self (sz := s.heap.size)
  generalize hAe : va_A [(h0, .inr (1, [.ref h1, .ref h2, .ref h3, .ref h4, .int 0])), (h3, .inl (k3, 5, .inl f3))] s.heap.size = A at hD ⊢
  have hA : ∀ q : Nat, s.heap.size ≤ q → A q := fun q h => by rw [← hAe]; exact Or.inr h
  have hS : va_S A s.heap s.heap [] := va_S.rf
  have hP : va_P (dC, dI) vwCl [(h0, .inr (1, [.ref h1, .ref h2, .ref h3, .ref h4, .int 0])), (h3, .inl (k3, 5, .inl f3))] s.heap := hP
  have hinX1 : ∀ w ∈ wsX10, w ∈ wsX1_forgetHousehold := fun _ h => List.mem_cons_of_mem _ (List.mem_append_right _ h)
  have hl := lv_entry ([.ref h0]) (n := 1) (Nat.le_of_ble_eq_true rfl)
  rw [lg_entry_eq]
  generalize (lg_sl ([.ref h0]) ++ List.replicate (1 - (lg_sl ([.ref h0])).length) Slot.unset).toArray = ls at hl ⊢
  have hl : lv_has ls 1 [(0, .ref h0)] := hl
  refine lv_aload_n hx hb dX1_forgetHousehold_0 rfl (lv_at hl 0 rfl) ?_
  refine va_get (D := (dC, dI)) (ci := 1) (v := .ref h3) (C := RX1) (T := TX1) (N := 5) hx hb hts hinX1 hown hK hP 0 rfl rfl 2 (by decide) (hts (.fieldLink RX1 20 "CensusDesk$Failures" "firstInHousehold" "[I") (List.mem_of_getElem? (i := 1) rfl)) (fun _ h9 => h9) rfl dX1_forgetHousehold_1 ?_
  refine lv_iconst (v := (-1)) hx hb dX1_forgetHousehold_4 (by decide) ?_
  have hPc := hP.sub (ws' := [(h3, .inl (k3, 5, .inl f3))]) [1] rfl
  have hDc := hD.sub (ws' := [(h3, .inl (k3, 5, .inl f3))]) [1] (by decide) rfl
  have hKc := hK.sub (tys' := [(k3, .int)]) [0] rfl
  have hFc := va_free (wc := [(h3, .inl (k3, 5, .inl f3))]) hD hS hA [1] rfl
  refine va_callv (va_runS (As := [.ref h3, .int (-1)]) (rest := []) ⟨hx, hb, hml, hown, hts⟩ (c_fill l dC dI h3 k3 5 f3 (-1) _ (by decide)) (va_cwS 2 hts gX1_forgetHousehold_J7_fill_53178 rfl rfl rfl (by decide +kernel) ⟨Nat.le_of_ble_eq_true rfl, Nat.le_of_ble_eq_true rfl⟩) (kPreS hPc hKc hDc hN) rfl rfl hl.1 rfl (lv_room (Nat.le_of_ble_eq_true rfl)) dX1_forgetHousehold_5 ⟨(by decide +kernel), (by decide +kernel)⟩) hS (fun q _ h => hFc q h) hFc (fun u t H1 locs ht hvm hw hB hz1 hk1 hS => ?_)
  obtain ⟨f2_2, hf_3, hB⟩ := hB
  obtain ⟨hP, hD, hK⟩ := kJoin (wc := [(h3, .inl (k3, 5, .inl f3))]) (wr := [(h0, .inr (1, [.ref h1, .ref h2, .ref h3, .ref h4, .int 0]))]) (w1 := [(h3, .inl (k3, 5, .inl f2_2))]) hP hD hK [1] [0] rfl rfl (by decide) (by decide) hk1 hFc ht hvm hB
  have hK : va_K (dC, dI) vwCl [(k3, .int), (k3, .int)] s := hK
  have hK := hK.sub (tys' := [(k3, .int)]) [1] rfl
  generalize H1 = H at hP hS ⊢
  have hP : va_P (dC, dI) vwCl [(h0, .inr (1, [.ref h1, .ref h2, .ref h3, .ref h4, .int 0])), (h3, .inl (k3, 5, .inl f2_2))] H := hP
  have hD : va_D A [(h0, .inr (1, [.ref h1, .ref h2, .ref h3, .ref h4, .int 0])), (h3, .inl (k3, 5, .inl f2_2))] := hD
  try dsimp only at hw
  exact W.vret hx hb hr (fun t ht hW => ⟨⟨(), rfl, trivial, trivial⟩, hS.F ht⟩) hS.2.2 dX1_forgetHousehold_8
set_option maxHeartbeats 1000000 in
set_option maxRecDepth 100000 in
theorem c_X1_forget (l : Launch) (dC : Nat → ClassId) (dI : Nat → Nat → Nat) (h0 h1 h2 h3 h4 : Nat) (k2 k3 k4 : ClassId) (f2 f3 f4 : Nat → Int32) (sz : Nat)  : Met l yX1_forget wsX1_forget ({ frames := 2, cells := 0, slots := 0, locals := 43 }) (va_Pc [.ref h0] (kPre dC dI [(k2, .int), (k3, .int), (k4, .int)] [(h0, .inr (1, [.ref h1, .ref h2, .ref h3, .ref h4, .int 0])), (h2, .inl (k2, 22, .inl f2)), (h3, .inl (k3, 5, .inl f3)), (h4, .inl (k4, 5, .inl f4))] sz)) (va_Qv (fun (_ : Unit) => True) (fun (_ : Unit) (_ : State) => True) (va_A [(h0, .inr (1, [.ref h1, .ref h2, .ref h3, .ref h4, .int 0])), (h2, .inl (k2, 22, .inl f2)), (h3, .inl (k3, 5, .inl f3)), (h4, .inl (k4, 5, .inl f4))] sz)) 0 0 (va_A [(h0, .inr (1, [.ref h1, .ref h2, .ref h3, .ref h4, .int 0])), (h2, .inl (k2, 22, .inl f2)), (h3, .inl (k3, 5, .inl f3)), (h4, .inl (k4, 5, .inl f4))] sz) := by
  refine Met.ofW (cc := cX1_forget) (maxL := 1) (ret := none) (by decide) rfl ?_
  intro p e s m args below meth c s₁ B hml hv
  obtain ⟨rfl, hsz, hP, hK, hD0, hN⟩ := hv
  have hx := B.exec
  have hb := B.bytes
  have hr := B.returns
  have hts := atoms_spec (ws := wsX1_forget) B.pre
  have hown : s.vm.findClass RX1 = some m.cls := findClass_of_methodNamed B.named
  have hlocks := B.notSynchronized
  subst hsz
  have hD := hD0.self (sz := s.heap.size)
  generalize hAe : va_A [(h0, .inr (1, [.ref h1, .ref h2, .ref h3, .ref h4, .int 0])), (h2, .inl (k2, 22, .inl f2)), (h3, .inl (k3, 5, .inl f3)), (h4, .inl (k4, 5, .inl f4))] s.heap.size = A at hD ⊢
  have hA : ∀ q : Nat, s.heap.size ≤ q → A q := fun q h => by rw [← hAe]; exact Or.inr h
  have hS : va_S A s.heap s.heap [] := va_S.rf
  have hP : va_P (dC, dI) vwCl [(h0, .inr (1, [.ref h1, .ref h2, .ref h3, .ref h4, .int 0])), (h2, .inl (k2, 22, .inl f2)), (h3, .inl (k3, 5, .inl f3)), (h4, .inl (k4, 5, .inl f4))] s.heap := hP
  have hinX1 : ∀ w ∈ wsX10, w ∈ wsX1_forget := fun _ h => List.mem_cons_of_mem _ (List.mem_append_right _ h)
  have hl := lv_entry ([.ref h0]) (n := 1) (Nat.le_of_ble_eq_true rfl)
  rw [lg_entry_eq]
  generalize (lg_sl ([.ref h0]) ++ List.replicate (1 - (lg_sl ([.ref h0])).length) Slot.unset).toArray = ls at hl ⊢
  have hl : lv_has ls 1 [(0, .ref h0)] := hl
  refine lv_aload_n hx hb dX1_forget_0 rfl (lv_at hl 0 rfl) ?_
  refine lv_iconst (v := 0) hx hb dX1_forget_1 (by decide) ?_
  refine va_put (D := (dC, dI)) (ci := 1) (v := .int 0) (ty := .int) (C := RX1) (T := TX1) (N := 5) hx hb hts hinX1 tyX1 tyX1_ok nmX1 hown hK hP hD hS 0 rfl rfl 4 (by decide) (hts (.fieldLink RX1 26 "CensusDesk$Failures" "count" "I") (List.mem_of_getElem? (i := 1) rfl)) (fun _ h9 => h9) rfl (by decide +kernel) rfl rfl (Nat.le_of_ble_eq_true rfl) dX1_forget_2 (fun H locs hP hD hS => ?_)
  have hP : va_P (dC, dI) vwCl [(h0, .inr (1, [.ref h1, .ref h2, .ref h3, .ref h4, .int 0])), (h2, .inl (k2, 22, .inl f2)), (h3, .inl (k3, 5, .inl f3)), (h4, .inl (k4, 5, .inl f4))] H := hP
  have hD : va_D A [(h0, .inr (1, [.ref h1, .ref h2, .ref h3, .ref h4, .int 0])), (h2, .inl (k2, 22, .inl f2)), (h3, .inl (k3, 5, .inl f3)), (h4, .inl (k4, 5, .inl f4))] := hD
  refine lv_aload_n hx hb dX1_forget_5 rfl (lv_at hl 0 rfl) ?_
  refine va_get (D := (dC, dI)) (ci := 1) (v := .ref h2) (C := RX1) (T := TX1) (N := 5) hx hb hts hinX1 hown hK hP 0 rfl rfl 1 (by decide) (hts (.fieldLink RX1 16 "CensusDesk$Failures" "byKind" "[I") (List.mem_of_getElem? (i := 2) rfl)) (fun _ h9 => h9) rfl dX1_forget_6 ?_
  refine lv_iconst (v := 0) hx hb dX1_forget_9 (by decide) ?_
  have hPc := hP.sub (ws' := [(h2, .inl (k2, 22, .inl f2))]) [1] rfl
  have hDc := hD.sub (ws' := [(h2, .inl (k2, 22, .inl f2))]) [1] (by decide) rfl
  have hKc := hK.sub (tys' := [(k2, .int)]) [0] rfl
  have hFc := va_free (wc := [(h2, .inl (k2, 22, .inl f2))]) hD hS hA [1] rfl
  refine va_callv (va_runS (As := [.ref h2, .int 0]) (rest := []) ⟨hx, hb, hml, hown, hts⟩ (c_fill l dC dI h2 k2 22 f2 0 _ (by decide)) (va_cwS 2 hts gX1_forget_J7_fill_53178 rfl rfl rfl (by decide +kernel) ⟨Nat.le_of_ble_eq_true rfl, Nat.le_of_ble_eq_true rfl⟩) (kPreS hPc hKc hDc hN) rfl rfl hl.1 rfl (lv_room (Nat.le_of_ble_eq_true rfl)) dX1_forget_10 ⟨(by decide +kernel), (by decide +kernel)⟩) hS (fun q _ h => hFc q h) hFc (fun u t H1 locs ht hvm hw hB hz1 hk1 hS => ?_)
  obtain ⟨f2_2, hf_3, hB⟩ := hB
  obtain ⟨hP, hD, hK⟩ := kJoin (wc := [(h2, .inl (k2, 22, .inl f2))]) (wr := [(h0, .inr (1, [.ref h1, .ref h2, .ref h3, .ref h4, .int 0])), (h3, .inl (k3, 5, .inl f3)), (h4, .inl (k4, 5, .inl f4))]) (w1 := [(h2, .inl (k2, 22, .inl f2_2))]) hP hD hK [1] [0, 2, 3] rfl rfl (by decide) (by decide) hk1 hFc ht hvm hB
  have hK : va_K (dC, dI) vwCl [(k2, .int), (k3, .int), (k4, .int), (k2, .int)] s := hK
  have hK := hK.sub (tys' := [(k3, .int), (k4, .int), (k2, .int)]) [1, 2, 3] rfl
  generalize H1 = H at hP hS ⊢
  have hP : va_P (dC, dI) vwCl [(h0, .inr (1, [.ref h1, .ref h2, .ref h3, .ref h4, .int 0])), (h3, .inl (k3, 5, .inl f3)), (h4, .inl (k4, 5, .inl f4)), (h2, .inl (k2, 22, .inl f2_2))] H := hP
  have hD : va_D A [(h0, .inr (1, [.ref h1, .ref h2, .ref h3, .ref h4, .int 0])), (h3, .inl (k3, 5, .inl f3)), (h4, .inl (k4, 5, .inl f4)), (h2, .inl (k2, 22, .inl f2_2))] := hD
  try dsimp only at hw
  refine lv_aload_n hx hb dX1_forget_13 rfl (lv_at hl 0 rfl) ?_
  refine va_get (D := (dC, dI)) (ci := 1) (v := .ref h4) (C := RX1) (T := TX1) (N := 5) hx hb hts hinX1 hown hK hP 0 rfl rfl 3 (by decide) (hts (.fieldLink RX1 23 "CensusDesk$Failures" "firstOutside" "[I") (List.mem_of_getElem? (i := 3) rfl)) (fun _ h9 => h9) rfl dX1_forget_14 ?_
  refine lv_iconst (v := (-1)) hx hb dX1_forget_17 (by decide) ?_
  have hPc := hP.sub (ws' := [(h4, .inl (k4, 5, .inl f4))]) [2] rfl
  have hDc := hD.sub (ws' := [(h4, .inl (k4, 5, .inl f4))]) [2] (by decide) rfl
  have hKc := hK.sub (tys' := [(k4, .int)]) [1] rfl
  have hFc := va_free (wc := [(h4, .inl (k4, 5, .inl f4))]) hD hS hA [2] rfl
  refine va_callv (va_runS (As := [.ref h4, .int (-1)]) (rest := []) ⟨hx, hb, hml, hown, hts⟩ (c_fill l dC dI h4 k4 5 f4 (-1) _ (by decide)) (va_cwS 2 hts gX1_forget_J7_fill_53178 rfl rfl rfl (by decide +kernel) ⟨Nat.le_of_ble_eq_true rfl, Nat.le_of_ble_eq_true rfl⟩) (kPreS hPc hKc hDc hN) rfl rfl hl.1 rfl (lv_room (Nat.le_of_ble_eq_true rfl)) dX1_forget_18 ⟨(by decide +kernel), (by decide +kernel)⟩) hS (fun q _ h => hFc q h) hFc (fun u t H1 locs ht hvm hw hB hz1 hk1 hS => ?_)
  obtain ⟨f2_5, hf_6, hB⟩ := hB
  obtain ⟨hP, hD, hK⟩ := kJoin (wc := [(h4, .inl (k4, 5, .inl f4))]) (wr := [(h0, .inr (1, [.ref h1, .ref h2, .ref h3, .ref h4, .int 0])), (h3, .inl (k3, 5, .inl f3)), (h2, .inl (k2, 22, .inl f2_2))]) (w1 := [(h4, .inl (k4, 5, .inl f2_5))]) hP hD hK [2] [0, 1, 3] rfl rfl (by decide) (by decide) hk1 hFc ht hvm hB
  have hK : va_K (dC, dI) vwCl [(k3, .int), (k4, .int), (k2, .int), (k4, .int)] s := hK
  have hK := hK.sub (tys' := [(k3, .int), (k2, .int), (k4, .int)]) [0, 2, 3] rfl
  generalize H1 = H at hP hS ⊢
  have hP : va_P (dC, dI) vwCl [(h0, .inr (1, [.ref h1, .ref h2, .ref h3, .ref h4, .int 0])), (h3, .inl (k3, 5, .inl f3)), (h2, .inl (k2, 22, .inl f2_2)), (h4, .inl (k4, 5, .inl f2_5))] H := hP
  have hD : va_D A [(h0, .inr (1, [.ref h1, .ref h2, .ref h3, .ref h4, .int 0])), (h3, .inl (k3, 5, .inl f3)), (h2, .inl (k2, 22, .inl f2_2)), (h4, .inl (k4, 5, .inl f2_5))] := hD
  try dsimp only at hw
  refine lv_aload_n hx hb dX1_forget_21 rfl (lv_at hl 0 rfl) ?_
  have hPc := hP.sub (ws' := [(h0, .inr (1, [.ref h1, .ref h2, .ref h3, .ref h4, .int 0])), (h3, .inl (k3, 5, .inl f3))]) [0, 1] rfl
  have hDc := hD.sub (ws' := [(h0, .inr (1, [.ref h1, .ref h2, .ref h3, .ref h4, .int 0])), (h3, .inl (k3, 5, .inl f3))]) [0, 1] (by decide) rfl
  have hKc := hK.sub (tys' := [(k3, .int)]) [0] rfl
  have hFc := va_free (wc := [(h0, .inr (1, [.ref h1, .ref h2, .ref h3, .ref h4, .int 0])), (h3, .inl (k3, 5, .inl f3))]) hD hS hA [0, 1] rfl
  refine va_callv (va_runV (As := []) (rest := []) ⟨hx, hb, hml, hown, hts⟩ (c_X1_forgetHousehold l dC dI h0 h1 h2 h3 h4 k3 f3 _ ) (cwV 0 hts gX1_forget_X1_forgetHousehold rfl rfl rfl (by decide +kernel) ⟨Nat.le_of_ble_eq_true rfl, Nat.le_of_ble_eq_true rfl⟩) (kPreV hPc hKc hDc hN (va_recv hKc hPc (ci := 1) (q0 := 0) rfl rfl)) rfl rfl hl.1 rfl (lv_room (Nat.le_of_ble_eq_true rfl)) dX1_forget_22 ⟨(by decide +kernel), (by decide +kernel)⟩) hS (fun q _ h => hFc q h) hFc (fun u t H1 locs ht hvm hw hB hz1 hk1 hS => ?_)
  obtain ⟨hP, hD⟩ := kRest (wc := [(h0, .inr (1, [.ref h1, .ref h2, .ref h3, .ref h4, .int 0])), (h3, .inl (k3, 5, .inl f3))]) (wr := [(h2, .inl (k2, 22, .inl f2_2)), (h4, .inl (k4, 5, .inl f2_5))]) hP hD [0, 1] [2, 3] rfl rfl (by decide) (by decide) hk1 hFc
  have hK := hK.sub (tys' := [(k2, .int), (k4, .int)]) [1, 2] rfl
  generalize H1 = H at hP hS ⊢
  have hP : va_P (dC, dI) vwCl [(h2, .inl (k2, 22, .inl f2_2)), (h4, .inl (k4, 5, .inl f2_5))] H := hP
  have hD : va_D A [(h2, .inl (k2, 22, .inl f2_2)), (h4, .inl (k4, 5, .inl f2_5))] := hD
  try dsimp only at hw
  exact W.vret hx hb hr (fun t ht hW => ⟨⟨(), rfl, trivial, trivial⟩, hS.F ht⟩) hS.2.2 dX1_forget_25
set_option maxHeartbeats 1000000 in
set_option maxRecDepth 100000 in
theorem c_X1_isKept (l : Launch) (dC : Nat → ClassId) (dI : Nat → Nat → Nat) (h0 h1 h2 h3 h4 : Nat) (i : Int32) (sz : Nat)  : Met l yX1_isKept wsX1_isKept ({ frames := 0, cells := 0, slots := 0, locals := 0 }) (va_Pc [.ref h0, .int i] (kPre dC dI [] [(h0, .inr (1, [.ref h1, .ref h2, .ref h3, .ref h4, .int 0]))] sz)) (va_Qi (fun (r : Int32) (_ : Unit) => r = 0) (fun (_ : Unit) (t : State) => kB dC dI (va_A [(h0, .inr (1, [.ref h1, .ref h2, .ref h3, .ref h4, .int 0]))] sz) [] [(h0, .inr (1, [.ref h1, .ref h2, .ref h3, .ref h4, .int 0]))] t) (va_A [(h0, .inr (1, [.ref h1, .ref h2, .ref h3, .ref h4, .int 0]))] sz)) 0 0 (va_A [(h0, .inr (1, [.ref h1, .ref h2, .ref h3, .ref h4, .int 0]))] sz) := by
  refine Met.ofW (cc := cX1_isKept) (maxL := 2) (ret := (some .boolean)) (by decide) rfl ?_
  intro p e s m args below meth c s₁ B hml hv
  obtain ⟨rfl, hsz, hP, hK, hD0, hN⟩ := hv
  have hx := B.exec
  have hb := B.bytes
  have hr := B.returns
  have hts := atoms_spec (ws := wsX1_isKept) B.pre
  have hown : s.vm.findClass RX1 = some m.cls := findClass_of_methodNamed B.named
  have hlocks := B.notSynchronized
  subst hsz
  have hD := hD0.self (sz := s.heap.size)
  generalize hAe : va_A [(h0, .inr (1, [.ref h1, .ref h2, .ref h3, .ref h4, .int 0]))] s.heap.size = A at hD ⊢
  have hA : ∀ q : Nat, s.heap.size ≤ q → A q := fun q h => by rw [← hAe]; exact Or.inr h
  have hS : va_S A s.heap s.heap [] := va_S.rf
  have hP : va_P (dC, dI) vwCl [(h0, .inr (1, [.ref h1, .ref h2, .ref h3, .ref h4, .int 0]))] s.heap := hP
  have hinX1 : ∀ w ∈ wsX10, w ∈ wsX1_isKept := fun _ h => List.mem_cons_of_mem _ (List.mem_append_right _ h)
  have hl := lv_entry ([.ref h0, .int i]) (n := 2) (Nat.le_of_ble_eq_true rfl)
  rw [lg_entry_eq]
  generalize (lg_sl ([.ref h0, .int i]) ++ List.replicate (2 - (lg_sl ([.ref h0, .int i])).length) Slot.unset).toArray = ls at hl ⊢
  have hl : lv_has ls 2 [(0, .ref h0), (1, .int i)] := hl
  refine lv_iload_n hx hb dX1_isKept_0 rfl (lv_at hl 1 rfl) ?_
  refine lv_if_lt (tgt := 23) hx hb dX1_isKept_1 (by decide) (fun c_1 => ?_) (fun c_1 => ?_)
  · refine lv_iconst (v := 0) hx hb dX1_isKept_23 (by decide) ?_
    have hP9 := hP.sub (ws' := [(h0, .inr (1, [.ref h1, .ref h2, .ref h3, .ref h4, .int 0]))]) [0] rfl
    have hD9 := hD.sub (ws' := [(h0, .inr (1, [.ref h1, .ref h2, .ref h3, .ref h4, .int 0]))]) [0] (by decide) rfl
    have hK9 := hK.sub (tys' := []) [] rfl
    exact W.zret (v := 0) hx hb hr (by first | rfl | decide) (fun t ht hW => ⟨⟨0, (), rfl, rfl, ⟨by rw [ht]; exact hP9, va_K.moved hW.alike hK9, hD9⟩⟩, hS.F ht⟩) hS.2.2 dX1_isKept_24
  · refine lv_iload_n hx hb dX1_isKept_4 rfl (lv_at hl 1 rfl) ?_
    refine lv_aload_n hx hb dX1_isKept_5 rfl (lv_at hl 0 rfl) ?_
    refine va_get (D := (dC, dI)) (ci := 1) (v := .int 0) (C := RX1) (T := TX1) (N := 5) hx hb hts hinX1 hown hK hP 0 rfl rfl 4 (by decide) (hts (.fieldLink RX1 26 "CensusDesk$Failures" "count" "I") (List.mem_of_getElem? (i := 1) rfl)) (fun _ h9 => h9) rfl dX1_isKept_6 ?_
    refine lv_icmp_ge (tgt := 23) hx hb dX1_isKept_9 (by decide) (fun c_2 => ?_) (fun c_2 => False.elim (c_2 (k_nlt c_1)))
    refine lv_iconst (v := 0) hx hb dX1_isKept_23 (by decide) ?_
    have hP9 := hP.sub (ws' := [(h0, .inr (1, [.ref h1, .ref h2, .ref h3, .ref h4, .int 0]))]) [0] rfl
    have hD9 := hD.sub (ws' := [(h0, .inr (1, [.ref h1, .ref h2, .ref h3, .ref h4, .int 0]))]) [0] (by decide) rfl
    have hK9 := hK.sub (tys' := []) [] rfl
    exact W.zret (v := 0) hx hb hr (by first | rfl | decide) (fun t ht hW => ⟨⟨0, (), rfl, rfl, ⟨by rw [ht]; exact hP9, va_K.moved hW.alike hK9, hD9⟩⟩, hS.F ht⟩) hS.2.2 dX1_isKept_24
set_option maxHeartbeats 1000000 in
set_option maxRecDepth 100000 in
theorem c_X1_tell (l : Launch) (dC : Nat → ClassId) (dI : Nat → Nat → Nat) (h0 h1 h2 h3 h4 : Nat) (i w : Int32) (sz : Nat)  : Met l yX1_tell wsX1_tell ({ frames := 1, cells := 0, slots := 0, locals := 21 }) (va_Pc [.ref h0, .int i, .int w] (kPre dC dI [] [(h0, .inr (1, [.ref h1, .ref h2, .ref h3, .ref h4, .int 0]))] sz)) (va_Qi (fun (r : Int32) (_ : Unit) => r = -1) (fun (_ : Unit) (_ : State) => True) (va_A [(h0, .inr (1, [.ref h1, .ref h2, .ref h3, .ref h4, .int 0]))] sz)) 0 0 (va_A [(h0, .inr (1, [.ref h1, .ref h2, .ref h3, .ref h4, .int 0]))] sz) := by
  refine Met.ofW (cc := cX1_tell) (maxL := 3) (ret := (some .int)) (by decide) rfl ?_
  intro p e s m args below meth c s₁ B hml hv
  obtain ⟨rfl, hsz, hP, hK, hD0, hN⟩ := hv
  have hx := B.exec
  have hb := B.bytes
  have hr := B.returns
  have hts := atoms_spec (ws := wsX1_tell) B.pre
  have hown : s.vm.findClass RX1 = some m.cls := findClass_of_methodNamed B.named
  have hlocks := B.notSynchronized
  subst hsz
  have hD := hD0.self (sz := s.heap.size)
  generalize hAe : va_A [(h0, .inr (1, [.ref h1, .ref h2, .ref h3, .ref h4, .int 0]))] s.heap.size = A at hD ⊢
  have hA : ∀ q : Nat, s.heap.size ≤ q → A q := fun q h => by rw [← hAe]; exact Or.inr h
  have hS : va_S A s.heap s.heap [] := va_S.rf
  have hP : va_P (dC, dI) vwCl [(h0, .inr (1, [.ref h1, .ref h2, .ref h3, .ref h4, .int 0]))] s.heap := hP
  have hinX1 : ∀ w ∈ wsX10, w ∈ wsX1_tell := fun _ h => List.mem_cons_of_mem _ (List.mem_append_right _ h)
  have hl := lv_entry ([.ref h0, .int i, .int w]) (n := 3) (Nat.le_of_ble_eq_true rfl)
  rw [lg_entry_eq]
  generalize (lg_sl ([.ref h0, .int i, .int w]) ++ List.replicate (3 - (lg_sl ([.ref h0, .int i, .int w])).length) Slot.unset).toArray = ls at hl ⊢
  have hl : lv_has ls 3 [(0, .ref h0), (1, .int i), (2, .int w)] := hl
  refine lv_aload_n hx hb dX1_tell_0 rfl (lv_at hl 0 rfl) ?_
  refine lv_iload_n hx hb dX1_tell_1 rfl (lv_at hl 1 rfl) ?_
  have hPc := hP.sub (ws' := [(h0, .inr (1, [.ref h1, .ref h2, .ref h3, .ref h4, .int 0]))]) [0] rfl
  have hDc := hD.sub (ws' := [(h0, .inr (1, [.ref h1, .ref h2, .ref h3, .ref h4, .int 0]))]) [0] (by decide) rfl
  have hKc := hK.sub (tys' := []) [] rfl
  have hFc := va_free (wc := [(h0, .inr (1, [.ref h1, .ref h2, .ref h3, .ref h4, .int 0]))]) hD hS hA [0] rfl
  refine va_calli (va_runV (As := [.int i]) (rest := []) ⟨hx, hb, hml, hown, hts⟩ (c_X1_isKept l dC dI h0 h1 h2 h3 h4 i _ ) (cwV 1 hts gX1_tell_X1_isKept rfl rfl rfl (by decide +kernel) ⟨Nat.le_of_ble_eq_true rfl, Nat.le_of_ble_eq_true rfl⟩) (kPreV hPc hKc hDc hN (va_recv hKc hPc (ci := 1) (q0 := 0) rfl rfl)) rfl rfl hl.1 rfl (lv_room (Nat.le_of_ble_eq_true rfl)) dX1_tell_2 ⟨(by decide +kernel), (by decide +kernel)⟩) hS (fun q _ h => hFc q h) hFc (fun r_1 u t H1 locs ht hvm hw hB hz1 hk1 hS => ?_)
  obtain ⟨hP, hD, hK⟩ := kJoin (wc := [(h0, .inr (1, [.ref h1, .ref h2, .ref h3, .ref h4, .int 0]))]) (wr := []) (w1 := [(h0, .inr (1, [.ref h1, .ref h2, .ref h3, .ref h4, .int 0]))]) hP hD hK [0] [] rfl rfl (by decide) (by decide) hk1 hFc ht hvm hB
  have hK : va_K (dC, dI) vwCl [] s := hK
  generalize H1 = H at hP hS ⊢
  have hP : va_P (dC, dI) vwCl [(h0, .inr (1, [.ref h1, .ref h2, .ref h3, .ref h4, .int 0]))] H := hP
  have hD : va_D A [(h0, .inr (1, [.ref h1, .ref h2, .ref h3, .ref h4, .int 0]))] := hD
  try dsimp only at hw
  subst hw
  refine lv_if_eq (tgt := 17) hx hb dX1_tell_5 (by decide) (fun c_2 => ?_) (fun c_2 => absurd c_2 (by decide))
  refine lv_iconst (v := (-1)) hx hb dX1_tell_17 (by decide) ?_
  exact W.iret (v := (-1)) hx hb hr (fun t ht hW => ⟨⟨(-1), (), rfl, rfl, trivial⟩, hS.F ht⟩) hS.2.2 dX1_tell_18
set_option maxHeartbeats 1000000 in
set_option maxRecDepth 100000 in
theorem c_X1_causesBelow (l : Launch) (dC : Nat → ClassId) (dI : Nat → Nat → Nat) (h0 h1 h2 h3 h4 : Nat) (i : Int32) (sz : Nat)  : Met l yX1_causesBelow wsX1_causesBelow ({ frames := 1, cells := 0, slots := 0, locals := 21 }) (va_Pc [.ref h0, .int i] (kPre dC dI [] [(h0, .inr (1, [.ref h1, .ref h2, .ref h3, .ref h4, .int 0]))] sz)) (va_Qi (fun (r : Int32) (_ : Unit) => r = -1) (fun (_ : Unit) (_ : State) => True) (va_A [(h0, .inr (1, [.ref h1, .ref h2, .ref h3, .ref h4, .int 0]))] sz)) 0 0 (va_A [(h0, .inr (1, [.ref h1, .ref h2, .ref h3, .ref h4, .int 0]))] sz) := by
  refine Met.ofW (cc := cX1_causesBelow) (maxL := 4) (ret := (some .int)) (by decide) rfl ?_
  intro p e s m args below meth c s₁ B hml hv
  obtain ⟨rfl, hsz, hP, hK, hD0, hN⟩ := hv
  have hx := B.exec
  have hb := B.bytes
  have hr := B.returns
  have hts := atoms_spec (ws := wsX1_causesBelow) B.pre
  have hown : s.vm.findClass RX1 = some m.cls := findClass_of_methodNamed B.named
  have hlocks := B.notSynchronized
  subst hsz
  have hD := hD0.self (sz := s.heap.size)
  generalize hAe : va_A [(h0, .inr (1, [.ref h1, .ref h2, .ref h3, .ref h4, .int 0]))] s.heap.size = A at hD ⊢
  have hA : ∀ q : Nat, s.heap.size ≤ q → A q := fun q h => by rw [← hAe]; exact Or.inr h
  have hS : va_S A s.heap s.heap [] := va_S.rf
  have hP : va_P (dC, dI) vwCl [(h0, .inr (1, [.ref h1, .ref h2, .ref h3, .ref h4, .int 0]))] s.heap := hP
  have hinX1 : ∀ w ∈ wsX10, w ∈ wsX1_causesBelow := fun _ h => List.mem_cons_of_mem _ (List.mem_append_right _ h)
  have hl := lv_entry ([.ref h0, .int i]) (n := 4) (Nat.le_of_ble_eq_true rfl)
  rw [lg_entry_eq]
  generalize (lg_sl ([.ref h0, .int i]) ++ List.replicate (4 - (lg_sl ([.ref h0, .int i])).length) Slot.unset).toArray = ls at hl ⊢
  have hl : lv_has ls 4 [(0, .ref h0), (1, .int i)] := hl
  refine lv_aload_n hx hb dX1_causesBelow_0 rfl (lv_at hl 0 rfl) ?_
  refine lv_iload_n hx hb dX1_causesBelow_1 rfl (lv_at hl 1 rfl) ?_
  have hPc := hP.sub (ws' := [(h0, .inr (1, [.ref h1, .ref h2, .ref h3, .ref h4, .int 0]))]) [0] rfl
  have hDc := hD.sub (ws' := [(h0, .inr (1, [.ref h1, .ref h2, .ref h3, .ref h4, .int 0]))]) [0] (by decide) rfl
  have hKc := hK.sub (tys' := []) [] rfl
  have hFc := va_free (wc := [(h0, .inr (1, [.ref h1, .ref h2, .ref h3, .ref h4, .int 0]))]) hD hS hA [0] rfl
  refine va_calli (va_runV (As := [.int i]) (rest := []) ⟨hx, hb, hml, hown, hts⟩ (c_X1_isKept l dC dI h0 h1 h2 h3 h4 i _ ) (cwV 1 hts gX1_causesBelow_X1_isKept rfl rfl rfl (by decide +kernel) ⟨Nat.le_of_ble_eq_true rfl, Nat.le_of_ble_eq_true rfl⟩) (kPreV hPc hKc hDc hN (va_recv hKc hPc (ci := 1) (q0 := 0) rfl rfl)) rfl rfl hl.1 rfl (lv_room (Nat.le_of_ble_eq_true rfl)) dX1_causesBelow_2 ⟨(by decide +kernel), (by decide +kernel)⟩) hS (fun q _ h => hFc q h) hFc (fun r_1 u t H1 locs ht hvm hw hB hz1 hk1 hS => ?_)
  obtain ⟨hP, hD, hK⟩ := kJoin (wc := [(h0, .inr (1, [.ref h1, .ref h2, .ref h3, .ref h4, .int 0]))]) (wr := []) (w1 := [(h0, .inr (1, [.ref h1, .ref h2, .ref h3, .ref h4, .int 0]))]) hP hD hK [0] [] rfl rfl (by decide) (by decide) hk1 hFc ht hvm hB
  have hK : va_K (dC, dI) vwCl [] s := hK
  generalize H1 = H at hP hS ⊢
  have hP : va_P (dC, dI) vwCl [(h0, .inr (1, [.ref h1, .ref h2, .ref h3, .ref h4, .int 0]))] H := hP
  have hD : va_D A [(h0, .inr (1, [.ref h1, .ref h2, .ref h3, .ref h4, .int 0]))] := hD
  try dsimp only at hw
  subst hw
  refine lv_if_ne (tgt := 10) hx hb dX1_causesBelow_5 (by decide) (fun c_2 => absurd c_2 (by decide)) (fun c_2 => ?_)
  refine lv_iconst (v := (-1)) hx hb dX1_causesBelow_8 (by decide) ?_
  exact W.iret (v := (-1)) hx hb hr (fun t ht hW => ⟨⟨(-1), (), rfl, rfl, trivial⟩, hS.F ht⟩) hS.2.2 dX1_causesBelow_9
set_option maxHeartbeats 1000000 in
set_option maxRecDepth 100000 in
theorem c_X1_ofKind (l : Launch) (dC : Nat → ClassId) (dI : Nat → Nat → Nat) (h0 h1 h2 h3 h4 : Nat) (k2 : ClassId) (i : Int32) (sz : Nat)  : Met l yX1_ofKind wsX1_ofKind ({ frames := 0, cells := 0, slots := 0, locals := 0 }) (va_Pc [.ref h0, .int i] (kPre dC dI [(k2, .int)] [(h0, .inr (1, [.ref h1, .ref h2, .ref h3, .ref h4, .int 0])), (h2, .inl (k2, 22, .inl ((fun _ => 0))))] sz)) (va_Qi (fun (r : Int32) (_ : Unit) => r = 0) (fun (_ : Unit) (t : State) => kB dC dI (va_A [(h0, .inr (1, [.ref h1, .ref h2, .ref h3, .ref h4, .int 0])), (h2, .inl (k2, 22, .inl ((fun _ => 0))))] sz) [(k2, .int)] [(h0, .inr (1, [.ref h1, .ref h2, .ref h3, .ref h4, .int 0])), (h2, .inl (k2, 22, .inl ((fun _ => 0))))] t) (va_A [(h0, .inr (1, [.ref h1, .ref h2, .ref h3, .ref h4, .int 0])), (h2, .inl (k2, 22, .inl ((fun _ => 0))))] sz)) 0 0 (va_A [(h0, .inr (1, [.ref h1, .ref h2, .ref h3, .ref h4, .int 0])), (h2, .inl (k2, 22, .inl ((fun _ => 0))))] sz) := by
  refine Met.ofW (cc := cX1_ofKind) (maxL := 2) (ret := (some .int)) (by decide) rfl ?_
  intro p e s m args below meth c s₁ B hml hv
  obtain ⟨rfl, hsz, hP, hK, hD0, hN⟩ := hv
  have hx := B.exec
  have hb := B.bytes
  have hr := B.returns
  have hts := atoms_spec (ws := wsX1_ofKind) B.pre
  have hown : s.vm.findClass RX1 = some m.cls := findClass_of_methodNamed B.named
  have hlocks := B.notSynchronized
  subst hsz
  have hD := hD0.self (sz := s.heap.size)
  generalize hAe : va_A [(h0, .inr (1, [.ref h1, .ref h2, .ref h3, .ref h4, .int 0])), (h2, .inl (k2, 22, .inl ((fun _ => 0))))] s.heap.size = A at hD ⊢
  have hA : ∀ q : Nat, s.heap.size ≤ q → A q := fun q h => by rw [← hAe]; exact Or.inr h
  have hS : va_S A s.heap s.heap [] := va_S.rf
  have hP : va_P (dC, dI) vwCl [(h0, .inr (1, [.ref h1, .ref h2, .ref h3, .ref h4, .int 0])), (h2, .inl (k2, 22, .inl ((fun _ => 0))))] s.heap := hP
  have hinX1 : ∀ w ∈ wsX10, w ∈ wsX1_ofKind := fun _ h => List.mem_cons_of_mem _ (List.mem_append_right _ h)
  have hl := lv_entry ([.ref h0, .int i]) (n := 2) (Nat.le_of_ble_eq_true rfl)
  rw [lg_entry_eq]
  generalize (lg_sl ([.ref h0, .int i]) ++ List.replicate (2 - (lg_sl ([.ref h0, .int i])).length) Slot.unset).toArray = ls at hl ⊢
  have hl : lv_has ls 2 [(0, .ref h0), (1, .int i)] := hl
  refine lv_iload_n hx hb dX1_ofKind_0 rfl (lv_at hl 1 rfl) ?_
  refine lv_iconst (v := 1) hx hb dX1_ofKind_1 (by decide) ?_
  refine lv_icmp_lt (tgt := 20) hx hb dX1_ofKind_2 (by decide) (fun c_1 => ?_) (fun c_1 => ?_)
  · refine lv_iconst (v := 0) hx hb dX1_ofKind_20 (by decide) ?_
    have hP9 := hP.sub (ws' := [(h0, .inr (1, [.ref h1, .ref h2, .ref h3, .ref h4, .int 0])), (h2, .inl (k2, 22, .inl ((fun _ => 0))))]) [0, 1] rfl
    have hD9 := hD.sub (ws' := [(h0, .inr (1, [.ref h1, .ref h2, .ref h3, .ref h4, .int 0])), (h2, .inl (k2, 22, .inl ((fun _ => 0))))]) [0, 1] (by decide) rfl
    have hK9 := hK.sub (tys' := [(k2, .int)]) [0] rfl
    exact W.iret (v := 0) hx hb hr (fun t ht hW => ⟨⟨0, (), rfl, rfl, ⟨by rw [ht]; exact hP9, va_K.moved hW.alike hK9, hD9⟩⟩, hS.F ht⟩) hS.2.2 dX1_ofKind_21
  · refine lv_iload_n hx hb dX1_ofKind_5 rfl (lv_at hl 1 rfl) ?_
    refine lv_bipush (v := 21) hx hb dX1_ofKind_6 (by decide) ?_
    refine lv_icmp_gt (tgt := 20) hx hb dX1_ofKind_8 (by decide) (fun c_2 => ?_) (fun c_2 => ?_)
    · refine lv_iconst (v := 0) hx hb dX1_ofKind_20 (by decide) ?_
      have hP9 := hP.sub (ws' := [(h0, .inr (1, [.ref h1, .ref h2, .ref h3, .ref h4, .int 0])), (h2, .inl (k2, 22, .inl ((fun _ => 0))))]) [0, 1] rfl
      have hD9 := hD.sub (ws' := [(h0, .inr (1, [.ref h1, .ref h2, .ref h3, .ref h4, .int 0])), (h2, .inl (k2, 22, .inl ((fun _ => 0))))]) [0, 1] (by decide) rfl
      have hK9 := hK.sub (tys' := [(k2, .int)]) [0] rfl
      exact W.iret (v := 0) hx hb hr (fun t ht hW => ⟨⟨0, (), rfl, rfl, ⟨by rw [ht]; exact hP9, va_K.moved hW.alike hK9, hD9⟩⟩, hS.F ht⟩) hS.2.2 dX1_ofKind_21
    · refine lv_aload_n hx hb dX1_ofKind_11 rfl (lv_at hl 0 rfl) ?_
      refine va_get (D := (dC, dI)) (ci := 1) (v := .ref h2) (C := RX1) (T := TX1) (N := 5) hx hb hts hinX1 hown hK hP 0 rfl rfl 1 (by decide) (hts (.fieldLink RX1 16 "CensusDesk$Failures" "byKind" "[I") (List.mem_of_getElem? (i := 1) rfl)) (fun _ h9 => h9) rfl dX1_ofKind_12 ?_
      refine lv_iload_n hx hb dX1_ofKind_15 rfl (lv_at hl 1 rfl) ?_
      refine va_iald hx hb hK hP 1 0 rfl rfl (i := i) (k_vin c_1 (Int32.not_lt.mp c_2) (by decide)) dX1_ofKind_16 ?_
      refine k_top (v := 0) rfl ?_
      refine lv_goto (tgt := 21) hx hb dX1_ofKind_17 (by decide) ?_
      have hP9 := hP.sub (ws' := [(h0, .inr (1, [.ref h1, .ref h2, .ref h3, .ref h4, .int 0])), (h2, .inl (k2, 22, .inl ((fun _ => 0))))]) [0, 1] rfl
      have hD9 := hD.sub (ws' := [(h0, .inr (1, [.ref h1, .ref h2, .ref h3, .ref h4, .int 0])), (h2, .inl (k2, 22, .inl ((fun _ => 0))))]) [0, 1] (by decide) rfl
      have hK9 := hK.sub (tys' := [(k2, .int)]) [0] rfl
      exact W.iret (v := 0) hx hb hr (fun t ht hW => ⟨⟨0, (), rfl, rfl, ⟨by rw [ht]; exact hP9, va_K.moved hW.alike hK9, hD9⟩⟩, hS.F ht⟩) hS.2.2 dX1_ofKind_21
