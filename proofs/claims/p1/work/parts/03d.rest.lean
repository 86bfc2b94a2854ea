set_option maxHeartbeats 1000000 in
set_option maxRecDepth 100000 in
theorem c_X3_init (l : Launch) (dC : Nat → ClassId) (dI : Nat → Nat → Nat) (h0 : Nat) (sz : Nat)  : Met l yX3_init wsX3_init ({ frames := 1, cells := 2, slots := 10, locals := 24 }) (va_Pc [.ref h0] (kPre dC dI [] [(h0, .inr (3, [.null, .null, .int 0, .int 0, .int 0, .int 0, .int 0]))] sz)) (va_Qv (fun (_ : Unit) => True) (fun (_ : Unit) (_ : State) => True) (va_A [(h0, .inr (3, [.null, .null, .int 0, .int 0, .int 0, .int 0, .int 0]))] sz)) 2 10 (va_A [(h0, .inr (3, [.null, .null, .int 0, .int 0, .int 0, .int 0, .int 0]))] sz) := by
  refine Met.ofW (cc := cX3_init) (maxL := 1) (ret := none) (by decide) rfl ?_
  intro p e s m args below meth c s₁ B hml hv
  obtain ⟨rfl, hsz, hP, hK, hD0, hN⟩ := hv
  have hx := B.exec
  have hb := B.bytes
  have hr := B.returns
  have hts := atoms_spec (ws := wsX3_init) B.pre
  have hown : s.vm.findClass RX3 = some m.cls := findClass_of_methodNamed B.named
  have hlocks := B.notSynchronized
  have hin : meth.name = "<init>" := (name_of_methodNamed B.named B.method).1
  have hAO := hN.2.2
  subst hsz
  have hD := hD0.self (sz := s.heap.size)
  generalize hAe : va_A [(h0, .inr (3, [.null, .null, .int 0, .int 0, .int 0, .int 0, .int 0]))] s.heap.size = A at hD ⊢
  have hA : ∀ q : Nat, s.heap.size ≤ q → A q := fun q h => by rw [← hAe]; exact Or.inr h
  have hS : va_S A s.heap s.heap [] := va_S.rf
  have hP : va_P (dC, dI) vwCl [(h0, .inr (3, [.null, .null, .int 0, .int 0, .int 0, .int 0, .int 0]))] s.heap := hP
  have hinX3 : ∀ w ∈ wsX30, w ∈ wsX3_init := fun _ h => List.mem_cons_of_mem _ (List.mem_append_right _ h)
  have hl := lv_entry ([.ref h0]) (n := 1) (Nat.le_of_ble_eq_true rfl)
  rw [lg_entry_eq]
  generalize (lg_sl ([.ref h0]) ++ List.replicate (1 - (lg_sl ([.ref h0])).length) Slot.unset).toArray = ls at hl ⊢
  have hl : lv_has ls 1 [(0, .ref h0)] := hl
  refine lv_aload_n hx hb dX3_init_0 rfl (lv_at hl 0 rfl) ?_
  refine W.objInit hx hb hown (hts (.methodLink RX3 3 objectInit) (List.mem_of_getElem? (i := 1) rfl)) (hts (.instanceMethod objectInit) (List.mem_of_getElem? (i := 2) rfl)) (hts (.code objectInit ⟨#[0xb1]⟩ 1 none) (List.mem_of_getElem? (i := 3) rfl)) rfl (by rw [hml]; exact hl.1) rfl dX3_init_1 (Nat.le_of_ble_eq_true rfl) (Nat.le_of_ble_eq_true rfl) ?_
  refine W.eq (g2 := F0 m 4 ls []) rfl ?_
  refine lv_aload_n hx hb dX3_init_4 rfl (lv_at hl 0 rfl) ?_
  refine lv_iconst (v := 5) hx hb dX3_init_5 (by decide) ?_
  refine va_newa (atype := .int) (a0 := (5, .inl (fun _ => 0))) (ty := .int) (N' := 5) hx hb (hts (.arrayClass .int) (List.mem_of_getElem? (i := 4) rfl)) rfl hK hP hD hS hA (fun c9 => k_cellI c9 5) (by decide +kernel) (by decide +kernel) (by decide +kernel) (by decide +kernel) (by decide +kernel) dX3_init_6 (fun q_1 k_2 H hK hP hD hS => ?_)
  have hP := hP.sub (ws' := [(h0, .inr (3, [.null, .null, .int 0, .int 0, .int 0, .int 0, .int 0]))]) [0] rfl
  have hD := hD.sub (ws' := [(h0, .inr (3, [.null, .null, .int 0, .int 0, .int 0, .int 0, .int 0]))]) [0] (by decide) rfl
  have hK := hK.sub (tys' := []) [] rfl
  refine W.widen (k := 1) (n := 5) (by decide +kernel) (by decide +kernel) ?_
  refine va_putF (D := (dC, dI)) (ci := 3) (v := .ref q_1) (ty := .array .int) (C := RX3) (T := TX3) (N := 7) hx hb hts hinX3 tyX3 tyX3_ok nmX3 hown hK hP hD hS 0 rfl rfl 0 (by decide) (hts (.fieldLink RX3 11 "CensusDesk$Line" "cellStart" "[I") (List.mem_of_getElem? (i := 5) rfl)) (fun _ h9 => h9) rfl hin rfl (by decide +kernel) rfl rfl (Nat.le_of_ble_eq_true rfl) dX3_init_8 (fun H locs hP hD hS => ?_)
  have hP : va_P (dC, dI) vwCl [(h0, .inr (3, [.ref q_1, .null, .int 0, .int 0, .int 0, .int 0, .int 0]))] H := hP
  have hD : va_D A [(h0, .inr (3, [.ref q_1, .null, .int 0, .int 0, .int 0, .int 0, .int 0]))] := hD
  refine lv_aload_n hx hb dX3_init_11 rfl (lv_at hl 0 rfl) ?_
  refine lv_iconst (v := 5) hx hb dX3_init_12 (by decide) ?_
  refine va_newa (atype := .int) (a0 := (5, .inl (fun _ => 0))) (ty := .int) (N' := 5) hx hb (hts (.arrayClass .int) (List.mem_of_getElem? (i := 4) rfl)) rfl hK hP hD hS hA (fun c9 => k_cellI c9 5) (by decide +kernel) (by decide +kernel) (by decide +kernel) (by decide +kernel) (by decide +kernel) dX3_init_13 (fun q_3 k_4 H hK hP hD hS => ?_)
  have hP := hP.sub (ws' := [(h0, .inr (3, [.ref q_1, .null, .int 0, .int 0, .int 0, .int 0, .int 0]))]) [0] rfl
  have hD := hD.sub (ws' := [(h0, .inr (3, [.ref q_1, .null, .int 0, .int 0, .int 0, .int 0, .int 0]))]) [0] (by decide) rfl
  have hK := hK.sub (tys' := []) [] rfl
  refine W.widen (k := 2) (n := 10) (by decide +kernel) (by decide +kernel) ?_
  refine va_putF (D := (dC, dI)) (ci := 3) (v := .ref q_3) (ty := .array .int) (C := RX3) (T := TX3) (N := 7) hx hb hts hinX3 tyX3 tyX3_ok nmX3 hown hK hP hD hS 0 rfl rfl 1 (by decide) (hts (.fieldLink RX3 15 "CensusDesk$Line" "cellEnd" "[I") (List.mem_of_getElem? (i := 6) rfl)) (fun _ h9 => h9) rfl hin rfl (by decide +kernel) rfl rfl (Nat.le_of_ble_eq_true rfl) dX3_init_15 (fun H locs hP hD hS => ?_)
  have hP : va_P (dC, dI) vwCl [(h0, .inr (3, [.ref q_1, .ref q_3, .int 0, .int 0, .int 0, .int 0, .int 0]))] H := hP
  have hD : va_D A [(h0, .inr (3, [.ref q_1, .ref q_3, .int 0, .int 0, .int 0, .int 0, .int 0]))] := hD
  exact W.vret hx hb hr (fun t ht hW => ⟨⟨(), rfl, trivial, trivial⟩, hS.F ht⟩) hS.2.2 dX3_init_18
set_option maxHeartbeats 1000000 in
set_option maxRecDepth 100000 in
theorem c_X6_init (l : Launch) (dC : Nat → ClassId) (dI : Nat → Nat → Nat) (h0 : Nat) (sz : Nat)  : Met l yX6_init wsX6_init ({ frames := 1, cells := 2, slots := 62, locals := 24 }) (va_Pc [.ref h0] (kPre dC dI [] [(h0, .inr (6, [.null, .null, .int 0]))] sz)) (va_Qv (fun (_ : Unit) => True) (fun (_ : Unit) (_ : State) => True) (va_A [(h0, .inr (6, [.null, .null, .int 0]))] sz)) 2 62 (va_A [(h0, .inr (6, [.null, .null, .int 0]))] sz) := by
  refine Met.ofW (cc := cX6_init) (maxL := 1) (ret := none) (by decide) rfl ?_
  intro p e s m args below meth c s₁ B hml hv
  obtain ⟨rfl, hsz, hP, hK, hD0, hN⟩ := hv
  have hx := B.exec
  have hb := B.bytes
  have hr := B.returns
  have hts := atoms_spec (ws := wsX6_init) B.pre
  have hown : s.vm.findClass RX6 = some m.cls := findClass_of_methodNamed B.named
  have hlocks := B.notSynchronized
  have hin : meth.name = "<init>" := (name_of_methodNamed B.named B.method).1
  have hAO := hN.2.2
  subst hsz
  have hD := hD0.self (sz := s.heap.size)
  generalize hAe : va_A [(h0, .inr (6, [.null, .null, .int 0]))] s.heap.size = A at hD ⊢
  have hA : ∀ q : Nat, s.heap.size ≤ q → A q := fun q h => by rw [← hAe]; exact Or.inr h
  have hS : va_S A s.heap s.heap [] := va_S.rf
  have hP : va_P (dC, dI) vwCl [(h0, .inr (6, [.null, .null, .int 0]))] s.heap := hP
  have hinX6 : ∀ w ∈ wsX60, w ∈ wsX6_init := fun _ h => List.mem_cons_of_mem _ (List.mem_append_right _ h)
  have hl := lv_entry ([.ref h0]) (n := 1) (Nat.le_of_ble_eq_true rfl)
  rw [lg_entry_eq]
  generalize (lg_sl ([.ref h0]) ++ List.replicate (1 - (lg_sl ([.ref h0])).length) Slot.unset).toArray = ls at hl ⊢
  have hl : lv_has ls 1 [(0, .ref h0)] := hl
  refine lv_aload_n hx hb dX6_init_0 rfl (lv_at hl 0 rfl) ?_
  refine W.objInit hx hb hown (hts (.methodLink RX6 3 objectInit) (List.mem_of_getElem? (i := 1) rfl)) (hts (.instanceMethod objectInit) (List.mem_of_getElem? (i := 2) rfl)) (hts (.code objectInit ⟨#[0xb1]⟩ 1 none) (List.mem_of_getElem? (i := 3) rfl)) rfl (by rw [hml]; exact hl.1) rfl dX6_init_1 (Nat.le_of_ble_eq_true rfl) (Nat.le_of_ble_eq_true rfl) ?_
  refine W.eq (g2 := F0 m 4 ls []) rfl ?_
  refine lv_aload_n hx hb dX6_init_4 rfl (lv_at hl 0 rfl) ?_
  refine lv_bipush (v := 31) hx hb dX6_init_5 (by decide) ?_
  refine va_newa (atype := .int) (a0 := (31, .inl (fun _ => 0))) (ty := .int) (N' := 31) hx hb (hts (.arrayClass .int) (List.mem_of_getElem? (i := 4) rfl)) rfl hK hP hD hS hA (fun c9 => k_cellI c9 31) (by decide +kernel) (by decide +kernel) (by decide +kernel) (by decide +kernel) (by decide +kernel) dX6_init_7 (fun q_1 k_2 H hK hP hD hS => ?_)
  have hP := hP.sub (ws' := [(h0, .inr (6, [.null, .null, .int 0]))]) [0] rfl
  have hD := hD.sub (ws' := [(h0, .inr (6, [.null, .null, .int 0]))]) [0] (by decide) rfl
  have hK := hK.sub (tys' := []) [] rfl
  refine W.widen (k := 1) (n := 31) (by decide +kernel) (by decide +kernel) ?_
  refine va_putF (D := (dC, dI)) (ci := 6) (v := .ref q_1) (ty := .array .int) (C := RX6) (T := TX6) (N := 3) hx hb hts hinX6 tyX6 tyX6_ok nmX6 hown hK hP hD hS 0 rfl rfl 0 (by decide) (hts (.fieldLink RX6 11 "CensusDesk$Signs" "signs" "[I") (List.mem_of_getElem? (i := 5) rfl)) (fun _ h9 => h9) rfl hin rfl (by decide +kernel) rfl rfl (Nat.le_of_ble_eq_true rfl) dX6_init_9 (fun H locs hP hD hS => ?_)
  have hP : va_P (dC, dI) vwCl [(h0, .inr (6, [.ref q_1, .null, .int 0]))] H := hP
  have hD : va_D A [(h0, .inr (6, [.ref q_1, .null, .int 0]))] := hD
  refine lv_aload_n hx hb dX6_init_12 rfl (lv_at hl 0 rfl) ?_
  refine lv_bipush (v := 31) hx hb dX6_init_13 (by decide) ?_
  refine va_newa (atype := .int) (a0 := (31, .inl (fun _ => 0))) (ty := .int) (N' := 31) hx hb (hts (.arrayClass .int) (List.mem_of_getElem? (i := 4) rfl)) rfl hK hP hD hS hA (fun c9 => k_cellI c9 31) (by decide +kernel) (by decide +kernel) (by decide +kernel) (by decide +kernel) (by decide +kernel) dX6_init_15 (fun q_3 k_4 H hK hP hD hS => ?_)
  have hP := hP.sub (ws' := [(h0, .inr (6, [.ref q_1, .null, .int 0]))]) [0] rfl
  have hD := hD.sub (ws' := [(h0, .inr (6, [.ref q_1, .null, .int 0]))]) [0] (by decide) rfl
  have hK := hK.sub (tys' := []) [] rfl
  refine W.widen (k := 2) (n := 62) (by decide +kernel) (by decide +kernel) ?_
  refine va_putF (D := (dC, dI)) (ci := 6) (v := .ref q_3) (ty := .array .int) (C := RX6) (T := TX6) (N := 3) hx hb hts hinX6 tyX6 tyX6_ok nmX6 hown hK hP hD hS 0 rfl rfl 1 (by decide) (hts (.fieldLink RX6 15 "CensusDesk$Signs" "places" "[I") (List.mem_of_getElem? (i := 6) rfl)) (fun _ h9 => h9) rfl hin rfl (by decide +kernel) rfl rfl (Nat.le_of_ble_eq_true rfl) dX6_init_17 (fun H locs hP hD hS => ?_)
  have hP : va_P (dC, dI) vwCl [(h0, .inr (6, [.ref q_1, .ref q_3, .int 0]))] H := hP
  have hD : va_D A [(h0, .inr (6, [.ref q_1, .ref q_3, .int 0]))] := hD
  exact W.vret hx hb hr (fun t ht hW => ⟨⟨(), rfl, trivial, trivial⟩, hS.F ht⟩) hS.2.2 dX6_init_20
set_option maxHeartbeats 1000000 in
set_option maxRecDepth 100000 in
theorem c_X2_init (l : Launch) (dC : Nat → ClassId) (dI : Nat → Nat → Nat) (h0 : Nat) (sz : Nat)  : Met l yX2_init wsX2_init ({ frames := 1, cells := 6, slots := 14000, locals := 24 }) (va_Pc [.ref h0] (kPre dC dI [] [(h0, .inr (2, [.null, .null, .null, .null, .null, .null, .int 0, .int 0, .int 0, .int 0, .int 0, .int 0, .int 0]))] sz)) (va_Qv (fun (_ : Unit) => True) (fun (_ : Unit) (t : State) => ∃ (a1 : Nat) (a2 : Nat) (a3 : Nat) (a4 : Nat) (a5 : Nat) (a6 : Nat), kB dC dI (va_A [(h0, .inr (2, [.null, .null, .null, .null, .null, .null, .int 0, .int 0, .int 0, .int 0, .int 0, .int 0, .int 0]))] sz) [] [(h0, .inr (2, [.ref a1, .ref a2, .ref a3, .ref a4, .ref a5, .ref a6, .int 0, .int 0, .int 0, .int 0, .int 0, .int 0, .int 0]))] t) (va_A [(h0, .inr (2, [.null, .null, .null, .null, .null, .null, .int 0, .int 0, .int 0, .int 0, .int 0, .int 0, .int 0]))] sz)) 6 14000 (va_A [(h0, .inr (2, [.null, .null, .null, .null, .null, .null, .int 0, .int 0, .int 0, .int 0, .int 0, .int 0, .int 0]))] sz) := by
  refine Met.ofW (cc := cX2_init) (maxL := 1) (ret := none) (by decide) rfl ?_
  intro p e s m args below meth c s₁ B hml hv
  obtain ⟨rfl, hsz, hP, hK, hD0, hN⟩ := hv
  have hx := B.exec
  have hb := B.bytes
  have hr := B.returns
  have hts := atoms_spec (ws := wsX2_init) B.pre
  have hown : s.vm.findClass RX2 = some m.cls := findClass_of_methodNamed B.named
  have hlocks := B.notSynchronized
  have hin : meth.name = "<init>" := (name_of_methodNamed B.named B.method).1
  have hAO := hN.2.2
  subst hsz
  have hD := hD0.self (sz := s.heap.size)
  generalize hAe : va_A [(h0, .inr (2, [.null, .null, .null, .null, .null, .null, .int 0, .int 0, .int 0, .int 0, .int 0, .int 0, .int 0]))] s.heap.size = A at hD ⊢
  have hA : ∀ q : Nat, s.heap.size ≤ q → A q := fun q h => by rw [← hAe]; exact Or.inr h
  have hS : va_S A s.heap s.heap [] := va_S.rf
  have hP : va_P (dC, dI) vwCl [(h0, .inr (2, [.null, .null, .null, .null, .null, .null, .int 0, .int 0, .int 0, .int 0, .int 0, .int 0, .int 0]))] s.heap := hP
  have hinX2 : ∀ w ∈ wsX20, w ∈ wsX2_init := fun _ h => List.mem_cons_of_mem _ (List.mem_append_right _ h)
  have hl := lv_entry ([.ref h0]) (n := 1) (Nat.le_of_ble_eq_true rfl)
  rw [lg_entry_eq]
  generalize (lg_sl ([.ref h0]) ++ List.replicate (1 - (lg_sl ([.ref h0])).length) Slot.unset).toArray = ls at hl ⊢
  have hl : lv_has ls 1 [(0, .ref h0)] := hl
  refine lv_aload_n hx hb dX2_init_0 rfl (lv_at hl 0 rfl) ?_
  refine W.objInit hx hb hown (hts (.methodLink RX2 5 objectInit) (List.mem_of_getElem? (i := 1) rfl)) (hts (.instanceMethod objectInit) (List.mem_of_getElem? (i := 2) rfl)) (hts (.code objectInit ⟨#[0xb1]⟩ 1 none) (List.mem_of_getElem? (i := 3) rfl)) rfl (by rw [hml]; exact hl.1) rfl dX2_init_1 (Nat.le_of_ble_eq_true rfl) (Nat.le_of_ble_eq_true rfl) ?_
  refine W.eq (g2 := F0 m 4 ls []) rfl ?_
  refine lv_aload_n hx hb dX2_init_4 rfl (lv_at hl 0 rfl) ?_
  refine lv_sipush (v := 2000) hx hb dX2_init_5 (by decide) ?_
  refine va_newa (atype := .int) (a0 := (2000, .inl (fun _ => 0))) (ty := .int) (N' := 2000) hx hb (hts (.arrayClass .int) (List.mem_of_getElem? (i := 4) rfl)) rfl hK hP hD hS hA (fun c9 => k_cellI c9 2000) (by decide +kernel) (by decide +kernel) (by decide +kernel) (by decide +kernel) (by decide +kernel) dX2_init_8 (fun q_1 k_2 H hK hP hD hS => ?_)
  have hP := hP.sub (ws' := [(h0, .inr (2, [.null, .null, .null, .null, .null, .null, .int 0, .int 0, .int 0, .int 0, .int 0, .int 0, .int 0]))]) [0] rfl
  have hD := hD.sub (ws' := [(h0, .inr (2, [.null, .null, .null, .null, .null, .null, .int 0, .int 0, .int 0, .int 0, .int 0, .int 0, .int 0]))]) [0] (by decide) rfl
  have hK := hK.sub (tys' := []) [] rfl
  refine W.widen (k := 1) (n := 2000) (by decide +kernel) (by decide +kernel) ?_
  refine va_putF (D := (dC, dI)) (ci := 2) (v := .ref q_1) (ty := .array .int) (C := RX2) (T := TX2) (N := 13) hx hb hts hinX2 tyX2 tyX2_ok nmX2 hown hK hP hD hS 0 rfl rfl 0 (by decide) (hts (.fieldLink RX2 13 "CensusDesk$Household" "sex" "[I") (List.mem_of_getElem? (i := 5) rfl)) (fun _ h9 => h9) rfl hin rfl (by decide +kernel) rfl rfl (Nat.le_of_ble_eq_true rfl) dX2_init_10 (fun H locs hP hD hS => ?_)
  have hP : va_P (dC, dI) vwCl [(h0, .inr (2, [.ref q_1, .null, .null, .null, .null, .null, .int 0, .int 0, .int 0, .int 0, .int 0, .int 0, .int 0]))] H := hP
  have hD : va_D A [(h0, .inr (2, [.ref q_1, .null, .null, .null, .null, .null, .int 0, .int 0, .int 0, .int 0, .int 0, .int 0, .int 0]))] := hD
  refine lv_aload_n hx hb dX2_init_13 rfl (lv_at hl 0 rfl) ?_
  refine lv_sipush (v := 2000) hx hb dX2_init_14 (by decide) ?_
  refine va_newa (atype := .int) (a0 := (2000, .inl (fun _ => 0))) (ty := .int) (N' := 2000) hx hb (hts (.arrayClass .int) (List.mem_of_getElem? (i := 4) rfl)) rfl hK hP hD hS hA (fun c9 => k_cellI c9 2000) (by decide +kernel) (by decide +kernel) (by decide +kernel) (by decide +kernel) (by decide +kernel) dX2_init_17 (fun q_3 k_4 H hK hP hD hS => ?_)
  have hP := hP.sub (ws' := [(h0, .inr (2, [.ref q_1, .null, .null, .null, .null, .null, .int 0, .int 0, .int 0, .int 0, .int 0, .int 0, .int 0]))]) [0] rfl
  have hD := hD.sub (ws' := [(h0, .inr (2, [.ref q_1, .null, .null, .null, .null, .null, .int 0, .int 0, .int 0, .int 0, .int 0, .int 0, .int 0]))]) [0] (by decide) rfl
  have hK := hK.sub (tys' := []) [] rfl
  refine W.widen (k := 2) (n := 4000) (by decide +kernel) (by decide +kernel) ?_
  refine va_putF (D := (dC, dI)) (ci := 2) (v := .ref q_3) (ty := .array .int) (C := RX2) (T := TX2) (N := 13) hx hb hts hinX2 tyX2 tyX2_ok nmX2 hown hK hP hD hS 0 rfl rfl 1 (by decide) (hts (.fieldLink RX2 17 "CensusDesk$Household" "age" "[I") (List.mem_of_getElem? (i := 6) rfl)) (fun _ h9 => h9) rfl hin rfl (by decide +kernel) rfl rfl (Nat.le_of_ble_eq_true rfl) dX2_init_19 (fun H locs hP hD hS => ?_)
  have hP : va_P (dC, dI) vwCl [(h0, .inr (2, [.ref q_1, .ref q_3, .null, .null, .null, .null, .int 0, .int 0, .int 0, .int 0, .int 0, .int 0, .int 0]))] H := hP
  have hD : va_D A [(h0, .inr (2, [.ref q_1, .ref q_3, .null, .null, .null, .null, .int 0, .int 0, .int 0, .int 0, .int 0, .int 0, .int 0]))] := hD
  refine lv_aload_n hx hb dX2_init_22 rfl (lv_at hl 0 rfl) ?_
  refine lv_sipush (v := 2000) hx hb dX2_init_23 (by decide) ?_
  refine va_newa (atype := .int) (a0 := (2000, .inl (fun _ => 0))) (ty := .int) (N' := 2000) hx hb (hts (.arrayClass .int) (List.mem_of_getElem? (i := 4) rfl)) rfl hK hP hD hS hA (fun c9 => k_cellI c9 2000) (by decide +kernel) (by decide +kernel) (by decide +kernel) (by decide +kernel) (by decide +kernel) dX2_init_26 (fun q_5 k_6 H hK hP hD hS => ?_)
  have hP := hP.sub (ws' := [(h0, .inr (2, [.ref q_1, .ref q_3, .null, .null, .null, .null, .int 0, .int 0, .int 0, .int 0, .int 0, .int 0, .int 0]))]) [0] rfl
  have hD := hD.sub (ws' := [(h0, .inr (2, [.ref q_1, .ref q_3, .null, .null, .null, .null, .int 0, .int 0, .int 0, .int 0, .int 0, .int 0, .int 0]))]) [0] (by decide) rfl
  have hK := hK.sub (tys' := []) [] rfl
  refine W.widen (k := 3) (n := 6000) (by decide +kernel) (by decide +kernel) ?_
  refine va_putF (D := (dC, dI)) (ci := 2) (v := .ref q_5) (ty := .array .int) (C := RX2) (T := TX2) (N := 13) hx hb hts hinX2 tyX2 tyX2_ok nmX2 hown hK hP hD hS 0 rfl rfl 2 (by decide) (hts (.fieldLink RX2 20 "CensusDesk$Household" "trade" "[I") (List.mem_of_getElem? (i := 7) rfl)) (fun _ h9 => h9) rfl hin rfl (by decide +kernel) rfl rfl (Nat.le_of_ble_eq_true rfl) dX2_init_28 (fun H locs hP hD hS => ?_)
  have hP : va_P (dC, dI) vwCl [(h0, .inr (2, [.ref q_1, .ref q_3, .ref q_5, .null, .null, .null, .int 0, .int 0, .int 0, .int 0, .int 0, .int 0, .int 0]))] H := hP
  have hD : va_D A [(h0, .inr (2, [.ref q_1, .ref q_3, .ref q_5, .null, .null, .null, .int 0, .int 0, .int 0, .int 0, .int 0, .int 0, .int 0]))] := hD
  refine lv_aload_n hx hb dX2_init_31 rfl (lv_at hl 0 rfl) ?_
  refine lv_sipush (v := 2000) hx hb dX2_init_32 (by decide) ?_
  refine va_newa (atype := .int) (a0 := (2000, .inl (fun _ => 0))) (ty := .int) (N' := 2000) hx hb (hts (.arrayClass .int) (List.mem_of_getElem? (i := 4) rfl)) rfl hK hP hD hS hA (fun c9 => k_cellI c9 2000) (by decide +kernel) (by decide +kernel) (by decide +kernel) (by decide +kernel) (by decide +kernel) dX2_init_35 (fun q_7 k_8 H hK hP hD hS => ?_)
  have hP := hP.sub (ws' := [(h0, .inr (2, [.ref q_1, .ref q_3, .ref q_5, .null, .null, .null, .int 0, .int 0, .int 0, .int 0, .int 0, .int 0, .int 0]))]) [0] rfl
  have hD := hD.sub (ws' := [(h0, .inr (2, [.ref q_1, .ref q_3, .ref q_5, .null, .null, .null, .int 0, .int 0, .int 0, .int 0, .int 0, .int 0, .int 0]))]) [0] (by decide) rfl
  have hK := hK.sub (tys' := []) [] rfl
  refine W.widen (k := 4) (n := 8000) (by decide +kernel) (by decide +kernel) ?_
  refine va_putF (D := (dC, dI)) (ci := 2) (v := .ref q_7) (ty := .array .int) (C := RX2) (T := TX2) (N := 13) hx hb hts hinX2 tyX2 tyX2_ok nmX2 hown hK hP hD hS 0 rfl rfl 3 (by decide) (hts (.fieldLink RX2 23 "CensusDesk$Household" "nameStart" "[I") (List.mem_of_getElem? (i := 8) rfl)) (fun _ h9 => h9) rfl hin rfl (by decide +kernel) rfl rfl (Nat.le_of_ble_eq_true rfl) dX2_init_37 (fun H locs hP hD hS => ?_)
  have hP : va_P (dC, dI) vwCl [(h0, .inr (2, [.ref q_1, .ref q_3, .ref q_5, .ref q_7, .null, .null, .int 0, .int 0, .int 0, .int 0, .int 0, .int 0, .int 0]))] H := hP
  have hD : va_D A [(h0, .inr (2, [.ref q_1, .ref q_3, .ref q_5, .ref q_7, .null, .null, .int 0, .int 0, .int 0, .int 0, .int 0, .int 0, .int 0]))] := hD
  refine lv_aload_n hx hb dX2_init_40 rfl (lv_at hl 0 rfl) ?_
  refine lv_sipush (v := 2000) hx hb dX2_init_41 (by decide) ?_
  refine va_newa (atype := .int) (a0 := (2000, .inl (fun _ => 0))) (ty := .int) (N' := 2000) hx hb (hts (.arrayClass .int) (List.mem_of_getElem? (i := 4) rfl)) rfl hK hP hD hS hA (fun c9 => k_cellI c9 2000) (by decide +kernel) (by decide +kernel) (by decide +kernel) (by decide +kernel) (by decide +kernel) dX2_init_44 (fun q_9 k_10 H hK hP hD hS => ?_)
  have hP := hP.sub (ws' := [(h0, .inr (2, [.ref q_1, .ref q_3, .ref q_5, .ref q_7, .null, .null, .int 0, .int 0, .int 0, .int 0, .int 0, .int 0, .int 0]))]) [0] rfl
  have hD := hD.sub (ws' := [(h0, .inr (2, [.ref q_1, .ref q_3, .ref q_5, .ref q_7, .null, .null, .int 0, .int 0, .int 0, .int 0, .int 0, .int 0, .int 0]))]) [0] (by decide) rfl
  have hK := hK.sub (tys' := []) [] rfl
  refine W.widen (k := 5) (n := 10000) (by decide +kernel) (by decide +kernel) ?_
  refine va_putF (D := (dC, dI)) (ci := 2) (v := .ref q_9) (ty := .array .int) (C := RX2) (T := TX2) (N := 13) hx hb hts hinX2 tyX2 tyX2_ok nmX2 hown hK hP hD hS 0 rfl rfl 4 (by decide) (hts (.fieldLink RX2 26 "CensusDesk$Household" "nameLength" "[I") (List.mem_of_getElem? (i := 9) rfl)) (fun _ h9 => h9) rfl hin rfl (by decide +kernel) rfl rfl (Nat.le_of_ble_eq_true rfl) dX2_init_46 (fun H locs hP hD hS => ?_)
  have hP : va_P (dC, dI) vwCl [(h0, .inr (2, [.ref q_1, .ref q_3, .ref q_5, .ref q_7, .ref q_9, .null, .int 0, .int 0, .int 0, .int 0, .int 0, .int 0, .int 0]))] H := hP
  have hD : va_D A [(h0, .inr (2, [.ref q_1, .ref q_3, .ref q_5, .ref q_7, .ref q_9, .null, .int 0, .int 0, .int 0, .int 0, .int 0, .int 0, .int 0]))] := hD
  refine lv_aload_n hx hb dX2_init_49 rfl (lv_at hl 0 rfl) ?_
  refine lv_sipush (v := 4000) hx hb dX2_init_50 (by decide) ?_
  refine va_newa (atype := .byte) (a0 := (4000, .inl (fun _ => 0))) (ty := .byte) (N' := 4000) hx hb (hts (.arrayClass .byte) (List.mem_of_getElem? (i := 10) rfl)) rfl hK hP hD hS hA (fun c9 => k_cellB c9 4000) (by decide +kernel) (by decide +kernel) (by decide +kernel) (by decide +kernel) (by decide +kernel) dX2_init_53 (fun q_11 k_12 H hK hP hD hS => ?_)
  have hP := hP.sub (ws' := [(h0, .inr (2, [.ref q_1, .ref q_3, .ref q_5, .ref q_7, .ref q_9, .null, .int 0, .int 0, .int 0, .int 0, .int 0, .int 0, .int 0]))]) [0] rfl
  have hD := hD.sub (ws' := [(h0, .inr (2, [.ref q_1, .ref q_3, .ref q_5, .ref q_7, .ref q_9, .null, .int 0, .int 0, .int 0, .int 0, .int 0, .int 0, .int 0]))]) [0] (by decide) rfl
  have hK := hK.sub (tys' := []) [] rfl
  refine W.widen (k := 6) (n := 14000) (by decide +kernel) (by decide +kernel) ?_
  refine va_putF (D := (dC, dI)) (ci := 2) (v := .ref q_11) (ty := .array .byte) (C := RX2) (T := TX2) (N := 13) hx hb hts hinX2 tyX2 tyX2_ok nmX2 hown hK hP hD hS 0 rfl rfl 5 (by decide) (hts (.fieldLink RX2 29 "CensusDesk$Household" "names" "[B") (List.mem_of_getElem? (i := 11) rfl)) (fun _ h9 => h9) rfl hin rfl (by decide +kernel) rfl rfl (Nat.le_of_ble_eq_true rfl) dX2_init_55 (fun H locs hP hD hS => ?_)
  have hP : va_P (dC, dI) vwCl [(h0, .inr (2, [.ref q_1, .ref q_3, .ref q_5, .ref q_7, .ref q_9, .ref q_11, .int 0, .int 0, .int 0, .int 0, .int 0, .int 0, .int 0]))] H := hP
  have hD : va_D A [(h0, .inr (2, [.ref q_1, .ref q_3, .ref q_5, .ref q_7, .ref q_9, .ref q_11, .int 0, .int 0, .int 0, .int 0, .int 0, .int 0, .int 0]))] := hD
  have hP9 := hP.sub (ws' := [(h0, .inr (2, [.ref q_1, .ref q_3, .ref q_5, .ref q_7, .ref q_9, .ref q_11, .int 0, .int 0, .int 0, .int 0, .int 0, .int 0, .int 0]))]) [0] rfl
  have hD9 := hD.sub (ws' := [(h0, .inr (2, [.ref q_1, .ref q_3, .ref q_5, .ref q_7, .ref q_9, .ref q_11, .int 0, .int 0, .int 0, .int 0, .int 0, .int 0, .int 0]))]) [0] (by decide) rfl
  have hK9 := hK.sub (tys' := []) [] rfl
  exact W.vret hx hb hr (fun t ht hW => ⟨⟨(), rfl, trivial, q_1, q_3, q_5, q_7, q_9, q_11, ⟨by rw [ht]; exact hP9, va_K.moved hW.alike hK9, hD9⟩⟩, hS.F ht⟩) hS.2.2 dX2_init_58
set_option maxHeartbeats 1000000 in
set_option maxRecDepth 100000 in
theorem c_X0_init (l : Launch) (dC : Nat → ClassId) (dI : Nat → Nat → Nat) (h0 : Nat) (sz : Nat)  : Met l yX0_init wsX0_init ({ frames := 1, cells := 14, slots := 10826, locals := 24 }) (va_Pc [.ref h0] (kPre dC dI [] [(h0, .inr (0, [.null, .null, .null, .null, .int 0, .int 0, .int 0, .int 0, .int 0, .int 0]))] sz)) (va_Qv (fun (_ : Unit) => True) (fun (_ : Unit) (t : State) => ∃ (b1 : Nat) (b2 : Nat) (b3 : Nat) (qs : Nat) (ks : ClassId), kB dC dI (va_A [(h0, .inr (0, [.null, .null, .null, .null, .int 0, .int 0, .int 0, .int 0, .int 0, .int 0]))] sz) [(ks, .int)] [(h0, .inr (0, [.ref b1, .ref b2, .ref b3, .ref qs, .int 0, .int 0, .int 0, .int 0, .int 0, .int 0])), (qs, .inl (ks, 16, .inl ((fun _ => 0))))] t) (va_A [(h0, .inr (0, [.null, .null, .null, .null, .int 0, .int 0, .int 0, .int 0, .int 0, .int 0]))] sz)) 14 10826 (va_A [(h0, .inr (0, [.null, .null, .null, .null, .int 0, .int 0, .int 0, .int 0, .int 0, .int 0]))] sz) := by
  refine Met.ofW (cc := cX0_init) (maxL := 1) (ret := none) (by decide) rfl ?_
  intro p e s m args below meth c s₁ B hml hv
  obtain ⟨rfl, hsz, hP, hK, hD0, hN⟩ := hv
  have hx := B.exec
  have hb := B.bytes
  have hr := B.returns
  have hts := atoms_spec (ws := wsX0_init) B.pre
  have hown : s.vm.findClass RX0 = some m.cls := findClass_of_methodNamed B.named
  have hlocks := B.notSynchronized
  have hin : meth.name = "<init>" := (name_of_methodNamed B.named B.method).1
  have hAO := hN.2.2
  subst hsz
  have hD := hD0.self (sz := s.heap.size)
  generalize hAe : va_A [(h0, .inr (0, [.null, .null, .null, .null, .int 0, .int 0, .int 0, .int 0, .int 0, .int 0]))] s.heap.size = A at hD ⊢
  have hA : ∀ q : Nat, s.heap.size ≤ q → A q := fun q h => by rw [← hAe]; exact Or.inr h
  have hS : va_S A s.heap s.heap [] := va_S.rf
  have hP : va_P (dC, dI) vwCl [(h0, .inr (0, [.null, .null, .null, .null, .int 0, .int 0, .int 0, .int 0, .int 0, .int 0]))] s.heap := hP
  have hinX0 : ∀ w ∈ wsX00, w ∈ wsX0_init := fun _ h => List.mem_cons_of_mem _ (List.mem_append_right _ h)
  have hl := lv_entry ([.ref h0]) (n := 1) (Nat.le_of_ble_eq_true rfl)
  rw [lg_entry_eq]
  generalize (lg_sl ([.ref h0]) ++ List.replicate (1 - (lg_sl ([.ref h0])).length) Slot.unset).toArray = ls at hl ⊢
  have hl : lv_has ls 1 [(0, .ref h0)] := hl
  refine lv_aload_n hx hb dX0_init_0 rfl (lv_at hl 0 rfl) ?_
  refine W.objInit hx hb hown (hts (.methodLink RX0 3 objectInit) (List.mem_of_getElem? (i := 1) rfl)) (hts (.instanceMethod objectInit) (List.mem_of_getElem? (i := 2) rfl)) (hts (.code objectInit ⟨#[0xb1]⟩ 1 none) (List.mem_of_getElem? (i := 3) rfl)) rfl (by rw [hml]; exact hl.1) rfl dX0_init_1 (Nat.le_of_ble_eq_true rfl) (Nat.le_of_ble_eq_true rfl) ?_
  refine W.eq (g2 := F0 m 4 ls []) rfl ?_
  refine lv_aload_n hx hb dX0_init_4 rfl (lv_at hl 0 rfl) ?_
  refine lv_iconst (v := 5) hx hb dX0_init_5 (by decide) ?_
  refine lv_bipush (v := 60) hx hb dX0_init_6 (by decide) ?_
  obtain ⟨cy_2, _, _, hcy_2, -⟩ := Cond.arrayClass_spec (hts (.arrayClass .int) (List.mem_of_getElem? (i := 5) rfl))
  refine va_mna (X := [(h0, .inr (0, [.null, .null, .null, .null, .int 0, .int 0, .int 0, .int 0, .int 0, .int 0]))]) (L := []) (f := fun _ => .inr (0, [])) (ty := .int) (cy := cy_2) (z := (60, .inl (fun _ => 0))) (N' := 5) (K' := 60) hx hb hown (hts (.classLink RX0 11 "[[I") (List.mem_of_getElem? (i := 4) rfl)) hAO (hts (.arrayClass .int) (List.mem_of_getElem? (i := 5) rfl)) hcy_2 hK hP hD hS hA (by decide +kernel) (by decide +kernel) (by decide +kernel) (by decide +kernel) (by decide +kernel) (by decide +kernel) (by decide +kernel) rfl rfl (by decide +kernel) (by decide +kernel) (fun c9 => k_inner c9 60) dX0_init_8 (fun q_1 r9 cA9 H hr9 hr9b hK hP hD hS => ?_)
  have hP := hP.sub (ws' := [(h0, .inr (0, [.null, .null, .null, .null, .int 0, .int 0, .int 0, .int 0, .int 0, .int 0]))]) [0] rfl
  have hD := hD.sub (ws' := [(h0, .inr (0, [.null, .null, .null, .null, .int 0, .int 0, .int 0, .int 0, .int 0, .int 0]))]) [0] (by decide) rfl
  have hK := hK.sub (tys' := []) [] rfl
  refine W.widen (k := 6) (n := 305) (by decide +kernel) (by decide +kernel) ?_
  refine va_putF (D := (dC, dI)) (ci := 0) (v := .ref q_1) (ty := .array (.array .int)) (C := RX0) (T := TX0) (N := 10) hx hb hts hinX0 tyX0 tyX0_ok nmX0 hown hK hP hD hS 0 rfl rfl 0 (by decide) (hts (.fieldLink RX0 13 "CensusDesk$Book" "householdFacts" "[[I") (List.mem_of_getElem? (i := 6) rfl)) (fun _ h9 => h9) rfl hin rfl (by decide +kernel) rfl rfl (Nat.le_of_ble_eq_true rfl) dX0_init_12 (fun H locs hP hD hS => ?_)
  have hP : va_P (dC, dI) vwCl [(h0, .inr (0, [.ref q_1, .null, .null, .null, .int 0, .int 0, .int 0, .int 0, .int 0, .int 0]))] H := hP
  have hD : va_D A [(h0, .inr (0, [.ref q_1, .null, .null, .null, .int 0, .int 0, .int 0, .int 0, .int 0, .int 0]))] := hD
  refine lv_aload_n hx hb dX0_init_15 rfl (lv_at hl 0 rfl) ?_
  refine lv_iconst (v := 5) hx hb dX0_init_16 (by decide) ?_
  refine lv_sipush (v := 300) hx hb dX0_init_17 (by decide) ?_
  obtain ⟨cy_4, _, _, hcy_4, -⟩ := Cond.arrayClass_spec (hts (.arrayClass .int) (List.mem_of_getElem? (i := 5) rfl))
  refine va_mna (X := [(h0, .inr (0, [.ref q_1, .null, .null, .null, .int 0, .int 0, .int 0, .int 0, .int 0, .int 0]))]) (L := []) (f := fun _ => .inr (0, [])) (ty := .int) (cy := cy_4) (z := (300, .inl (fun _ => 0))) (N' := 5) (K' := 300) hx hb hown (hts (.classLink RX0 11 "[[I") (List.mem_of_getElem? (i := 4) rfl)) hAO (hts (.arrayClass .int) (List.mem_of_getElem? (i := 5) rfl)) hcy_4 hK hP hD hS hA (by decide +kernel) (by decide +kernel) (by decide +kernel) (by decide +kernel) (by decide +kernel) (by decide +kernel) (by decide +kernel) rfl rfl (by decide +kernel) (by decide +kernel) (fun c9 => k_inner c9 300) dX0_init_20 (fun q_3 r9 cA9 H hr9 hr9b hK hP hD hS => ?_)
  have hP := hP.sub (ws' := [(h0, .inr (0, [.ref q_1, .null, .null, .null, .int 0, .int 0, .int 0, .int 0, .int 0, .int 0]))]) [0] rfl
  have hD := hD.sub (ws' := [(h0, .inr (0, [.ref q_1, .null, .null, .null, .int 0, .int 0, .int 0, .int 0, .int 0, .int 0]))]) [0] (by decide) rfl
  have hK := hK.sub (tys' := []) [] rfl
  refine W.widen (k := 12) (n := 1810) (by decide +kernel) (by decide +kernel) ?_
  refine va_putF (D := (dC, dI)) (ci := 0) (v := .ref q_3) (ty := .array (.array .int)) (C := RX0) (T := TX0) (N := 10) hx hb hts hinX0 tyX0 tyX0_ok nmX0 hown hK hP hD hS 0 rfl rfl 1 (by decide) (hts (.fieldLink RX0 16 "CensusDesk$Book" "personFacts" "[[I") (List.mem_of_getElem? (i := 7) rfl)) (fun _ h9 => h9) rfl hin rfl (by decide +kernel) rfl rfl (Nat.le_of_ble_eq_true rfl) dX0_init_24 (fun H locs hP hD hS => ?_)
  have hP : va_P (dC, dI) vwCl [(h0, .inr (0, [.ref q_1, .ref q_3, .null, .null, .int 0, .int 0, .int 0, .int 0, .int 0, .int 0]))] H := hP
  have hD : va_D A [(h0, .inr (0, [.ref q_1, .ref q_3, .null, .null, .int 0, .int 0, .int 0, .int 0, .int 0, .int 0]))] := hD
  refine lv_aload_n hx hb dX0_init_27 rfl (lv_at hl 0 rfl) ?_
  refine lv_sipush (v := 9000) hx hb dX0_init_28 (by decide) ?_
  refine va_newa (atype := .byte) (a0 := (9000, .inl (fun _ => 0))) (ty := .byte) (N' := 9000) hx hb (hts (.arrayClass .byte) (List.mem_of_getElem? (i := 8) rfl)) rfl hK hP hD hS hA (fun c9 => k_cellB c9 9000) (by decide +kernel) (by decide +kernel) (by decide +kernel) (by decide +kernel) (by decide +kernel) dX0_init_31 (fun q_5 k_6 H hK hP hD hS => ?_)
  have hP := hP.sub (ws' := [(h0, .inr (0, [.ref q_1, .ref q_3, .null, .null, .int 0, .int 0, .int 0, .int 0, .int 0, .int 0]))]) [0] rfl
  have hD := hD.sub (ws' := [(h0, .inr (0, [.ref q_1, .ref q_3, .null, .null, .int 0, .int 0, .int 0, .int 0, .int 0, .int 0]))]) [0] (by decide) rfl
  have hK := hK.sub (tys' := []) [] rfl
  refine W.widen (k := 13) (n := 10810) (by decide +kernel) (by decide +kernel) ?_
  refine va_putF (D := (dC, dI)) (ci := 0) (v := .ref q_5) (ty := .array .byte) (C := RX0) (T := TX0) (N := 10) hx hb hts hinX0 tyX0 tyX0_ok nmX0 hown hK hP hD hS 0 rfl rfl 2 (by decide) (hts (.fieldLink RX0 21 "CensusDesk$Book" "names" "[B") (List.mem_of_getElem? (i := 9) rfl)) (fun _ h9 => h9) rfl hin rfl (by decide +kernel) rfl rfl (Nat.le_of_ble_eq_true rfl) dX0_init_33 (fun H locs hP hD hS => ?_)
  have hP : va_P (dC, dI) vwCl [(h0, .inr (0, [.ref q_1, .ref q_3, .ref q_5, .null, .int 0, .int 0, .int 0, .int 0, .int 0, .int 0]))] H := hP
  have hD : va_D A [(h0, .inr (0, [.ref q_1, .ref q_3, .ref q_5, .null, .int 0, .int 0, .int 0, .int 0, .int 0, .int 0]))] := hD
  refine lv_aload_n hx hb dX0_init_36 rfl (lv_at hl 0 rfl) ?_
  refine lv_bipush (v := 16) hx hb dX0_init_37 (by decide) ?_
  refine va_newa (atype := .int) (a0 := (16, .inl (fun _ => 0))) (ty := .int) (N' := 16) hx hb (hts (.arrayClass .int) (List.mem_of_getElem? (i := 5) rfl)) rfl hK hP hD hS hA (fun c9 => k_cellI c9 16) (by decide +kernel) (by decide +kernel) (by decide +kernel) (by decide +kernel) (by decide +kernel) dX0_init_39 (fun q_7 k_8 H hK hP hD hS => ?_)
  have hP : va_P (dC, dI) vwCl [(h0, .inr (0, [.ref q_1, .ref q_3, .ref q_5, .null, .int 0, .int 0, .int 0, .int 0, .int 0, .int 0])), (q_7, .inl (k_8, 16, .inl ((fun _ => 0))))] H := hP
  have hD : va_D A [(h0, .inr (0, [.ref q_1, .ref q_3, .ref q_5, .null, .int 0, .int 0, .int 0, .int 0, .int 0, .int 0])), (q_7, .inl (k_8, 16, .inl ((fun _ => 0))))] := hD
  have hK : va_K (dC, dI) vwCl [(k_8, .int)] s := hK
  refine W.widen (k := 14) (n := 10826) (by decide +kernel) (by decide +kernel) ?_
  refine va_putF (D := (dC, dI)) (ci := 0) (v := .ref q_7) (ty := .array .int) (C := RX0) (T := TX0) (N := 10) hx hb hts hinX0 tyX0 tyX0_ok nmX0 hown hK hP hD hS 0 rfl rfl 3 (by decide) (hts (.fieldLink RX0 25 "CensusDesk$Book" "sought" "[I") (List.mem_of_getElem? (i := 10) rfl)) (fun _ h9 => h9) rfl hin rfl (by decide +kernel) rfl rfl (Nat.le_of_ble_eq_true rfl) dX0_init_41 (fun H locs hP hD hS => ?_)
  have hP : va_P (dC, dI) vwCl [(h0, .inr (0, [.ref q_1, .ref q_3, .ref q_5, .ref q_7, .int 0, .int 0, .int 0, .int 0, .int 0, .int 0])), (q_7, .inl (k_8, 16, .inl ((fun _ => 0))))] H := hP
  have hD : va_D A [(h0, .inr (0, [.ref q_1, .ref q_3, .ref q_5, .ref q_7, .int 0, .int 0, .int 0, .int 0, .int 0, .int 0])), (q_7, .inl (k_8, 16, .inl ((fun _ => 0))))] := hD
  have hP9 := hP.sub (ws' := [(h0, .inr (0, [.ref q_1, .ref q_3, .ref q_5, .ref q_7, .int 0, .int 0, .int 0, .int 0, .int 0, .int 0])), (q_7, .inl (k_8, 16, .inl ((fun _ => 0))))]) [0, 1] rfl
  have hD9 := hD.sub (ws' := [(h0, .inr (0, [.ref q_1, .ref q_3, .ref q_5, .ref q_7, .int 0, .int 0, .int 0, .int 0, .int 0, .int 0])), (q_7, .inl (k_8, 16, .inl ((fun _ => 0))))]) [0, 1] (by decide) rfl
  have hK9 := hK.sub (tys' := [(k_8, .int)]) [0] rfl
  exact W.vret hx hb hr (fun t ht hW => ⟨⟨(), rfl, trivial, q_1, q_3, q_5, q_7, k_8, ⟨by rw [ht]; exact hP9, va_K.moved hW.alike hK9, hD9⟩⟩, hS.F ht⟩) hS.2.2 dX0_init_44
set_option maxHeartbeats 1000000 in
set_option maxRecDepth 100000 in
theorem c_X0_tellHousehold (l : Launch) (dC : Nat → ClassId) (dI : Nat → Nat → Nat) (h0 h1 h2 h3 h4 : Nat) (i w : Int32) (sz : Nat)  : Met l yX0_tellHousehold wsX0_tellHousehold ({ frames := 0, cells := 0, slots := 0, locals := 0 }) (va_Pc [.ref h0, .int i, .int w] (kPre dC dI [] [(h0, .inr (0, [.ref h1, .ref h2, .ref h3, .ref h4, .int 0, .int 0, .int 0, .int 0, .int 0, .int 0]))] sz)) (va_Qi (fun (r : Int32) (_ : Unit) => r = -1) (fun (_ : Unit) (t : State) => kB dC dI (va_A [(h0, .inr (0, [.ref h1, .ref h2, .ref h3, .ref h4, .int 0, .int 0, .int 0, .int 0, .int 0, .int 0]))] sz) [] [(h0, .inr (0, [.ref h1, .ref h2, .ref h3, .ref h4, .int 0, .int 0, .int 0, .int 0, .int 0, .int 0]))] t) (va_A [(h0, .inr (0, [.ref h1, .ref h2, .ref h3, .ref h4, .int 0, .int 0, .int 0, .int 0, .int 0, .int 0]))] sz)) 0 0 (va_A [(h0, .inr (0, [.ref h1, .ref h2, .ref h3, .ref h4, .int 0, .int 0, .int 0, .int 0, .int 0, .int 0]))] sz) := by
  refine Met.ofW (cc := cX0_tellHousehold) (maxL := 3) (ret := (some .int)) (by decide) rfl ?_
  intro p e s m args below meth c s₁ B hml hv
  obtain ⟨rfl, hsz, hP, hK, hD0, hN⟩ := hv
  have hx := B.exec
  have hb := B.bytes
  have hr := B.returns
  have hts := atoms_spec (ws := wsX0_tellHousehold) B.pre
  have hown : s.vm.findClass RX0 = some m.cls := findClass_of_methodNamed B.named
  have hlocks := B.notSynchronized
  subst hsz
  have hD := hD0.self (sz := s.heap.size)
  generalize hAe : va_A [(h0, .inr (0, [.ref h1, .ref h2, .ref h3, .ref h4, .int 0, .int 0, .int 0, .int 0, .int 0, .int 0]))] s.heap.size = A at hD ⊢
  have hA : ∀ q : Nat, s.heap.size ≤ q → A q := fun q h => by rw [← hAe]; exact Or.inr h
  have hS : va_S A s.heap s.heap [] := va_S.rf
  have hP : va_P (dC, dI) vwCl [(h0, .inr (0, [.ref h1, .ref h2, .ref h3, .ref h4, .int 0, .int 0, .int 0, .int 0, .int 0, .int 0]))] s.heap := hP
  have hinX0 : ∀ w ∈ wsX00, w ∈ wsX0_tellHousehold := fun _ h => List.mem_cons_of_mem _ (List.mem_append_right _ h)
  have hl := lv_entry ([.ref h0, .int i, .int w]) (n := 3) (Nat.le_of_ble_eq_true rfl)
  rw [lg_entry_eq]
  generalize (lg_sl ([.ref h0, .int i, .int w]) ++ List.replicate (3 - (lg_sl ([.ref h0, .int i, .int w])).length) Slot.unset).toArray = ls at hl ⊢
  have hl : lv_has ls 3 [(0, .ref h0), (1, .int i), (2, .int w)] := hl
  refine lv_iload_n hx hb dX0_tellHousehold_0 rfl (lv_at hl 1 rfl) ?_
  refine lv_if_lt (tgt := 18) hx hb dX0_tellHousehold_1 (by decide) (fun c_1 => ?_) (fun c_1 => ?_)
  · refine lv_iconst (v := (-1)) hx hb dX0_tellHousehold_18 (by decide) ?_
    have hP9 := hP.sub (ws' := [(h0, .inr (0, [.ref h1, .ref h2, .ref h3, .ref h4, .int 0, .int 0, .int 0, .int 0, .int 0, .int 0]))]) [0] rfl
    have hD9 := hD.sub (ws' := [(h0, .inr (0, [.ref h1, .ref h2, .ref h3, .ref h4, .int 0, .int 0, .int 0, .int 0, .int 0, .int 0]))]) [0] (by decide) rfl
    have hK9 := hK.sub (tys' := []) [] rfl
    exact W.iret (v := (-1)) hx hb hr (fun t ht hW => ⟨⟨(-1), (), rfl, rfl, ⟨by rw [ht]; exact hP9, va_K.moved hW.alike hK9, hD9⟩⟩, hS.F ht⟩) hS.2.2 dX0_tellHousehold_19
  · refine lv_iload_n hx hb dX0_tellHousehold_4 rfl (lv_at hl 1 rfl) ?_
    refine lv_aload_n hx hb dX0_tellHousehold_5 rfl (lv_at hl 0 rfl) ?_
    refine va_get (D := (dC, dI)) (ci := 0) (v := .int 0) (C := RX0) (T := TX0) (N := 10) hx hb hts hinX0 hown hK hP 0 rfl rfl 4 (by decide) (hts (.fieldLink RX0 29 "CensusDesk$Book" "households" "I") (List.mem_of_getElem? (i := 1) rfl)) (fun _ h9 => h9) rfl dX0_tellHousehold_6 ?_
    refine lv_icmp_ge (tgt := 18) hx hb dX0_tellHousehold_9 (by decide) (fun c_2 => ?_) (fun c_2 => False.elim (c_2 (k_nlt c_1)))
    refine lv_iconst (v := (-1)) hx hb dX0_tellHousehold_18 (by decide) ?_
    have hP9 := hP.sub (ws' := [(h0, .inr (0, [.ref h1, .ref h2, .ref h3, .ref h4, .int 0, .int 0, .int 0, .int 0, .int 0, .int 0]))]) [0] rfl
    have hD9 := hD.sub (ws' := [(h0, .inr (0, [.ref h1, .ref h2, .ref h3, .ref h4, .int 0, .int 0, .int 0, .int 0, .int 0, .int 0]))]) [0] (by decide) rfl
    have hK9 := hK.sub (tys' := []) [] rfl
    exact W.iret (v := (-1)) hx hb hr (fun t ht hW => ⟨⟨(-1), (), rfl, rfl, ⟨by rw [ht]; exact hP9, va_K.moved hW.alike hK9, hD9⟩⟩, hS.F ht⟩) hS.2.2 dX0_tellHousehold_19
set_option maxHeartbeats 1000000 in
set_option maxRecDepth 100000 in
theorem c_X0_tellPerson (l : Launch) (dC : Nat → ClassId) (dI : Nat → Nat → Nat) (h0 h1 h2 h3 h4 : Nat) (i w : Int32) (sz : Nat)  : Met l yX0_tellPerson wsX0_tellPerson ({ frames := 0, cells := 0, slots := 0, locals := 0 }) (va_Pc [.ref h0, .int i, .int w] (kPre dC dI [] [(h0, .inr (0, [.ref h1, .ref h2, .ref h3, .ref h4, .int 0, .int 0, .int 0, .int 0, .int 0, .int 0]))] sz)) (va_Qi (fun (r : Int32) (_ : Unit) => r = -1) (fun (_ : Unit) (t : State) => kB dC dI (va_A [(h0, .inr (0, [.ref h1, .ref h2, .ref h3, .ref h4, .int 0, .int 0, .int 0, .int 0, .int 0, .int 0]))] sz) [] [(h0, .inr (0, [.ref h1, .ref h2, .ref h3, .ref h4, .int 0, .int 0, .int 0, .int 0, .int 0, .int 0]))] t) (va_A [(h0, .inr (0, [.ref h1, .ref h2, .ref h3, .ref h4, .int 0, .int 0, .int 0, .int 0, .int 0, .int 0]))] sz)) 0 0 (va_A [(h0, .inr (0, [.ref h1, .ref h2, .ref h3, .ref h4, .int 0, .int 0, .int 0, .int 0, .int 0, .int 0]))] sz) := by
  refine Met.ofW (cc := cX0_tellPerson) (maxL := 3) (ret := (some .int)) (by decide) rfl ?_
  intro p e s m args below meth c s₁ B hml hv
  obtain ⟨rfl, hsz, hP, hK, hD0, hN⟩ := hv
  have hx := B.exec
  have hb := B.bytes
  have hr := B.returns
  have hts := atoms_spec (ws := wsX0_tellPerson) B.pre
  have hown : s.vm.findClass RX0 = some m.cls := findClass_of_methodNamed B.named
  have hlocks := B.notSynchronized
  subst hsz
  have hD := hD0.self (sz := s.heap.size)
  generalize hAe : va_A [(h0, .inr (0, [.ref h1, .ref h2, .ref h3, .ref h4, .int 0, .int 0, .int 0, .int 0, .int 0, .int 0]))] s.heap.size = A at hD ⊢
  have hA : ∀ q : Nat, s.heap.size ≤ q → A q := fun q h => by rw [← hAe]; exact Or.inr h
  have hS : va_S A s.heap s.heap [] := va_S.rf
  have hP : va_P (dC, dI) vwCl [(h0, .inr (0, [.ref h1, .ref h2, .ref h3, .ref h4, .int 0, .int 0, .int 0, .int 0, .int 0, .int 0]))] s.heap := hP
  have hinX0 : ∀ w ∈ wsX00, w ∈ wsX0_tellPerson := fun _ h => List.mem_cons_of_mem _ (List.mem_append_right _ h)
  have hl := lv_entry ([.ref h0, .int i, .int w]) (n := 3) (Nat.le_of_ble_eq_true rfl)
  rw [lg_entry_eq]
  generalize (lg_sl ([.ref h0, .int i, .int w]) ++ List.replicate (3 - (lg_sl ([.ref h0, .int i, .int w])).length) Slot.unset).toArray = ls at hl ⊢
  have hl : lv_has ls 3 [(0, .ref h0), (1, .int i), (2, .int w)] := hl
  refine lv_iload_n hx hb dX0_tellPerson_0 rfl (lv_at hl 1 rfl) ?_
  refine lv_if_lt (tgt := 19) hx hb dX0_tellPerson_1 (by decide) (fun c_1 => ?_) (fun c_1 => ?_)
  · refine lv_iconst (v := (-1)) hx hb dX0_tellPerson_19 (by decide) ?_
    have hP9 := hP.sub (ws' := [(h0, .inr (0, [.ref h1, .ref h2, .ref h3, .ref h4, .int 0, .int 0, .int 0, .int 0, .int 0, .int 0]))]) [0] rfl
    have hD9 := hD.sub (ws' := [(h0, .inr (0, [.ref h1, .ref h2, .ref h3, .ref h4, .int 0, .int 0, .int 0, .int 0, .int 0, .int 0]))]) [0] (by decide) rfl
    have hK9 := hK.sub (tys' := []) [] rfl
    exact W.iret (v := (-1)) hx hb hr (fun t ht hW => ⟨⟨(-1), (), rfl, rfl, ⟨by rw [ht]; exact hP9, va_K.moved hW.alike hK9, hD9⟩⟩, hS.F ht⟩) hS.2.2 dX0_tellPerson_20
  · refine lv_iload_n hx hb dX0_tellPerson_4 rfl (lv_at hl 1 rfl) ?_
    refine lv_aload_n hx hb dX0_tellPerson_5 rfl (lv_at hl 0 rfl) ?_
    refine va_get (D := (dC, dI)) (ci := 0) (v := .int 0) (C := RX0) (T := TX0) (N := 10) hx hb hts hinX0 hown hK hP 0 rfl rfl 5 (by decide) (hts (.fieldLink RX0 33 "CensusDesk$Book" "persons" "I") (List.mem_of_getElem? (i := 1) rfl)) (fun _ h9 => h9) rfl dX0_tellPerson_6 ?_
    refine lv_icmp_ge (tgt := 19) hx hb dX0_tellPerson_9 (by decide) (fun c_2 => ?_) (fun c_2 => False.elim (c_2 (k_nlt c_1)))
    refine lv_iconst (v := (-1)) hx hb dX0_tellPerson_19 (by decide) ?_
    have hP9 := hP.sub (ws' := [(h0, .inr (0, [.ref h1, .ref h2, .ref h3, .ref h4, .int 0, .int 0, .int 0, .int 0, .int 0, .int 0]))]) [0] rfl
    have hD9 := hD.sub (ws' := [(h0, .inr (0, [.ref h1, .ref h2, .ref h3, .ref h4, .int 0, .int 0, .int 0, .int 0, .int 0, .int 0]))]) [0] (by decide) rfl
    have hK9 := hK.sub (tys' := []) [] rfl
    exact W.iret (v := (-1)) hx hb hr (fun t ht hW => ⟨⟨(-1), (), rfl, rfl, ⟨by rw [ht]; exact hP9, va_K.moved hW.alike hK9, hD9⟩⟩, hS.F ht⟩) hS.2.2 dX0_tellPerson_20
set_option maxHeartbeats 1000000 in
set_option maxRecDepth 100000 in
theorem c_X0_signOf (l : Launch) (dC : Nat → ClassId) (dI : Nat → Nat → Nat) (h0 h1 h2 h3 h4 : Nat) (i k : Int32) (sz : Nat)  : Met l yX0_signOf wsX0_signOf ({ frames := 1, cells := 0, slots := 0, locals := 22 }) (va_Pc [.ref h0, .int i, .int k] (kPre dC dI [] [(h0, .inr (0, [.ref h1, .ref h2, .ref h3, .ref h4, .int 0, .int 0, .int 0, .int 0, .int 0, .int 0]))] sz)) (va_Qi (fun (r : Int32) (_ : Unit) => r = 0) (fun (_ : Unit) (_ : State) => True) (va_A [(h0, .inr (0, [.ref h1, .ref h2, .ref h3, .ref h4, .int 0, .int 0, .int 0, .int 0, .int 0, .int 0]))] sz)) 0 0 (va_A [(h0, .inr (0, [.ref h1, .ref h2, .ref h3, .ref h4, .int 0, .int 0, .int 0, .int 0, .int 0, .int 0]))] sz) := by
  refine Met.ofW (cc := cX0_signOf) (maxL := 3) (ret := (some .int)) (by decide) rfl ?_
  intro p e s m args below meth c s₁ B hml hv
  obtain ⟨rfl, hsz, hP, hK, hD0, hN⟩ := hv
  have hx := B.exec
  have hb := B.bytes
  have hr := B.returns
  have hts := atoms_spec (ws := wsX0_signOf) B.pre
  have hown : s.vm.findClass RX0 = some m.cls := findClass_of_methodNamed B.named
  have hlocks := B.notSynchronized
  subst hsz
  have hD := hD0.self (sz := s.heap.size)
  generalize hAe : va_A [(h0, .inr (0, [.ref h1, .ref h2, .ref h3, .ref h4, .int 0, .int 0, .int 0, .int 0, .int 0, .int 0]))] s.heap.size = A at hD ⊢
  have hA : ∀ q : Nat, s.heap.size ≤ q → A q := fun q h => by rw [← hAe]; exact Or.inr h
  have hS : va_S A s.heap s.heap [] := va_S.rf
  have hP : va_P (dC, dI) vwCl [(h0, .inr (0, [.ref h1, .ref h2, .ref h3, .ref h4, .int 0, .int 0, .int 0, .int 0, .int 0, .int 0]))] s.heap := hP
  have hinX0 : ∀ w ∈ wsX00, w ∈ wsX0_signOf := fun _ h => List.mem_cons_of_mem _ (List.mem_append_right _ h)
  have hl := lv_entry ([.ref h0, .int i, .int k]) (n := 3) (Nat.le_of_ble_eq_true rfl)
  rw [lg_entry_eq]
  generalize (lg_sl ([.ref h0, .int i, .int k]) ++ List.replicate (3 - (lg_sl ([.ref h0, .int i, .int k])).length) Slot.unset).toArray = ls at hl ⊢
  have hl : lv_has ls 3 [(0, .ref h0), (1, .int i), (2, .int k)] := hl
  refine lv_iload_n hx hb dX0_signOf_0 rfl (lv_at hl 2 rfl) ?_
  refine lv_if_lt (tgt := 20) hx hb dX0_signOf_1 (by decide) (fun c_1 => ?_) (fun c_1 => ?_)
  · refine lv_iconst (v := 0) hx hb dX0_signOf_20 (by decide) ?_
    exact W.iret (v := 0) hx hb hr (fun t ht hW => ⟨⟨0, (), rfl, rfl, trivial⟩, hS.F ht⟩) hS.2.2 dX0_signOf_21
  · refine lv_iload_n hx hb dX0_signOf_4 rfl (lv_at hl 2 rfl) ?_
    refine lv_bipush (v := 30) hx hb dX0_signOf_5 (by decide) ?_
    refine lv_icmp_ge (tgt := 20) hx hb dX0_signOf_7 (by decide) (fun c_2 => ?_) (fun c_2 => ?_)
    · refine lv_iconst (v := 0) hx hb dX0_signOf_20 (by decide) ?_
      exact W.iret (v := 0) hx hb hr (fun t ht hW => ⟨⟨0, (), rfl, rfl, trivial⟩, hS.F ht⟩) hS.2.2 dX0_signOf_21
    · refine lv_iload_n hx hb dX0_signOf_10 rfl (lv_at hl 2 rfl) ?_
      refine lv_aload_n hx hb dX0_signOf_11 rfl (lv_at hl 0 rfl) ?_
      refine lv_iload_n hx hb dX0_signOf_12 rfl (lv_at hl 1 rfl) ?_
      refine lv_iconst (v := 3) hx hb dX0_signOf_13 (by decide) ?_
      have hPc := hP.sub (ws' := [(h0, .inr (0, [.ref h1, .ref h2, .ref h3, .ref h4, .int 0, .int 0, .int 0, .int 0, .int 0, .int 0]))]) [0] rfl
      have hDc := hD.sub (ws' := [(h0, .inr (0, [.ref h1, .ref h2, .ref h3, .ref h4, .int 0, .int 0, .int 0, .int 0, .int 0, .int 0]))]) [0] (by decide) rfl
      have hKc := hK.sub (tys' := []) [] rfl
      have hFc := va_free (wc := [(h0, .inr (0, [.ref h1, .ref h2, .ref h3, .ref h4, .int 0, .int 0, .int 0, .int 0, .int 0, .int 0]))]) hD hS hA [0] rfl
      refine va_calli (va_runV (As := [.int i, .int 3]) (rest := [.int k]) ⟨hx, hb, hml, hown, hts⟩ (c_X0_tellPerson l dC dI h0 h1 h2 h3 h4 i 3 _ ) (cwV 2 hts gX0_signOf_X0_tellPerson rfl rfl rfl (by decide +kernel) ⟨Nat.le_of_ble_eq_true rfl, Nat.le_of_ble_eq_true rfl⟩) (kPreV hPc hKc hDc hN (va_recv hKc hPc (ci := 0) (q0 := 0) rfl rfl)) rfl rfl hl.1 rfl (lv_room (Nat.le_of_ble_eq_true rfl)) dX0_signOf_14 ⟨(by decide +kernel), (by decide +kernel)⟩) hS (fun q _ h => hFc q h) hFc (fun r_3 u t H1 locs ht hvm hw hB hz1 hk1 hS => ?_)
      obtain ⟨hP, hD, hK⟩ := kJoin (wc := [(h0, .inr (0, [.ref h1, .ref h2, .ref h3, .ref h4, .int 0, .int 0, .int 0, .int 0, .int 0, .int 0]))]) (wr := []) (w1 := [(h0, .inr (0, [.ref h1, .ref h2, .ref h3, .ref h4, .int 0, .int 0, .int 0, .int 0, .int 0, .int 0]))]) hP hD hK [0] [] rfl rfl (by decide) (by decide) hk1 hFc ht hvm hB
      have hK : va_K (dC, dI) vwCl [] s := hK
      generalize H1 = H at hP hS ⊢
      have hP : va_P (dC, dI) vwCl [(h0, .inr (0, [.ref h1, .ref h2, .ref h3, .ref h4, .int 0, .int 0, .int 0, .int 0, .int 0, .int 0]))] H := hP
      have hD : va_D A [(h0, .inr (0, [.ref h1, .ref h2, .ref h3, .ref h4, .int 0, .int 0, .int 0, .int 0, .int 0, .int 0]))] := hD
      try dsimp only at hw
      subst hw
      refine lv_icmp_lt (tgt := 22) hx hb dX0_signOf_17 (by decide) (fun c_4 => False.elim (c_1 (k_m1 c_4))) (fun c_4 => ?_)
      refine lv_iconst (v := 0) hx hb dX0_signOf_20 (by decide) ?_
      exact W.iret (v := 0) hx hb hr (fun t ht hW => ⟨⟨0, (), rfl, rfl, trivial⟩, hS.F ht⟩) hS.2.2 dX0_signOf_21
set_option maxHeartbeats 1000000 in
set_option maxRecDepth 100000 in
theorem c_X0_seek_0 (l : Launch) (dC : Nat → ClassId) (dI : Nat → Nat → Nat) (h0 h1 h2 h3 h4 : Nat) (k4 : ClassId) (f : Nat → Int32) (wd : Int32) (sz : Nat)  : Met l yX0_seek wsX0_seek ({ frames := 0, cells := 0, slots := 0, locals := 0 }) (va_Pc [.ref h0, .int 0, .int wd] (kPre dC dI [(k4, .int)] [(h0, .inr (0, [.ref h1, .ref h2, .ref h3, .ref h4, .int 0, .int 0, .int 0, .int 0, .int 0, .int 0])), (h4, .inl (k4, 16, .inl f))] sz)) (va_Qv (fun (_ : Unit) => True) (fun (_ : Unit) (t : State) => ∃ (f2 : Nat → Int32), kB dC dI (va_A [(h0, .inr (0, [.ref h1, .ref h2, .ref h3, .ref h4, .int 0, .int 0, .int 0, .int 0, .int 0, .int 0])), (h4, .inl (k4, 16, .inl f))] sz) [(k4, .int)] [(h0, .inr (0, [.ref h1, .ref h2, .ref h3, .ref h4, .int 0, .int 0, .int 0, .int 0, .int 0, .int 0])), (h4, .inl (k4, 16, .inl f2))] t) (va_A [(h0, .inr (0, [.ref h1, .ref h2, .ref h3, .ref h4, .int 0, .int 0, .int 0, .int 0, .int 0, .int 0])), (h4, .inl (k4, 16, .inl f))] sz)) 0 0 (va_A [(h0, .inr (0, [.ref h1, .ref h2, .ref h3, .ref h4, .int 0, .int 0, .int 0, .int 0, .int 0, .int 0])), (h4, .inl (k4, 16, .inl f))] sz) := by
  refine Met.ofW (cc := cX0_seek) (maxL := 5) (ret := none) (by decide) rfl ?_
  intro p e s m args below meth c s₁ B hml hv
  obtain ⟨rfl, hsz, hP, hK, hD0, hN⟩ := hv
  have hx := B.exec
  have hb := B.bytes
  have hr := B.returns
  have hts := atoms_spec (ws := wsX0_seek) B.pre
  have hown : s.vm.findClass RX0 = some m.cls := findClass_of_methodNamed B.named
  have hlocks := B.notSynchronized
  subst hsz
  have hD := hD0.self (sz := s.heap.size)
  generalize hAe : va_A [(h0, .inr (0, [.ref h1, .ref h2, .ref h3, .ref h4, .int 0, .int 0, .int 0, .int 0, .int 0, .int 0])), (h4, .inl (k4, 16, .inl f))] s.heap.size = A at hD ⊢
  have hA : ∀ q : Nat, s.heap.size ≤ q → A q := fun q h => by rw [← hAe]; exact Or.inr h
  have hS : va_S A s.heap s.heap [] := va_S.rf
  have hP : va_P (dC, dI) vwCl [(h0, .inr (0, [.ref h1, .ref h2, .ref h3, .ref h4, .int 0, .int 0, .int 0, .int 0, .int 0, .int 0])), (h4, .inl (k4, 16, .inl f))] s.heap := hP
  have hinX0 : ∀ w ∈ wsX00, w ∈ wsX0_seek := fun _ h => List.mem_cons_of_mem _ (List.mem_append_right _ h)
  have hl := lv_entry ([.ref h0, .int 0, .int wd]) (n := 5) (Nat.le_of_ble_eq_true rfl)
  rw [lg_entry_eq]
  generalize (lg_sl ([.ref h0, .int 0, .int wd]) ++ List.replicate (5 - (lg_sl ([.ref h0, .int 0, .int wd])).length) Slot.unset).toArray = ls at hl ⊢
  have hl : lv_has ls 5 [(0, .ref h0), (1, .int 0), (2, .int wd)] := hl
  refine lv_iconst (v := 0) hx hb dX0_seek_0 (by decide) ?_
  refine lv_istore_n (lv' := [(3, .int 0), (0, .ref h0), (1, .int 0), (2, .int wd)]) hx hb dX0_seek_1 rfl hl (by decide) rfl (fun ls hl => ?_)
  refine lv_iload_n hx hb dX0_seek_2 rfl (lv_at hl 0 rfl) ?_
  refine lv_iconst (v := 4) hx hb dX0_seek_3 (by decide) ?_
  refine lv_icmp_ge (tgt := 50) hx hb dX0_seek_4 (by decide) (fun c_1 => absurd c_1 (by decide)) (fun c_1 => ?_)
  refine lv_iload_n hx hb dX0_seek_7 rfl (lv_at hl 2 rfl) ?_
  refine lv_iload_n hx hb dX0_seek_8 rfl (lv_at hl 0 rfl) ?_
  refine lv_iadd hx hb dX0_seek_9 ?_
  refine k_top (v := 0) (by decide) ?_
  refine lv_istore (lv' := [(4, .int 0), (3, .int 0), (0, .ref h0), (1, .int 0), (2, .int wd)]) hx hb dX0_seek_10 hl (by decide) rfl (fun ls hl => ?_)
  refine lv_iload hx hb dX0_seek_12 (lv_at hl 0 rfl) ?_
  refine lv_if_lt (tgt := 44) hx hb dX0_seek_14 (by decide) (fun c_2 => absurd c_2 (by decide)) (fun c_2 => ?_)
  refine lv_iload hx hb dX0_seek_17 (lv_at hl 0 rfl) ?_
  refine lv_bipush (v := 16) hx hb dX0_seek_19 (by decide) ?_
  refine lv_icmp_ge (tgt := 44) hx hb dX0_seek_21 (by decide) (fun c_3 => absurd c_3 (by decide)) (fun c_3 => ?_)
  refine lv_aload_n hx hb dX0_seek_24 rfl (lv_at hl 2 rfl) ?_
  refine va_get (D := (dC, dI)) (ci := 0) (v := .ref h4) (C := RX0) (T := TX0) (N := 10) hx hb hts hinX0 hown hK hP 0 rfl rfl 3 (by decide) (hts (.fieldLink RX0 25 "CensusDesk$Book" "sought" "[I") (List.mem_of_getElem? (i := 1) rfl)) (fun _ h9 => h9) rfl dX0_seek_25 ?_
  refine lv_iload hx hb dX0_seek_28 (lv_at hl 0 rfl) ?_
  refine lv_iload_n hx hb dX0_seek_30 rfl (lv_at hl 4 rfl) ?_
  refine lv_bipush (v := 24) hx hb dX0_seek_31 (by decide) ?_
  refine lv_bipush (v := 8) hx hb dX0_seek_33 (by decide) ?_
  refine lv_iload_n hx hb dX0_seek_35 rfl (lv_at hl 1 rfl) ?_
  refine lv_imul hx hb dX0_seek_36 ?_
  refine k_top (v := 0) (by decide) ?_
  refine lv_isub hx hb dX0_seek_37 ?_
  refine k_top (v := 24) (by decide) ?_
  obtain ⟨z_4, ez_4⟩ : ∃ z : Int32, (Int32.toUInt32 wd >>> (Int32.toUInt32 24 &&& Int32.toUInt32 31)).toInt32 = z := ⟨_, rfl⟩
  refine lv_iushr (v := z_4) hx hb dX0_seek_38 ez_4 ?_
  refine lv_sipush (v := 255) hx hb dX0_seek_39 (by decide) ?_
  refine lv_iand hx hb dX0_seek_42 ?_
  refine va_iast hx hb hK hP hD hS 1 0 rfl rfl (i := 0) (x := (z_4 &&& 255)) (vp_in_nI (n := 0) (by decide) (by decide)) dX0_seek_43 (fun H locs hP hD hS => ?_)
  obtain ⟨f_5, ef_5⟩ : ∃ z : Nat → Int32, z = upd f (Int32.toNatClampNeg 0) (z_4 &&& 255) := ⟨_, rfl⟩
  rw [← ef_5] at hP hD
  have hP : va_P (dC, dI) vwCl [(h0, .inr (0, [.ref h1, .ref h2, .ref h3, .ref h4, .int 0, .int 0, .int 0, .int 0, .int 0, .int 0])), (h4, .inl (k4, 16, .inl f_5))] H := hP
  have hD : va_D A [(h0, .inr (0, [.ref h1, .ref h2, .ref h3, .ref h4, .int 0, .int 0, .int 0, .int 0, .int 0, .int 0])), (h4, .inl (k4, 16, .inl f_5))] := hD
  refine lv_iinc (v := 1) (lv' := [(3, .int 1), (4, .int 0), (0, .ref h0), (1, .int 0), (2, .int wd)]) hx hb dX0_seek_44 hl (k := 1) rfl (by decide) (by decide) rfl (fun ls hl => ?_)
  refine lv_goto (tgt := 2) hx hb dX0_seek_47 (by decide) ?_
  refine lv_iload_n hx hb dX0_seek_2 rfl (lv_at hl 0 rfl) ?_
  refine lv_iconst (v := 4) hx hb dX0_seek_3 (by decide) ?_
  refine lv_icmp_ge (tgt := 50) hx hb dX0_seek_4 (by decide) (fun c_6 => absurd c_6 (by decide)) (fun c_6 => ?_)
  refine lv_iload_n hx hb dX0_seek_7 rfl (lv_at hl 3 rfl) ?_
  refine lv_iload_n hx hb dX0_seek_8 rfl (lv_at hl 0 rfl) ?_
  refine lv_iadd hx hb dX0_seek_9 ?_
  refine k_top (v := 1) (by decide) ?_
  refine lv_istore (lv' := [(4, .int 1), (3, .int 1), (0, .ref h0), (1, .int 0), (2, .int wd)]) hx hb dX0_seek_10 hl (by decide) rfl (fun ls hl => ?_)
  refine lv_iload hx hb dX0_seek_12 (lv_at hl 0 rfl) ?_
  refine lv_if_lt (tgt := 44) hx hb dX0_seek_14 (by decide) (fun c_7 => absurd c_7 (by decide)) (fun c_7 => ?_)
  refine lv_iload hx hb dX0_seek_17 (lv_at hl 0 rfl) ?_
  refine lv_bipush (v := 16) hx hb dX0_seek_19 (by decide) ?_
  refine lv_icmp_ge (tgt := 44) hx hb dX0_seek_21 (by decide) (fun c_8 => absurd c_8 (by decide)) (fun c_8 => ?_)
  refine lv_aload_n hx hb dX0_seek_24 rfl (lv_at hl 2 rfl) ?_
  refine va_get (D := (dC, dI)) (ci := 0) (v := .ref h4) (C := RX0) (T := TX0) (N := 10) hx hb hts hinX0 hown hK hP 0 rfl rfl 3 (by decide) (hts (.fieldLink RX0 25 "CensusDesk$Book" "sought" "[I") (List.mem_of_getElem? (i := 1) rfl)) (fun _ h9 => h9) rfl dX0_seek_25 ?_
  refine lv_iload hx hb dX0_seek_28 (lv_at hl 0 rfl) ?_
  refine lv_iload_n hx hb dX0_seek_30 rfl (lv_at hl 4 rfl) ?_
  refine lv_bipush (v := 24) hx hb dX0_seek_31 (by decide) ?_
  refine lv_bipush (v := 8) hx hb dX0_seek_33 (by decide) ?_
  refine lv_iload_n hx hb dX0_seek_35 rfl (lv_at hl 1 rfl) ?_
  refine lv_imul hx hb dX0_seek_36 ?_
  refine k_top (v := 8) (by decide) ?_
  refine lv_isub hx hb dX0_seek_37 ?_
  refine k_top (v := 16) (by decide) ?_
  obtain ⟨z_9, ez_9⟩ : ∃ z : Int32, (Int32.toUInt32 wd >>> (Int32.toUInt32 16 &&& Int32.toUInt32 31)).toInt32 = z := ⟨_, rfl⟩
  refine lv_iushr (v := z_9) hx hb dX0_seek_38 ez_9 ?_
  refine lv_sipush (v := 255) hx hb dX0_seek_39 (by decide) ?_
  refine lv_iand hx hb dX0_seek_42 ?_
  refine va_iast hx hb hK hP hD hS 1 0 rfl rfl (i := 1) (x := (z_9 &&& 255)) (vp_in_nI (n := 1) (by decide) (by decide)) dX0_seek_43 (fun H locs hP hD hS => ?_)
  obtain ⟨f_10, ef_10⟩ : ∃ z : Nat → Int32, z = upd f_5 (Int32.toNatClampNeg 1) (z_9 &&& 255) := ⟨_, rfl⟩
  rw [← ef_10] at hP hD
  have hP : va_P (dC, dI) vwCl [(h0, .inr (0, [.ref h1, .ref h2, .ref h3, .ref h4, .int 0, .int 0, .int 0, .int 0, .int 0, .int 0])), (h4, .inl (k4, 16, .inl f_10))] H := hP
  have hD : va_D A [(h0, .inr (0, [.ref h1, .ref h2, .ref h3, .ref h4, .int 0, .int 0, .int 0, .int 0, .int 0, .int 0])), (h4, .inl (k4, 16, .inl f_10))] := hD
  refine lv_iinc (v := 2) (lv' := [(3, .int 2), (4, .int 1), (0, .ref h0), (1, .int 0), (2, .int wd)]) hx hb dX0_seek_44 hl (k := 1) rfl (by decide) (by decide) rfl (fun ls hl => ?_)
  refine lv_goto (tgt := 2) hx hb dX0_seek_47 (by decide) ?_
  refine lv_iload_n hx hb dX0_seek_2 rfl (lv_at hl 0 rfl) ?_
  refine lv_iconst (v := 4) hx hb dX0_seek_3 (by decide) ?_
  refine lv_icmp_ge (tgt := 50) hx hb dX0_seek_4 (by decide) (fun c_11 => absurd c_11 (by decide)) (fun c_11 => ?_)
  refine lv_iload_n hx hb dX0_seek_7 rfl (lv_at hl 3 rfl) ?_
  refine lv_iload_n hx hb dX0_seek_8 rfl (lv_at hl 0 rfl) ?_
  refine lv_iadd hx hb dX0_seek_9 ?_
  refine k_top (v := 2) (by decide) ?_
  refine lv_istore (lv' := [(4, .int 2), (3, .int 2), (0, .ref h0), (1, .int 0), (2, .int wd)]) hx hb dX0_seek_10 hl (by decide) rfl (fun ls hl => ?_)
  refine lv_iload hx hb dX0_seek_12 (lv_at hl 0 rfl) ?_
  refine lv_if_lt (tgt := 44) hx hb dX0_seek_14 (by decide) (fun c_12 => absurd c_12 (by decide)) (fun c_12 => ?_)
  refine lv_iload hx hb dX0_seek_17 (lv_at hl 0 rfl) ?_
  refine lv_bipush (v := 16) hx hb dX0_seek_19 (by decide) ?_
  refine lv_icmp_ge (tgt := 44) hx hb dX0_seek_21 (by decide) (fun c_13 => absurd c_13 (by decide)) (fun c_13 => ?_)
  refine lv_aload_n hx hb dX0_seek_24 rfl (lv_at hl 2 rfl) ?_
  refine va_get (D := (dC, dI)) (ci := 0) (v := .ref h4) (C := RX0) (T := TX0) (N := 10) hx hb hts hinX0 hown hK hP 0 rfl rfl 3 (by decide) (hts (.fieldLink RX0 25 "CensusDesk$Book" "sought" "[I") (List.mem_of_getElem? (i := 1) rfl)) (fun _ h9 => h9) rfl dX0_seek_25 ?_
  refine lv_iload hx hb dX0_seek_28 (lv_at hl 0 rfl) ?_
  refine lv_iload_n hx hb dX0_seek_30 rfl (lv_at hl 4 rfl) ?_
  refine lv_bipush (v := 24) hx hb dX0_seek_31 (by decide) ?_
  refine lv_bipush (v := 8) hx hb dX0_seek_33 (by decide) ?_
  refine lv_iload_n hx hb dX0_seek_35 rfl (lv_at hl 1 rfl) ?_
  refine lv_imul hx hb dX0_seek_36 ?_
  refine k_top (v := 16) (by decide) ?_
  refine lv_isub hx hb dX0_seek_37 ?_
  refine k_top (v := 8) (by decide) ?_
  obtain ⟨z_14, ez_14⟩ : ∃ z : Int32, (Int32.toUInt32 wd >>> (Int32.toUInt32 8 &&& Int32.toUInt32 31)).toInt32 = z := ⟨_, rfl⟩
  refine lv_iushr (v := z_14) hx hb dX0_seek_38 ez_14 ?_
  refine lv_sipush (v := 255) hx hb dX0_seek_39 (by decide) ?_
  refine lv_iand hx hb dX0_seek_42 ?_
  refine va_iast hx hb hK hP hD hS 1 0 rfl rfl (i := 2) (x := (z_14 &&& 255)) (vp_in_nI (n := 2) (by decide) (by decide)) dX0_seek_43 (fun H locs hP hD hS => ?_)
  obtain ⟨f_15, ef_15⟩ : ∃ z : Nat → Int32, z = upd f_10 (Int32.toNatClampNeg 2) (z_14 &&& 255) := ⟨_, rfl⟩
  rw [← ef_15] at hP hD
  have hP : va_P (dC, dI) vwCl [(h0, .inr (0, [.ref h1, .ref h2, .ref h3, .ref h4, .int 0, .int 0, .int 0, .int 0, .int 0, .int 0])), (h4, .inl (k4, 16, .inl f_15))] H := hP
  have hD : va_D A [(h0, .inr (0, [.ref h1, .ref h2, .ref h3, .ref h4, .int 0, .int 0, .int 0, .int 0, .int 0, .int 0])), (h4, .inl (k4, 16, .inl f_15))] := hD
  refine lv_iinc (v := 3) (lv' := [(3, .int 3), (4, .int 2), (0, .ref h0), (1, .int 0), (2, .int wd)]) hx hb dX0_seek_44 hl (k := 1) rfl (by decide) (by decide) rfl (fun ls hl => ?_)
  refine lv_goto (tgt := 2) hx hb dX0_seek_47 (by decide) ?_
  refine lv_iload_n hx hb dX0_seek_2 rfl (lv_at hl 0 rfl) ?_
  refine lv_iconst (v := 4) hx hb dX0_seek_3 (by decide) ?_
  refine lv_icmp_ge (tgt := 50) hx hb dX0_seek_4 (by decide) (fun c_16 => absurd c_16 (by decide)) (fun c_16 => ?_)
  refine lv_iload_n hx hb dX0_seek_7 rfl (lv_at hl 3 rfl) ?_
  refine lv_iload_n hx hb dX0_seek_8 rfl (lv_at hl 0 rfl) ?_
  refine lv_iadd hx hb dX0_seek_9 ?_
  refine k_top (v := 3) (by decide) ?_
  refine lv_istore (lv' := [(4, .int 3), (3, .int 3), (0, .ref h0), (1, .int 0), (2, .int wd)]) hx hb dX0_seek_10 hl (by decide) rfl (fun ls hl => ?_)
  refine lv_iload hx hb dX0_seek_12 (lv_at hl 0 rfl) ?_
  refine lv_if_lt (tgt := 44) hx hb dX0_seek_14 (by decide) (fun c_17 => absurd c_17 (by decide)) (fun c_17 => ?_)
  refine lv_iload hx hb dX0_seek_17 (lv_at hl 0 rfl) ?_
  refine lv_bipush (v := 16) hx hb dX0_seek_19 (by decide) ?_
  refine lv_icmp_ge (tgt := 44) hx hb dX0_seek_21 (by decide) (fun c_18 => absurd c_18 (by decide)) (fun c_18 => ?_)
  refine lv_aload_n hx hb dX0_seek_24 rfl (lv_at hl 2 rfl) ?_
  refine va_get (D := (dC, dI)) (ci := 0) (v := .ref h4) (C := RX0) (T := TX0) (N := 10) hx hb hts hinX0 hown hK hP 0 rfl rfl 3 (by decide) (hts (.fieldLink RX0 25 "CensusDesk$Book" "sought" "[I") (List.mem_of_getElem? (i := 1) rfl)) (fun _ h9 => h9) rfl dX0_seek_25 ?_
  refine lv_iload hx hb dX0_seek_28 (lv_at hl 0 rfl) ?_
  refine lv_iload_n hx hb dX0_seek_30 rfl (lv_at hl 4 rfl) ?_
  refine lv_bipush (v := 24) hx hb dX0_seek_31 (by decide) ?_
  refine lv_bipush (v := 8) hx hb dX0_seek_33 (by decide) ?_
  refine lv_iload_n hx hb dX0_seek_35 rfl (lv_at hl 1 rfl) ?_
  refine lv_imul hx hb dX0_seek_36 ?_
  refine k_top (v := 24) (by decide) ?_
  refine lv_isub hx hb dX0_seek_37 ?_
  refine k_top (v := 0) (by decide) ?_
  obtain ⟨z_19, ez_19⟩ : ∃ z : Int32, (Int32.toUInt32 wd >>> (Int32.toUInt32 0 &&& Int32.toUInt32 31)).toInt32 = z := ⟨_, rfl⟩
  refine lv_iushr (v := z_19) hx hb dX0_seek_38 ez_19 ?_
  refine lv_sipush (v := 255) hx hb dX0_seek_39 (by decide) ?_
  refine lv_iand hx hb dX0_seek_42 ?_
  refine va_iast hx hb hK hP hD hS 1 0 rfl rfl (i := 3) (x := (z_19 &&& 255)) (vp_in_nI (n := 3) (by decide) (by decide)) dX0_seek_43 (fun H locs hP hD hS => ?_)
  obtain ⟨f_20, ef_20⟩ : ∃ z : Nat → Int32, z = upd f_15 (Int32.toNatClampNeg 3) (z_19 &&& 255) := ⟨_, rfl⟩
  rw [← ef_20] at hP hD
  have hP : va_P (dC, dI) vwCl [(h0, .inr (0, [.ref h1, .ref h2, .ref h3, .ref h4, .int 0, .int 0, .int 0, .int 0, .int 0, .int 0])), (h4, .inl (k4, 16, .inl f_20))] H := hP
  have hD : va_D A [(h0, .inr (0, [.ref h1, .ref h2, .ref h3, .ref h4, .int 0, .int 0, .int 0, .int 0, .int 0, .int 0])), (h4, .inl (k4, 16, .inl f_20))] := hD
  refine lv_iinc (v := 4) (lv' := [(3, .int 4), (4, .int 3), (0, .ref h0), (1, .int 0), (2, .int wd)]) hx hb dX0_seek_44 hl (k := 1) rfl (by decide) (by decide) rfl (fun ls hl => ?_)
  refine lv_goto (tgt := 2) hx hb dX0_seek_47 (by decide) ?_
  refine lv_iload_n hx hb dX0_seek_2 rfl (lv_at hl 0 rfl) ?_
  refine lv_iconst (v := 4) hx hb dX0_seek_3 (by decide) ?_
  refine lv_icmp_ge (tgt := 50) hx hb dX0_seek_4 (by decide) (fun c_21 => ?_) (fun c_21 => absurd c_21 (by decide))
  have hP9 := hP.sub (ws' := [(h0, .inr (0, [.ref h1, .ref h2, .ref h3, .ref h4, .int 0, .int 0, .int 0, .int 0, .int 0, .int 0])), (h4, .inl (k4, 16, .inl f_20))]) [0, 1] rfl
  have hD9 := hD.sub (ws' := [(h0, .inr (0, [.ref h1, .ref h2, .ref h3, .ref h4, .int 0, .int 0, .int 0, .int 0, .int 0, .int 0])), (h4, .inl (k4, 16, .inl f_20))]) [0, 1] (by decide) rfl
  have hK9 := hK.sub (tys' := [(k4, .int)]) [0] rfl
  exact W.vret hx hb hr (fun t ht hW => ⟨⟨(), rfl, trivial, f_20, ⟨by rw [ht]; exact hP9, va_K.moved hW.alike hK9, hD9⟩⟩, hS.F ht⟩) hS.2.2 dX0_seek_50
set_option maxHeartbeats 1000000 in
set_option maxRecDepth 100000 in
theorem c_X0_seek_4 (l : Launch) (dC : Nat → ClassId) (dI : Nat → Nat → Nat) (h0 h1 h2 h3 h4 : Nat) (k4 : ClassId) (f : Nat → Int32) (wd : Int32) (sz : Nat)  : Met l yX0_seek wsX0_seek ({ frames := 0, cells := 0, slots := 0, locals := 0 }) (va_Pc [.ref h0, .int 4, .int wd] (kPre dC dI [(k4, .int)] [(h0, .inr (0, [.ref h1, .ref h2, .ref h3, .ref h4, .int 0, .int 0, .int 0, .int 0, .int 0, .int 0])), (h4, .inl (k4, 16, .inl f))] sz)) (va_Qv (fun (_ : Unit) => True) (fun (_ : Unit) (t : State) => ∃ (f2 : Nat → Int32), kB dC dI (va_A [(h0, .inr (0, [.ref h1, .ref h2, .ref h3, .ref h4, .int 0, .int 0, .int 0, .int 0, .int 0, .int 0])), (h4, .inl (k4, 16, .inl f))] sz) [(k4, .int)] [(h0, .inr (0, [.ref h1, .ref h2, .ref h3, .ref h4, .int 0, .int 0, .int 0, .int 0, .int 0, .int 0])), (h4, .inl (k4, 16, .inl f2))] t) (va_A [(h0, .inr (0, [.ref h1, .ref h2, .ref h3, .ref h4, .int 0, .int 0, .int 0, .int 0, .int 0, .int 0])), (h4, .inl (k4, 16, .inl f))] sz)) 0 0 (va_A [(h0, .inr (0, [.ref h1, .ref h2, .ref h3, .ref h4, .int 0, .int 0, .int 0, .int 0, .int 0, .int 0])), (h4, .inl (k4, 16, .inl f))] sz) := by
  refine Met.ofW (cc := cX0_seek) (maxL := 5) (ret := none) (by decide) rfl ?_
  intro p e s m args below meth c s₁ B hml hv
  obtain ⟨rfl, hsz, hP, hK, hD0, hN⟩ := hv
  have hx := B.exec
  have hb := B.bytes
  have hr := B.returns
  have hts := atoms_spec (ws := wsX0_seek) B.pre
  have hown : s.vm.findClass RX0 = some m.cls := findClass_of_methodNamed B.named
  have hlocks := B.notSynchronized
  subst hsz
  have hD := hD0.self (sz := s.heap.size)
  generalize hAe : va_A [(h0, .inr (0, [.ref h1, .ref h2, .ref h3, .ref h4, .int 0, .int 0, .int 0, .int 0, .int 0, .int 0])), (h4, .inl (k4, 16, .inl f))] s.heap.size = A at hD ⊢
  have hA : ∀ q : Nat, s.heap.size ≤ q → A q := fun q h => by rw [← hAe]; exact Or.inr h
  have hS : va_S A s.heap s.heap [] := va_S.rf
  have hP : va_P (dC, dI) vwCl [(h0, .inr (0, [.ref h1, .ref h2, .ref h3, .ref h4, .int 0, .int 0, .int 0, .int 0, .int 0, .int 0])), (h4, .inl (k4, 16, .inl f))] s.heap := hP
  have hinX0 : ∀ w ∈ wsX00, w ∈ wsX0_seek := fun _ h => List.mem_cons_of_mem _ (List.mem_append_right _ h)
  have hl := lv_entry ([.ref h0, .int 4, .int wd]) (n := 5) (Nat.le_of_ble_eq_true rfl)
  rw [lg_entry_eq]
  generalize (lg_sl ([.ref h0, .int 4, .int wd]) ++ List.replicate (5 - (lg_sl ([.ref h0, .int 4, .int wd])).length) Slot.unset).toArray = ls at hl ⊢
  have hl : lv_has ls 5 [(0, .ref h0), (1, .int 4), (2, .int wd)] := hl
  refine lv_iconst (v := 0) hx hb dX0_seek_0 (by decide) ?_
  refine lv_istore_n (lv' := [(3, .int 0), (0, .ref h0), (1, .int 4), (2, .int wd)]) hx hb dX0_seek_1 rfl hl (by decide) rfl (fun ls hl => ?_)
  refine lv_iload_n hx hb dX0_seek_2 rfl (lv_at hl 0 rfl) ?_
  refine lv_iconst (v := 4) hx hb dX0_seek_3 (by decide) ?_
  refine lv_icmp_ge (tgt := 50) hx hb dX0_seek_4 (by decide) (fun c_1 => absurd c_1 (by decide)) (fun c_1 => ?_)
  refine lv_iload_n hx hb dX0_seek_7 rfl (lv_at hl 2 rfl) ?_
  refine lv_iload_n hx hb dX0_seek_8 rfl (lv_at hl 0 rfl) ?_
  refine lv_iadd hx hb dX0_seek_9 ?_
  refine k_top (v := 4) (by decide) ?_
  refine lv_istore (lv' := [(4, .int 4), (3, .int 0), (0, .ref h0), (1, .int 4), (2, .int wd)]) hx hb dX0_seek_10 hl (by decide) rfl (fun ls hl => ?_)
  refine lv_iload hx hb dX0_seek_12 (lv_at hl 0 rfl) ?_
  refine lv_if_lt (tgt := 44) hx hb dX0_seek_14 (by decide) (fun c_2 => absurd c_2 (by decide)) (fun c_2 => ?_)
  refine lv_iload hx hb dX0_seek_17 (lv_at hl 0 rfl) ?_
  refine lv_bipush (v := 16) hx hb dX0_seek_19 (by decide) ?_
  refine lv_icmp_ge (tgt := 44) hx hb dX0_seek_21 (by decide) (fun c_3 => absurd c_3 (by decide)) (fun c_3 => ?_)
  refine lv_aload_n hx hb dX0_seek_24 rfl (lv_at hl 2 rfl) ?_
  refine va_get (D := (dC, dI)) (ci := 0) (v := .ref h4) (C := RX0) (T := TX0) (N := 10) hx hb hts hinX0 hown hK hP 0 rfl rfl 3 (by decide) (hts (.fieldLink RX0 25 "CensusDesk$Book" "sought" "[I") (List.mem_of_getElem? (i := 1) rfl)) (fun _ h9 => h9) rfl dX0_seek_25 ?_
  refine lv_iload hx hb dX0_seek_28 (lv_at hl 0 rfl) ?_
  refine lv_iload_n hx hb dX0_seek_30 rfl (lv_at hl 4 rfl) ?_
  refine lv_bipush (v := 24) hx hb dX0_seek_31 (by decide) ?_
  refine lv_bipush (v := 8) hx hb dX0_seek_33 (by decide) ?_
  refine lv_iload_n hx hb dX0_seek_35 rfl (lv_at hl 1 rfl) ?_
  refine lv_imul hx hb dX0_seek_36 ?_
  refine k_top (v := 0) (by decide) ?_
  refine lv_isub hx hb dX0_seek_37 ?_
  refine k_top (v := 24) (by decide) ?_
  obtain ⟨z_4, ez_4⟩ : ∃ z : Int32, (Int32.toUInt32 wd >>> (Int32.toUInt32 24 &&& Int32.toUInt32 31)).toInt32 = z := ⟨_, rfl⟩
  refine lv_iushr (v := z_4) hx hb dX0_seek_38 ez_4 ?_
  refine lv_sipush (v := 255) hx hb dX0_seek_39 (by decide) ?_
  refine lv_iand hx hb dX0_seek_42 ?_
  refine va_iast hx hb hK hP hD hS 1 0 rfl rfl (i := 4) (x := (z_4 &&& 255)) (vp_in_nI (n := 4) (by decide) (by decide)) dX0_seek_43 (fun H locs hP hD hS => ?_)
  obtain ⟨f_5, ef_5⟩ : ∃ z : Nat → Int32, z = upd f (Int32.toNatClampNeg 4) (z_4 &&& 255) := ⟨_, rfl⟩
  rw [← ef_5] at hP hD
  have hP : va_P (dC, dI) vwCl [(h0, .inr (0, [.ref h1, .ref h2, .ref h3, .ref h4, .int 0, .int 0, .int 0, .int 0, .int 0, .int 0])), (h4, .inl (k4, 16, .inl f_5))] H := hP
  have hD : va_D A [(h0, .inr (0, [.ref h1, .ref h2, .ref h3, .ref h4, .int 0, .int 0, .int 0, .int 0, .int 0, .int 0])), (h4, .inl (k4, 16, .inl f_5))] := hD
  refine lv_iinc (v := 1) (lv' := [(3, .int 1), (4, .int 4), (0, .ref h0), (1, .int 4), (2, .int wd)]) hx hb dX0_seek_44 hl (k := 1) rfl (by decide) (by decide) rfl (fun ls hl => ?_)
  refine lv_goto (tgt := 2) hx hb dX0_seek_47 (by decide) ?_
  refine lv_iload_n hx hb dX0_seek_2 rfl (lv_at hl 0 rfl) ?_
  refine lv_iconst (v := 4) hx hb dX0_seek_3 (by decide) ?_
  refine lv_icmp_ge (tgt := 50) hx hb dX0_seek_4 (by decide) (fun c_6 => absurd c_6 (by decide)) (fun c_6 => ?_)
  refine lv_iload_n hx hb dX0_seek_7 rfl (lv_at hl 3 rfl) ?_
  refine lv_iload_n hx hb dX0_seek_8 rfl (lv_at hl 0 rfl) ?_
  refine lv_iadd hx hb dX0_seek_9 ?_
  refine k_top (v := 5) (by decide) ?_
  refine lv_istore (lv' := [(4, .int 5), (3, .int 1), (0, .ref h0), (1, .int 4), (2, .int wd)]) hx hb dX0_seek_10 hl (by decide) rfl (fun ls hl => ?_)
  refine lv_iload hx hb dX0_seek_12 (lv_at hl 0 rfl) ?_
  refine lv_if_lt (tgt := 44) hx hb dX0_seek_14 (by decide) (fun c_7 => absurd c_7 (by decide)) (fun c_7 => ?_)
  refine lv_iload hx hb dX0_seek_17 (lv_at hl 0 rfl) ?_
  refine lv_bipush (v := 16) hx hb dX0_seek_19 (by decide) ?_
  refine lv_icmp_ge (tgt := 44) hx hb dX0_seek_21 (by decide) (fun c_8 => absurd c_8 (by decide)) (fun c_8 => ?_)
  refine lv_aload_n hx hb dX0_seek_24 rfl (lv_at hl 2 rfl) ?_
  refine va_get (D := (dC, dI)) (ci := 0) (v := .ref h4) (C := RX0) (T := TX0) (N := 10) hx hb hts hinX0 hown hK hP 0 rfl rfl 3 (by decide) (hts (.fieldLink RX0 25 "CensusDesk$Book" "sought" "[I") (List.mem_of_getElem? (i := 1) rfl)) (fun _ h9 => h9) rfl dX0_seek_25 ?_
  refine lv_iload hx hb dX0_seek_28 (lv_at hl 0 rfl) ?_
  refine lv_iload_n hx hb dX0_seek_30 rfl (lv_at hl 4 rfl) ?_
  refine lv_bipush (v := 24) hx hb dX0_seek_31 (by decide) ?_
  refine lv_bipush (v := 8) hx hb dX0_seek_33 (by decide) ?_
  refine lv_iload_n hx hb dX0_seek_35 rfl (lv_at hl 1 rfl) ?_
  refine lv_imul hx hb dX0_seek_36 ?_
  refine k_top (v := 8) (by decide) ?_
  refine lv_isub hx hb dX0_seek_37 ?_
  refine k_top (v := 16) (by decide) ?_
  obtain ⟨z_9, ez_9⟩ : ∃ z : Int32, (Int32.toUInt32 wd >>> (Int32.toUInt32 16 &&& Int32.toUInt32 31)).toInt32 = z := ⟨_, rfl⟩
  refine lv_iushr (v := z_9) hx hb dX0_seek_38 ez_9 ?_
  refine lv_sipush (v := 255) hx hb dX0_seek_39 (by decide) ?_
  refine lv_iand hx hb dX0_seek_42 ?_
  refine va_iast hx hb hK hP hD hS 1 0 rfl rfl (i := 5) (x := (z_9 &&& 255)) (vp_in_nI (n := 5) (by decide) (by decide)) dX0_seek_43 (fun H locs hP hD hS => ?_)
  obtain ⟨f_10, ef_10⟩ : ∃ z : Nat → Int32, z = upd f_5 (Int32.toNatClampNeg 5) (z_9 &&& 255) := ⟨_, rfl⟩
  rw [← ef_10] at hP hD
  have hP : va_P (dC, dI) vwCl [(h0, .inr (0, [.ref h1, .ref h2, .ref h3, .ref h4, .int 0, .int 0, .int 0, .int 0, .int 0, .int 0])), (h4, .inl (k4, 16, .inl f_10))] H := hP
  have hD : va_D A [(h0, .inr (0, [.ref h1, .ref h2, .ref h3, .ref h4, .int 0, .int 0, .int 0, .int 0, .int 0, .int 0])), (h4, .inl (k4, 16, .inl f_10))] := hD
  refine lv_iinc (v := 2) (lv' := [(3, .int 2), (4, .int 5), (0, .ref h0), (1, .int 4), (2, .int wd)]) hx hb dX0_seek_44 hl (k := 1) rfl (by decide) (by decide) rfl (fun ls hl => ?_)
  refine lv_goto (tgt := 2) hx hb dX0_seek_47 (by decide) ?_
  refine lv_iload_n hx hb dX0_seek_2 rfl (lv_at hl 0 rfl) ?_
  refine lv_iconst (v := 4) hx hb dX0_seek_3 (by decide) ?_
  refine lv_icmp_ge (tgt := 50) hx hb dX0_seek_4 (by decide) (fun c_11 => absurd c_11 (by decide)) (fun c_11 => ?_)
  refine lv_iload_n hx hb dX0_seek_7 rfl (lv_at hl 3 rfl) ?_
  refine lv_iload_n hx hb dX0_seek_8 rfl (lv_at hl 0 rfl) ?_
  refine lv_iadd hx hb dX0_seek_9 ?_
  refine k_top (v := 6) (by decide) ?_
  refine lv_istore (lv' := [(4, .int 6), (3, .int 2), (0, .ref h0), (1, .int 4), (2, .int wd)]) hx hb dX0_seek_10 hl (by decide) rfl (fun ls hl => ?_)
  refine lv_iload hx hb dX0_seek_12 (lv_at hl 0 rfl) ?_
  refine lv_if_lt (tgt := 44) hx hb dX0_seek_14 (by decide) (fun c_12 => absurd c_12 (by decide)) (fun c_12 => ?_)
  refine lv_iload hx hb dX0_seek_17 (lv_at hl 0 rfl) ?_
  refine lv_bipush (v := 16) hx hb dX0_seek_19 (by decide) ?_
  refine lv_icmp_ge (tgt := 44) hx hb dX0_seek_21 (by decide) (fun c_13 => absurd c_13 (by decide)) (fun c_13 => ?_)
  refine lv_aload_n hx hb dX0_seek_24 rfl (lv_at hl 2 rfl) ?_
  refine va_get (D := (dC, dI)) (ci := 0) (v := .ref h4) (C := RX0) (T := TX0) (N := 10) hx hb hts hinX0 hown hK hP 0 rfl rfl 3 (by decide) (hts (.fieldLink RX0 25 "CensusDesk$Book" "sought" "[I") (List.mem_of_getElem? (i := 1) rfl)) (fun _ h9 => h9) rfl dX0_seek_25 ?_
  refine lv_iload hx hb dX0_seek_28 (lv_at hl 0 rfl) ?_
  refine lv_iload_n hx hb dX0_seek_30 rfl (lv_at hl 4 rfl) ?_
  refine lv_bipush (v := 24) hx hb dX0_seek_31 (by decide) ?_
  refine lv_bipush (v := 8) hx hb dX0_seek_33 (by decide) ?_
  refine lv_iload_n hx hb dX0_seek_35 rfl (lv_at hl 1 rfl) ?_
  refine lv_imul hx hb dX0_seek_36 ?_
  refine k_top (v := 16) (by decide) ?_
  refine lv_isub hx hb dX0_seek_37 ?_
  refine k_top (v := 8) (by decide) ?_
  obtain ⟨z_14, ez_14⟩ : ∃ z : Int32, (Int32.toUInt32 wd >>> (Int32.toUInt32 8 &&& Int32.toUInt32 31)).toInt32 = z := ⟨_, rfl⟩
  refine lv_iushr (v := z_14) hx hb dX0_seek_38 ez_14 ?_
  refine lv_sipush (v := 255) hx hb dX0_seek_39 (by decide) ?_
  refine lv_iand hx hb dX0_seek_42 ?_
  refine va_iast hx hb hK hP hD hS 1 0 rfl rfl (i := 6) (x := (z_14 &&& 255)) (vp_in_nI (n := 6) (by decide) (by decide)) dX0_seek_43 (fun H locs hP hD hS => ?_)
  obtain ⟨f_15, ef_15⟩ : ∃ z : Nat → Int32, z = upd f_10 (Int32.toNatClampNeg 6) (z_14 &&& 255) := ⟨_, rfl⟩
  rw [← ef_15] at hP hD
  have hP : va_P (dC, dI) vwCl [(h0, .inr (0, [.ref h1, .ref h2, .ref h3, .ref h4, .int 0, .int 0, .int 0, .int 0, .int 0, .int 0])), (h4, .inl (k4, 16, .inl f_15))] H := hP
  have hD : va_D A [(h0, .inr (0, [.ref h1, .ref h2, .ref h3, .ref h4, .int 0, .int 0, .int 0, .int 0, .int 0, .int 0])), (h4, .inl (k4, 16, .inl f_15))] := hD
  refine lv_iinc (v := 3) (lv' := [(3, .int 3), (4, .int 6), (0, .ref h0), (1, .int 4), (2, .int wd)]) hx hb dX0_seek_44 hl (k := 1) rfl (by decide) (by decide) rfl (fun ls hl => ?_)
  refine lv_goto (tgt := 2) hx hb dX0_seek_47 (by decide) ?_
  refine lv_iload_n hx hb dX0_seek_2 rfl (lv_at hl 0 rfl) ?_
  refine lv_iconst (v := 4) hx hb dX0_seek_3 (by decide) ?_
  refine lv_icmp_ge (tgt := 50) hx hb dX0_seek_4 (by decide) (fun c_16 => absurd c_16 (by decide)) (fun c_16 => ?_)
  refine lv_iload_n hx hb dX0_seek_7 rfl (lv_at hl 3 rfl) ?_
  refine lv_iload_n hx hb dX0_seek_8 rfl (lv_at hl 0 rfl) ?_
  refine lv_iadd hx hb dX0_seek_9 ?_
  refine k_top (v := 7) (by decide) ?_
  refine lv_istore (lv' := [(4, .int 7), (3, .int 3), (0, .ref h0), (1, .int 4), (2, .int wd)]) hx hb dX0_seek_10 hl (by decide) rfl (fun ls hl => ?_)
  refine lv_iload hx hb dX0_seek_12 (lv_at hl 0 rfl) ?_
  refine lv_if_lt (tgt := 44) hx hb dX0_seek_14 (by decide) (fun c_17 => absurd c_17 (by decide)) (fun c_17 => ?_)
  refine lv_iload hx hb dX0_seek_17 (lv_at hl 0 rfl) ?_
  refine lv_bipush (v := 16) hx hb dX0_seek_19 (by decide) ?_
  refine lv_icmp_ge (tgt := 44) hx hb dX0_seek_21 (by decide) (fun c_18 => absurd c_18 (by decide)) (fun c_18 => ?_)
  refine lv_aload_n hx hb dX0_seek_24 rfl (lv_at hl 2 rfl) ?_
  refine va_get (D := (dC, dI)) (ci := 0) (v := .ref h4) (C := RX0) (T := TX0) (N := 10) hx hb hts hinX0 hown hK hP 0 rfl rfl 3 (by decide) (hts (.fieldLink RX0 25 "CensusDesk$Book" "sought" "[I") (List.mem_of_getElem? (i := 1) rfl)) (fun _ h9 => h9) rfl dX0_seek_25 ?_
  refine lv_iload hx hb dX0_seek_28 (lv_at hl 0 rfl) ?_
  refine lv_iload_n hx hb dX0_seek_30 rfl (lv_at hl 4 rfl) ?_
  refine lv_bipush (v := 24) hx hb dX0_seek_31 (by decide) ?_
  refine lv_bipush (v := 8) hx hb dX0_seek_33 (by decide) ?_
  refine lv_iload_n hx hb dX0_seek_35 rfl (lv_at hl 1 rfl) ?_
  refine lv_imul hx hb dX0_seek_36 ?_
  refine k_top (v := 24) (by decide) ?_
  refine lv_isub hx hb dX0_seek_37 ?_
  refine k_top (v := 0) (by decide) ?_
  obtain ⟨z_19, ez_19⟩ : ∃ z : Int32, (Int32.toUInt32 wd >>> (Int32.toUInt32 0 &&& Int32.toUInt32 31)).toInt32 = z := ⟨_, rfl⟩
  refine lv_iushr (v := z_19) hx hb dX0_seek_38 ez_19 ?_
  refine lv_sipush (v := 255) hx hb dX0_seek_39 (by decide) ?_
  refine lv_iand hx hb dX0_seek_42 ?_
  refine va_iast hx hb hK hP hD hS 1 0 rfl rfl (i := 7) (x := (z_19 &&& 255)) (vp_in_nI (n := 7) (by decide) (by decide)) dX0_seek_43 (fun H locs hP hD hS => ?_)
  obtain ⟨f_20, ef_20⟩ : ∃ z : Nat → Int32, z = upd f_15 (Int32.toNatClampNeg 7) (z_19 &&& 255) := ⟨_, rfl⟩
  rw [← ef_20] at hP hD
  have hP : va_P (dC, dI) vwCl [(h0, .inr (0, [.ref h1, .ref h2, .ref h3, .ref h4, .int 0, .int 0, .int 0, .int 0, .int 0, .int 0])), (h4, .inl (k4, 16, .inl f_20))] H := hP
  have hD : va_D A [(h0, .inr (0, [.ref h1, .ref h2, .ref h3, .ref h4, .int 0, .int 0, .int 0, .int 0, .int 0, .int 0])), (h4, .inl (k4, 16, .inl f_20))] := hD
  refine lv_iinc (v := 4) (lv' := [(3, .int 4), (4, .int 7), (0, .ref h0), (1, .int 4), (2, .int wd)]) hx hb dX0_seek_44 hl (k := 1) rfl (by decide) (by decide) rfl (fun ls hl => ?_)
  refine lv_goto (tgt := 2) hx hb dX0_seek_47 (by decide) ?_
  refine lv_iload_n hx hb dX0_seek_2 rfl (lv_at hl 0 rfl) ?_
  refine lv_iconst (v := 4) hx hb dX0_seek_3 (by decide) ?_
  refine lv_icmp_ge (tgt := 50) hx hb dX0_seek_4 (by decide) (fun c_21 => ?_) (fun c_21 => absurd c_21 (by decide))
  have hP9 := hP.sub (ws' := [(h0, .inr (0, [.ref h1, .ref h2, .ref h3, .ref h4, .int 0, .int 0, .int 0, .int 0, .int 0, .int 0])), (h4, .inl (k4, 16, .inl f_20))]) [0, 1] rfl
  have hD9 := hD.sub (ws' := [(h0, .inr (0, [.ref h1, .ref h2, .ref h3, .ref h4, .int 0, .int 0, .int 0, .int 0, .int 0, .int 0])), (h4, .inl (k4, 16, .inl f_20))]) [0, 1] (by decide) rfl
  have hK9 := hK.sub (tys' := [(k4, .int)]) [0] rfl
  exact W.vret hx hb hr (fun t ht hW => ⟨⟨(), rfl, trivial, f_20, ⟨by rw [ht]; exact hP9, va_K.moved hW.alike hK9, hD9⟩⟩, hS.F ht⟩) hS.2.2 dX0_seek_50
set_option maxHeartbeats 1000000 in
set_option maxRecDepth 100000 in
theorem c_X0_seek_8 (l : Launch) (dC : Nat → ClassId) (dI : Nat → Nat → Nat) (h0 h1 h2 h3 h4 : Nat) (k4 : ClassId) (f : Nat → Int32) (wd : Int32) (sz : Nat)  : Met l yX0_seek wsX0_seek ({ frames := 0, cells := 0, slots := 0, locals := 0 }) (va_Pc [.ref h0, .int 8, .int wd] (kPre dC dI [(k4, .int)] [(h0, .inr (0, [.ref h1, .ref h2, .ref h3, .ref h4, .int 0, .int 0, .int 0, .int 0, .int 0, .int 0])), (h4, .inl (k4, 16, .inl f))] sz)) (va_Qv (fun (_ : Unit) => True) (fun (_ : Unit) (t : State) => ∃ (f2 : Nat → Int32), kB dC dI (va_A [(h0, .inr (0, [.ref h1, .ref h2, .ref h3, .ref h4, .int 0, .int 0, .int 0, .int 0, .int 0, .int 0])), (h4, .inl (k4, 16, .inl f))] sz) [(k4, .int)] [(h0, .inr (0, [.ref h1, .ref h2, .ref h3, .ref h4, .int 0, .int 0, .int 0, .int 0, .int 0, .int 0])), (h4, .inl (k4, 16, .inl f2))] t) (va_A [(h0, .inr (0, [.ref h1, .ref h2, .ref h3, .ref h4, .int 0, .int 0, .int 0, .int 0, .int 0, .int 0])), (h4, .inl (k4, 16, .inl f))] sz)) 0 0 (va_A [(h0, .inr (0, [.ref h1, .ref h2, .ref h3, .ref h4, .int 0, .int 0, .int 0, .int 0, .int 0, .int 0])), (h4, .inl (k4, 16, .inl f))] sz) := by
  refine Met.ofW (cc := cX0_seek) (maxL := 5) (ret := none) (by decide) rfl ?_
  intro p e s m args below meth c s₁ B hml hv
  obtain ⟨rfl, hsz, hP, hK, hD0, hN⟩ := hv
  have hx := B.exec
  have hb := B.bytes
  have hr := B.returns
  have hts := atoms_spec (ws := wsX0_seek) B.pre
  have hown : s.vm.findClass RX0 = some m.cls := findClass_of_methodNamed B.named
  have hlocks := B.notSynchronized
  subst hsz
  have hD := hD0.self (sz := s.heap.size)
  generalize hAe : va_A [(h0, .inr (0, [.ref h1, .ref h2, .ref h3, .ref h4, .int 0, .int 0, .int 0, .int 0, .int 0, .int 0])), (h4, .inl (k4, 16, .inl f))] s.heap.size = A at hD ⊢
  have hA : ∀ q : Nat, s.heap.size ≤ q → A q := fun q h => by rw [← hAe]; exact Or.inr h
  have hS : va_S A s.heap s.heap [] := va_S.rf
  have hP : va_P (dC, dI) vwCl [(h0, .inr (0, [.ref h1, .ref h2, .ref h3, .ref h4, .int 0, .int 0, .int 0, .int 0, .int 0, .int 0])), (h4, .inl (k4, 16, .inl f))] s.heap := hP
  have hinX0 : ∀ w ∈ wsX00, w ∈ wsX0_seek := fun _ h => List.mem_cons_of_mem _ (List.mem_append_right _ h)
  have hl := lv_entry ([.ref h0, .int 8, .int wd]) (n := 5) (Nat.le_of_ble_eq_true rfl)
  rw [lg_entry_eq]
  generalize (lg_sl ([.ref h0, .int 8, .int wd]) ++ List.replicate (5 - (lg_sl ([.ref h0, .int 8, .int wd])).length) Slot.unset).toArray = ls at hl ⊢
  have hl : lv_has ls 5 [(0, .ref h0), (1, .int 8), (2, .int wd)] := hl
  refine lv_iconst (v := 0) hx hb dX0_seek_0 (by decide) ?_
  refine lv_istore_n (lv' := [(3, .int 0), (0, .ref h0), (1, .int 8), (2, .int wd)]) hx hb dX0_seek_1 rfl hl (by decide) rfl (fun ls hl => ?_)
  refine lv_iload_n hx hb dX0_seek_2 rfl (lv_at hl 0 rfl) ?_
  refine lv_iconst (v := 4) hx hb dX0_seek_3 (by decide) ?_
  refine lv_icmp_ge (tgt := 50) hx hb dX0_seek_4 (by decide) (fun c_1 => absurd c_1 (by decide)) (fun c_1 => ?_)
  refine lv_iload_n hx hb dX0_seek_7 rfl (lv_at hl 2 rfl) ?_
  refine lv_iload_n hx hb dX0_seek_8 rfl (lv_at hl 0 rfl) ?_
  refine lv_iadd hx hb dX0_seek_9 ?_
  refine k_top (v := 8) (by decide) ?_
  refine lv_istore (lv' := [(4, .int 8), (3, .int 0), (0, .ref h0), (1, .int 8), (2, .int wd)]) hx hb dX0_seek_10 hl (by decide) rfl (fun ls hl => ?_)
  refine lv_iload hx hb dX0_seek_12 (lv_at hl 0 rfl) ?_
  refine lv_if_lt (tgt := 44) hx hb dX0_seek_14 (by decide) (fun c_2 => absurd c_2 (by decide)) (fun c_2 => ?_)
  refine lv_iload hx hb dX0_seek_17 (lv_at hl 0 rfl) ?_
  refine lv_bipush (v := 16) hx hb dX0_seek_19 (by decide) ?_
  refine lv_icmp_ge (tgt := 44) hx hb dX0_seek_21 (by decide) (fun c_3 => absurd c_3 (by decide)) (fun c_3 => ?_)
  refine lv_aload_n hx hb dX0_seek_24 rfl (lv_at hl 2 rfl) ?_
  refine va_get (D := (dC, dI)) (ci := 0) (v := .ref h4) (C := RX0) (T := TX0) (N := 10) hx hb hts hinX0 hown hK hP 0 rfl rfl 3 (by decide) (hts (.fieldLink RX0 25 "CensusDesk$Book" "sought" "[I") (List.mem_of_getElem? (i := 1) rfl)) (fun _ h9 => h9) rfl dX0_seek_25 ?_
  refine lv_iload hx hb dX0_seek_28 (lv_at hl 0 rfl) ?_
  refine lv_iload_n hx hb dX0_seek_30 rfl (lv_at hl 4 rfl) ?_
  refine lv_bipush (v := 24) hx hb dX0_seek_31 (by decide) ?_
  refine lv_bipush (v := 8) hx hb dX0_seek_33 (by decide) ?_
  refine lv_iload_n hx hb dX0_seek_35 rfl (lv_at hl 1 rfl) ?_
  refine lv_imul hx hb dX0_seek_36 ?_
  refine k_top (v := 0) (by decide) ?_
  refine lv_isub hx hb dX0_seek_37 ?_
  refine k_top (v := 24) (by decide) ?_
  obtain ⟨z_4, ez_4⟩ : ∃ z : Int32, (Int32.toUInt32 wd >>> (Int32.toUInt32 24 &&& Int32.toUInt32 31)).toInt32 = z := ⟨_, rfl⟩
  refine lv_iushr (v := z_4) hx hb dX0_seek_38 ez_4 ?_
  refine lv_sipush (v := 255) hx hb dX0_seek_39 (by decide) ?_
  refine lv_iand hx hb dX0_seek_42 ?_
  refine va_iast hx hb hK hP hD hS 1 0 rfl rfl (i := 8) (x := (z_4 &&& 255)) (vp_in_nI (n := 8) (by decide) (by decide)) dX0_seek_43 (fun H locs hP hD hS => ?_)
  obtain ⟨f_5, ef_5⟩ : ∃ z : Nat → Int32, z = upd f (Int32.toNatClampNeg 8) (z_4 &&& 255) := ⟨_, rfl⟩
  rw [← ef_5] at hP hD
  have hP : va_P (dC, dI) vwCl [(h0, .inr (0, [.ref h1, .ref h2, .ref h3, .ref h4, .int 0, .int 0, .int 0, .int 0, .int 0, .int 0])), (h4, .inl (k4, 16, .inl f_5))] H := hP
  have hD : va_D A [(h0, .inr (0, [.ref h1, .ref h2, .ref h3, .ref h4, .int 0, .int 0, .int 0, .int 0, .int 0, .int 0])), (h4, .inl (k4, 16, .inl f_5))] := hD
  refine lv_iinc (v := 1) (lv' := [(3, .int 1), (4, .int 8), (0, .ref h0), (1, .int 8), (2, .int wd)]) hx hb dX0_seek_44 hl (k := 1) rfl (by decide) (by decide) rfl (fun ls hl => ?_)
  refine lv_goto (tgt := 2) hx hb dX0_seek_47 (by decide) ?_
  refine lv_iload_n hx hb dX0_seek_2 rfl (lv_at hl 0 rfl) ?_
  refine lv_iconst (v := 4) hx hb dX0_seek_3 (by decide) ?_
  refine lv_icmp_ge (tgt := 50) hx hb dX0_seek_4 (by decide) (fun c_6 => absurd c_6 (by decide)) (fun c_6 => ?_)
  refine lv_iload_n hx hb dX0_seek_7 rfl (lv_at hl 3 rfl) ?_
  refine lv_iload_n hx hb dX0_seek_8 rfl (lv_at hl 0 rfl) ?_
  refine lv_iadd hx hb dX0_seek_9 ?_
  refine k_top (v := 9) (by decide) ?_
  refine lv_istore (lv' := [(4, .int 9), (3, .int 1), (0, .ref h0), (1, .int 8), (2, .int wd)]) hx hb dX0_seek_10 hl (by decide) rfl (fun ls hl => ?_)
  refine lv_iload hx hb dX0_seek_12 (lv_at hl 0 rfl) ?_
  refine lv_if_lt (tgt := 44) hx hb dX0_seek_14 (by decide) (fun c_7 => absurd c_7 (by decide)) (fun c_7 => ?_)
  refine lv_iload hx hb dX0_seek_17 (lv_at hl 0 rfl) ?_
  refine lv_bipush (v := 16) hx hb dX0_seek_19 (by decide) ?_
  refine lv_icmp_ge (tgt := 44) hx hb dX0_seek_21 (by decide) (fun c_8 => absurd c_8 (by decide)) (fun c_8 => ?_)
  refine lv_aload_n hx hb dX0_seek_24 rfl (lv_at hl 2 rfl) ?_
  refine va_get (D := (dC, dI)) (ci := 0) (v := .ref h4) (C := RX0) (T := TX0) (N := 10) hx hb hts hinX0 hown hK hP 0 rfl rfl 3 (by decide) (hts (.fieldLink RX0 25 "CensusDesk$Book" "sought" "[I") (List.mem_of_getElem? (i := 1) rfl)) (fun _ h9 => h9) rfl dX0_seek_25 ?_
  refine lv_iload hx hb dX0_seek_28 (lv_at hl 0 rfl) ?_
  refine lv_iload_n hx hb dX0_seek_30 rfl (lv_at hl 4 rfl) ?_
  refine lv_bipush (v := 24) hx hb dX0_seek_31 (by decide) ?_
  refine lv_bipush (v := 8) hx hb dX0_seek_33 (by decide) ?_
  refine lv_iload_n hx hb dX0_seek_35 rfl (lv_at hl 1 rfl) ?_
  refine lv_imul hx hb dX0_seek_36 ?_
  refine k_top (v := 8) (by decide) ?_
  refine lv_isub hx hb dX0_seek_37 ?_
  refine k_top (v := 16) (by decide) ?_
  obtain ⟨z_9, ez_9⟩ : ∃ z : Int32, (Int32.toUInt32 wd >>> (Int32.toUInt32 16 &&& Int32.toUInt32 31)).toInt32 = z := ⟨_, rfl⟩
  refine lv_iushr (v := z_9) hx hb dX0_seek_38 ez_9 ?_
  refine lv_sipush (v := 255) hx hb dX0_seek_39 (by decide) ?_
  refine lv_iand hx hb dX0_seek_42 ?_
  refine va_iast hx hb hK hP hD hS 1 0 rfl rfl (i := 9) (x := (z_9 &&& 255)) (vp_in_nI (n := 9) (by decide) (by decide)) dX0_seek_43 (fun H locs hP hD hS => ?_)
  obtain ⟨f_10, ef_10⟩ : ∃ z : Nat → Int32, z = upd f_5 (Int32.toNatClampNeg 9) (z_9 &&& 255) := ⟨_, rfl⟩
  rw [← ef_10] at hP hD
  have hP : va_P (dC, dI) vwCl [(h0, .inr (0, [.ref h1, .ref h2, .ref h3, .ref h4, .int 0, .int 0, .int 0, .int 0, .int 0, .int 0])), (h4, .inl (k4, 16, .inl f_10))] H := hP
  have hD : va_D A [(h0, .inr (0, [.ref h1, .ref h2, .ref h3, .ref h4, .int 0, .int 0, .int 0, .int 0, .int 0, .int 0])), (h4, .inl (k4, 16, .inl f_10))] := hD
  refine lv_iinc (v := 2) (lv' := [(3, .int 2), (4, .int 9), (0, .ref h0), (1, .int 8), (2, .int wd)]) hx hb dX0_seek_44 hl (k := 1) rfl (by decide) (by decide) rfl (fun ls hl => ?_)
  refine lv_goto (tgt := 2) hx hb dX0_seek_47 (by decide) ?_
  refine lv_iload_n hx hb dX0_seek_2 rfl (lv_at hl 0 rfl) ?_
  refine lv_iconst (v := 4) hx hb dX0_seek_3 (by decide) ?_
  refine lv_icmp_ge (tgt := 50) hx hb dX0_seek_4 (by decide) (fun c_11 => absurd c_11 (by decide)) (fun c_11 => ?_)
  refine lv_iload_n hx hb dX0_seek_7 rfl (lv_at hl 3 rfl) ?_
  refine lv_iload_n hx hb dX0_seek_8 rfl (lv_at hl 0 rfl) ?_
  refine lv_iadd hx hb dX0_seek_9 ?_
  refine k_top (v := 10) (by decide) ?_
  refine lv_istore (lv' := [(4, .int 10), (3, .int 2), (0, .ref h0), (1, .int 8), (2, .int wd)]) hx hb dX0_seek_10 hl (by decide) rfl (fun ls hl => ?_)
  refine lv_iload hx hb dX0_seek_12 (lv_at hl 0 rfl) ?_
  refine lv_if_lt (tgt := 44) hx hb dX0_seek_14 (by decide) (fun c_12 => absurd c_12 (by decide)) (fun c_12 => ?_)
  refine lv_iload hx hb dX0_seek_17 (lv_at hl 0 rfl) ?_
  refine lv_bipush (v := 16) hx hb dX0_seek_19 (by decide) ?_
  refine lv_icmp_ge (tgt := 44) hx hb dX0_seek_21 (by decide) (fun c_13 => absurd c_13 (by decide)) (fun c_13 => ?_)
  refine lv_aload_n hx hb dX0_seek_24 rfl (lv_at hl 2 rfl) ?_
  refine va_get (D := (dC, dI)) (ci := 0) (v := .ref h4) (C := RX0) (T := TX0) (N := 10) hx hb hts hinX0 hown hK hP 0 rfl rfl 3 (by decide) (hts (.fieldLink RX0 25 "CensusDesk$Book" "sought" "[I") (List.mem_of_getElem? (i := 1) rfl)) (fun _ h9 => h9) rfl dX0_seek_25 ?_
  refine lv_iload hx hb dX0_seek_28 (lv_at hl 0 rfl) ?_
  refine lv_iload_n hx hb dX0_seek_30 rfl (lv_at hl 4 rfl) ?_
  refine lv_bipush (v := 24) hx hb dX0_seek_31 (by decide) ?_
  refine lv_bipush (v := 8) hx hb dX0_seek_33 (by decide) ?_
  refine lv_iload_n hx hb dX0_seek_35 rfl (lv_at hl 1 rfl) ?_
  refine lv_imul hx hb dX0_seek_36 ?_
  refine k_top (v := 16) (by decide) ?_
  refine lv_isub hx hb dX0_seek_37 ?_
  refine k_top (v := 8) (by decide) ?_
  obtain ⟨z_14, ez_14⟩ : ∃ z : Int32, (Int32.toUInt32 wd >>> (Int32.toUInt32 8 &&& Int32.toUInt32 31)).toInt32 = z := ⟨_, rfl⟩
  refine lv_iushr (v := z_14) hx hb dX0_seek_38 ez_14 ?_
  refine lv_sipush (v := 255) hx hb dX0_seek_39 (by decide) ?_
  refine lv_iand hx hb dX0_seek_42 ?_
  refine va_iast hx hb hK hP hD hS 1 0 rfl rfl (i := 10) (x := (z_14 &&& 255)) (vp_in_nI (n := 10) (by decide) (by decide)) dX0_seek_43 (fun H locs hP hD hS => ?_)
  obtain ⟨f_15, ef_15⟩ : ∃ z : Nat → Int32, z = upd f_10 (Int32.toNatClampNeg 10) (z_14 &&& 255) := ⟨_, rfl⟩
  rw [← ef_15] at hP hD
  have hP : va_P (dC, dI) vwCl [(h0, .inr (0, [.ref h1, .ref h2, .ref h3, .ref h4, .int 0, .int 0, .int 0, .int 0, .int 0, .int 0])), (h4, .inl (k4, 16, .inl f_15))] H := hP
  have hD : va_D A [(h0, .inr (0, [.ref h1, .ref h2, .ref h3, .ref h4, .int 0, .int 0, .int 0, .int 0, .int 0, .int 0])), (h4, .inl (k4, 16, .inl f_15))] := hD
  refine lv_iinc (v := 3) (lv' := [(3, .int 3), (4, .int 10), (0, .ref h0), (1, .int 8), (2, .int wd)]) hx hb dX0_seek_44 hl (k := 1) rfl (by decide) (by decide) rfl (fun ls hl => ?_)
  refine lv_goto (tgt := 2) hx hb dX0_seek_47 (by decide) ?_
  refine lv_iload_n hx hb dX0_seek_2 rfl (lv_at hl 0 rfl) ?_
  refine lv_iconst (v := 4) hx hb dX0_seek_3 (by decide) ?_
  refine lv_icmp_ge (tgt := 50) hx hb dX0_seek_4 (by decide) (fun c_16 => absurd c_16 (by decide)) (fun c_16 => ?_)
  refine lv_iload_n hx hb dX0_seek_7 rfl (lv_at hl 3 rfl) ?_
  refine lv_iload_n hx hb dX0_seek_8 rfl (lv_at hl 0 rfl) ?_
  refine lv_iadd hx hb dX0_seek_9 ?_
  refine k_top (v := 11) (by decide) ?_
  refine lv_istore (lv' := [(4, .int 11), (3, .int 3), (0, .ref h0), (1, .int 8), (2, .int wd)]) hx hb dX0_seek_10 hl (by decide) rfl (fun ls hl => ?_)
  refine lv_iload hx hb dX0_seek_12 (lv_at hl 0 rfl) ?_
  refine lv_if_lt (tgt := 44) hx hb dX0_seek_14 (by decide) (fun c_17 => absurd c_17 (by decide)) (fun c_17 => ?_)
  refine lv_iload hx hb dX0_seek_17 (lv_at hl 0 rfl) ?_
  refine lv_bipush (v := 16) hx hb dX0_seek_19 (by decide) ?_
  refine lv_icmp_ge (tgt := 44) hx hb dX0_seek_21 (by decide) (fun c_18 => absurd c_18 (by decide)) (fun c_18 => ?_)
  refine lv_aload_n hx hb dX0_seek_24 rfl (lv_at hl 2 rfl) ?_
  refine va_get (D := (dC, dI)) (ci := 0) (v := .ref h4) (C := RX0) (T := TX0) (N := 10) hx hb hts hinX0 hown hK hP 0 rfl rfl 3 (by decide) (hts (.fieldLink RX0 25 "CensusDesk$Book" "sought" "[I") (List.mem_of_getElem? (i := 1) rfl)) (fun _ h9 => h9) rfl dX0_seek_25 ?_
  refine lv_iload hx hb dX0_seek_28 (lv_at hl 0 rfl) ?_
  refine lv_iload_n hx hb dX0_seek_30 rfl (lv_at hl 4 rfl) ?_
  refine lv_bipush (v := 24) hx hb dX0_seek_31 (by decide) ?_
  refine lv_bipush (v := 8) hx hb dX0_seek_33 (by decide) ?_
  refine lv_iload_n hx hb dX0_seek_35 rfl (lv_at hl 1 rfl) ?_
  refine lv_imul hx hb dX0_seek_36 ?_
  refine k_top (v := 24) (by decide) ?_
  refine lv_isub hx hb dX0_seek_37 ?_
  refine k_top (v := 0) (by decide) ?_
  obtain ⟨z_19, ez_19⟩ : ∃ z : Int32, (Int32.toUInt32 wd >>> (Int32.toUInt32 0 &&& Int32.toUInt32 31)).toInt32 = z := ⟨_, rfl⟩
  refine lv_iushr (v := z_19) hx hb dX0_seek_38 ez_19 ?_
  refine lv_sipush (v := 255) hx hb dX0_seek_39 (by decide) ?_
  refine lv_iand hx hb dX0_seek_42 ?_
  refine va_iast hx hb hK hP hD hS 1 0 rfl rfl (i := 11) (x := (z_19 &&& 255)) (vp_in_nI (n := 11) (by decide) (by decide)) dX0_seek_43 (fun H locs hP hD hS => ?_)
  obtain ⟨f_20, ef_20⟩ : ∃ z : Nat → Int32, z = upd f_15 (Int32.toNatClampNeg 11) (z_19 &&& 255) := ⟨_, rfl⟩
  rw [← ef_20] at hP hD
  have hP : va_P (dC, dI) vwCl [(h0, .inr (0, [.ref h1, .ref h2, .ref h3, .ref h4, .int 0, .int 0, .int 0, .int 0, .int 0, .int 0])), (h4, .inl (k4, 16, .inl f_20))] H := hP
  have hD : va_D A [(h0, .inr (0, [.ref h1, .ref h2, .ref h3, .ref h4, .int 0, .int 0, .int 0, .int 0, .int 0, .int 0])), (h4, .inl (k4, 16, .inl f_20))] := hD
  refine lv_iinc (v := 4) (lv' := [(3, .int 4), (4, .int 11), (0, .ref h0), (1, .int 8), (2, .int wd)]) hx hb dX0_seek_44 hl (k := 1) rfl (by decide) (by decide) rfl (fun ls hl => ?_)
  refine lv_goto (tgt := 2) hx hb dX0_seek_47 (by decide) ?_
  refine lv_iload_n hx hb dX0_seek_2 rfl (lv_at hl 0 rfl) ?_
  refine lv_iconst (v := 4) hx hb dX0_seek_3 (by decide) ?_
  refine lv_icmp_ge (tgt := 50) hx hb dX0_seek_4 (by decide) (fun c_21 => ?_) (fun c_21 => absurd c_21 (by decide))
  have hP9 := hP.sub (ws' := [(h0, .inr (0, [.ref h1, .ref h2, .ref h3, .ref h4, .int 0, .int 0, .int 0, .int 0, .int 0, .int 0])), (h4, .inl (k4, 16, .inl f_20))]) [0, 1] rfl
  have hD9 := hD.sub (ws' := [(h0, .inr (0, [.ref h1, .ref h2, .ref h3, .ref h4, .int 0, .int 0, .int 0, .int 0, .int 0, .int 0])), (h4, .inl (k4, 16, .inl f_20))]) [0, 1] (by decide) rfl
  have hK9 := hK.sub (tys' := [(k4, .int)]) [0] rfl
  exact W.vret hx hb hr (fun t ht hW => ⟨⟨(), rfl, trivial, f_20, ⟨by rw [ht]; exact hP9, va_K.moved hW.alike hK9, hD9⟩⟩, hS.F ht⟩) hS.2.2 dX0_seek_50
set_option maxHeartbeats 1000000 in
set_option maxRecDepth 100000 in
theorem c_X0_seek_12 (l : Launch) (dC : Nat → ClassId) (dI : Nat → Nat → Nat) (h0 h1 h2 h3 h4 : Nat) (k4 : ClassId) (f : Nat → Int32) (wd : Int32) (sz : Nat)  : Met l yX0_seek wsX0_seek ({ frames := 0, cells := 0, slots := 0, locals := 0 }) (va_Pc [.ref h0, .int 12, .int wd] (kPre dC dI [(k4, .int)] [(h0, .inr (0, [.ref h1, .ref h2, .ref h3, .ref h4, .int 0, .int 0, .int 0, .int 0, .int 0, .int 0])), (h4, .inl (k4, 16, .inl f))] sz)) (va_Qv (fun (_ : Unit) => True) (fun (_ : Unit) (t : State) => ∃ (f2 : Nat → Int32), kB dC dI (va_A [(h0, .inr (0, [.ref h1, .ref h2, .ref h3, .ref h4, .int 0, .int 0, .int 0, .int 0, .int 0, .int 0])), (h4, .inl (k4, 16, .inl f))] sz) [(k4, .int)] [(h0, .inr (0, [.ref h1, .ref h2, .ref h3, .ref h4, .int 0, .int 0, .int 0, .int 0, .int 0, .int 0])), (h4, .inl (k4, 16, .inl f2))] t) (va_A [(h0, .inr (0, [.ref h1, .ref h2, .ref h3, .ref h4, .int 0, .int 0, .int 0, .int 0, .int 0, .int 0])), (h4, .inl (k4, 16, .inl f))] sz)) 0 0 (va_A [(h0, .inr (0, [.ref h1, .ref h2, .ref h3, .ref h4, .int 0, .int 0, .int 0, .int 0, .int 0, .int 0])), (h4, .inl (k4, 16, .inl f))] sz) := by
  refine Met.ofW (cc := cX0_seek) (maxL := 5) (ret := none) (by decide) rfl ?_
  intro p e s m args below meth c s₁ B hml hv
  obtain ⟨rfl, hsz, hP, hK, hD0, hN⟩ := hv
  have hx := B.exec
  have hb := B.bytes
  have hr := B.returns
  have hts := atoms_spec (ws := wsX0_seek) B.pre
  have hown : s.vm.findClass RX0 = some m.cls := findClass_of_methodNamed B.named
  have hlocks := B.notSynchronized
  subst hsz
  have hD := hD0.self (sz := s.heap.size)
  generalize hAe : va_A [(h0, .inr (0, [.ref h1, .ref h2, .ref h3, .ref h4, .int 0, .int 0, .int 0, .int 0, .int 0, .int 0])), (h4, .inl (k4, 16, .inl f))] s.heap.size = A at hD ⊢
  have hA : ∀ q : Nat, s.heap.size ≤ q → A q := fun q h => by rw [← hAe]; exact Or.inr h
  have hS : va_S A s.heap s.heap [] := va_S.rf
  have hP : va_P (dC, dI) vwCl [(h0, .inr (0, [.ref h1, .ref h2, .ref h3, .ref h4, .int 0, .int 0, .int 0, .int 0, .int 0, .int 0])), (h4, .inl (k4, 16, .inl f))] s.heap := hP
  have hinX0 : ∀ w ∈ wsX00, w ∈ wsX0_seek := fun _ h => List.mem_cons_of_mem _ (List.mem_append_right _ h)
  have hl := lv_entry ([.ref h0, .int 12, .int wd]) (n := 5) (Nat.le_of_ble_eq_true rfl)
  rw [lg_entry_eq]
  generalize (lg_sl ([.ref h0, .int 12, .int wd]) ++ List.replicate (5 - (lg_sl ([.ref h0, .int 12, .int wd])).length) Slot.unset).toArray = ls at hl ⊢
  have hl : lv_has ls 5 [(0, .ref h0), (1, .int 12), (2, .int wd)] := hl
  refine lv_iconst (v := 0) hx hb dX0_seek_0 (by decide) ?_
  refine lv_istore_n (lv' := [(3, .int 0), (0, .ref h0), (1, .int 12), (2, .int wd)]) hx hb dX0_seek_1 rfl hl (by decide) rfl (fun ls hl => ?_)
  refine lv_iload_n hx hb dX0_seek_2 rfl (lv_at hl 0 rfl) ?_
  refine lv_iconst (v := 4) hx hb dX0_seek_3 (by decide) ?_
  refine lv_icmp_ge (tgt := 50) hx hb dX0_seek_4 (by decide) (fun c_1 => absurd c_1 (by decide)) (fun c_1 => ?_)
  refine lv_iload_n hx hb dX0_seek_7 rfl (lv_at hl 2 rfl) ?_
  refine lv_iload_n hx hb dX0_seek_8 rfl (lv_at hl 0 rfl) ?_
  refine lv_iadd hx hb dX0_seek_9 ?_
  refine k_top (v := 12) (by decide) ?_
  refine lv_istore (lv' := [(4, .int 12), (3, .int 0), (0, .ref h0), (1, .int 12), (2, .int wd)]) hx hb dX0_seek_10 hl (by decide) rfl (fun ls hl => ?_)
  refine lv_iload hx hb dX0_seek_12 (lv_at hl 0 rfl) ?_
  refine lv_if_lt (tgt := 44) hx hb dX0_seek_14 (by decide) (fun c_2 => absurd c_2 (by decide)) (fun c_2 => ?_)
  refine lv_iload hx hb dX0_seek_17 (lv_at hl 0 rfl) ?_
  refine lv_bipush (v := 16) hx hb dX0_seek_19 (by decide) ?_
  refine lv_icmp_ge (tgt := 44) hx hb dX0_seek_21 (by decide) (fun c_3 => absurd c_3 (by decide)) (fun c_3 => ?_)
  refine lv_aload_n hx hb dX0_seek_24 rfl (lv_at hl 2 rfl) ?_
  refine va_get (D := (dC, dI)) (ci := 0) (v := .ref h4) (C := RX0) (T := TX0) (N := 10) hx hb hts hinX0 hown hK hP 0 rfl rfl 3 (by decide) (hts (.fieldLink RX0 25 "CensusDesk$Book" "sought" "[I") (List.mem_of_getElem? (i := 1) rfl)) (fun _ h9 => h9) rfl dX0_seek_25 ?_
  refine lv_iload hx hb dX0_seek_28 (lv_at hl 0 rfl) ?_
  refine lv_iload_n hx hb dX0_seek_30 rfl (lv_at hl 4 rfl) ?_
  refine lv_bipush (v := 24) hx hb dX0_seek_31 (by decide) ?_
  refine lv_bipush (v := 8) hx hb dX0_seek_33 (by decide) ?_
  refine lv_iload_n hx hb dX0_seek_35 rfl (lv_at hl 1 rfl) ?_
  refine lv_imul hx hb dX0_seek_36 ?_
  refine k_top (v := 0) (by decide) ?_
  refine lv_isub hx hb dX0_seek_37 ?_
  refine k_top (v := 24) (by decide) ?_
  obtain ⟨z_4, ez_4⟩ : ∃ z : Int32, (Int32.toUInt32 wd >>> (Int32.toUInt32 24 &&& Int32.toUInt32 31)).toInt32 = z := ⟨_, rfl⟩
  refine lv_iushr (v := z_4) hx hb dX0_seek_38 ez_4 ?_
  refine lv_sipush (v := 255) hx hb dX0_seek_39 (by decide) ?_
  refine lv_iand hx hb dX0_seek_42 ?_
  refine va_iast hx hb hK hP hD hS 1 0 rfl rfl (i := 12) (x := (z_4 &&& 255)) (vp_in_nI (n := 12) (by decide) (by decide)) dX0_seek_43 (fun H locs hP hD hS => ?_)
  obtain ⟨f_5, ef_5⟩ : ∃ z : Nat → Int32, z = upd f (Int32.toNatClampNeg 12) (z_4 &&& 255) := ⟨_, rfl⟩
  rw [← ef_5] at hP hD
  have hP : va_P (dC, dI) vwCl [(h0, .inr (0, [.ref h1, .ref h2, .ref h3, .ref h4, .int 0, .int 0, .int 0, .int 0, .int 0, .int 0])), (h4, .inl (k4, 16, .inl f_5))] H := hP
  have hD : va_D A [(h0, .inr (0, [.ref h1, .ref h2, .ref h3, .ref h4, .int 0, .int 0, .int 0, .int 0, .int 0, .int 0])), (h4, .inl (k4, 16, .inl f_5))] := hD
  refine lv_iinc (v := 1) (lv' := [(3, .int 1), (4, .int 12), (0, .ref h0), (1, .int 12), (2, .int wd)]) hx hb dX0_seek_44 hl (k := 1) rfl (by decide) (by decide) rfl (fun ls hl => ?_)
  refine lv_goto (tgt := 2) hx hb dX0_seek_47 (by decide) ?_
  refine lv_iload_n hx hb dX0_seek_2 rfl (lv_at hl 0 rfl) ?_
  refine lv_iconst (v := 4) hx hb dX0_seek_3 (by decide) ?_
  refine lv_icmp_ge (tgt := 50) hx hb dX0_seek_4 (by decide) (fun c_6 => absurd c_6 (by decide)) (fun c_6 => ?_)
  refine lv_iload_n hx hb dX0_seek_7 rfl (lv_at hl 3 rfl) ?_
  refine lv_iload_n hx hb dX0_seek_8 rfl (lv_at hl 0 rfl) ?_
  refine lv_iadd hx hb dX0_seek_9 ?_
  refine k_top (v := 13) (by decide) ?_
  refine lv_istore (lv' := [(4, .int 13), (3, .int 1), (0, .ref h0), (1, .int 12), (2, .int wd)]) hx hb dX0_seek_10 hl (by decide) rfl (fun ls hl => ?_)
  refine lv_iload hx hb dX0_seek_12 (lv_at hl 0 rfl) ?_
  refine lv_if_lt (tgt := 44) hx hb dX0_seek_14 (by decide) (fun c_7 => absurd c_7 (by decide)) (fun c_7 => ?_)
  refine lv_iload hx hb dX0_seek_17 (lv_at hl 0 rfl) ?_
  refine lv_bipush (v := 16) hx hb dX0_seek_19 (by decide) ?_
  refine lv_icmp_ge (tgt := 44) hx hb dX0_seek_21 (by decide) (fun c_8 => absurd c_8 (by decide)) (fun c_8 => ?_)
  refine lv_aload_n hx hb dX0_seek_24 rfl (lv_at hl 2 rfl) ?_
  refine va_get (D := (dC, dI)) (ci := 0) (v := .ref h4) (C := RX0) (T := TX0) (N := 10) hx hb hts hinX0 hown hK hP 0 rfl rfl 3 (by decide) (hts (.fieldLink RX0 25 "CensusDesk$Book" "sought" "[I") (List.mem_of_getElem? (i := 1) rfl)) (fun _ h9 => h9) rfl dX0_seek_25 ?_
  refine lv_iload hx hb dX0_seek_28 (lv_at hl 0 rfl) ?_
  refine lv_iload_n hx hb dX0_seek_30 rfl (lv_at hl 4 rfl) ?_
  refine lv_bipush (v := 24) hx hb dX0_seek_31 (by decide) ?_
  refine lv_bipush (v := 8) hx hb dX0_seek_33 (by decide) ?_
  refine lv_iload_n hx hb dX0_seek_35 rfl (lv_at hl 1 rfl) ?_
  refine lv_imul hx hb dX0_seek_36 ?_
  refine k_top (v := 8) (by decide) ?_
  refine lv_isub hx hb dX0_seek_37 ?_
  refine k_top (v := 16) (by decide) ?_
  obtain ⟨z_9, ez_9⟩ : ∃ z : Int32, (Int32.toUInt32 wd >>> (Int32.toUInt32 16 &&& Int32.toUInt32 31)).toInt32 = z := ⟨_, rfl⟩
  refine lv_iushr (v := z_9) hx hb dX0_seek_38 ez_9 ?_
  refine lv_sipush (v := 255) hx hb dX0_seek_39 (by decide) ?_
  refine lv_iand hx hb dX0_seek_42 ?_
  refine va_iast hx hb hK hP hD hS 1 0 rfl rfl (i := 13) (x := (z_9 &&& 255)) (vp_in_nI (n := 13) (by decide) (by decide)) dX0_seek_43 (fun H locs hP hD hS => ?_)
  obtain ⟨f_10, ef_10⟩ : ∃ z : Nat → Int32, z = upd f_5 (Int32.toNatClampNeg 13) (z_9 &&& 255) := ⟨_, rfl⟩
  rw [← ef_10] at hP hD
  have hP : va_P (dC, dI) vwCl [(h0, .inr (0, [.ref h1, .ref h2, .ref h3, .ref h4, .int 0, .int 0, .int 0, .int 0, .int 0, .int 0])), (h4, .inl (k4, 16, .inl f_10))] H := hP
  have hD : va_D A [(h0, .inr (0, [.ref h1, .ref h2, .ref h3, .ref h4, .int 0, .int 0, .int 0, .int 0, .int 0, .int 0])), (h4, .inl (k4, 16, .inl f_10))] := hD
  refine lv_iinc (v := 2) (lv' := [(3, .int 2), (4, .int 13), (0, .ref h0), (1, .int 12), (2, .int wd)]) hx hb dX0_seek_44 hl (k := 1) rfl (by decide) (by decide) rfl (fun ls hl => ?_)
  refine lv_goto (tgt := 2) hx hb dX0_seek_47 (by decide) ?_
  refine lv_iload_n hx hb dX0_seek_2 rfl (lv_at hl 0 rfl) ?_
  refine lv_iconst (v := 4) hx hb dX0_seek_3 (by decide) ?_
  refine lv_icmp_ge (tgt := 50) hx hb dX0_seek_4 (by decide) (fun c_11 => absurd c_11 (by decide)) (fun c_11 => ?_)
  refine lv_iload_n hx hb dX0_seek_7 rfl (lv_at hl 3 rfl) ?_
  refine lv_iload_n hx hb dX0_seek_8 rfl (lv_at hl 0 rfl) ?_
  refine lv_iadd hx hb dX0_seek_9 ?_
  refine k_top (v := 14) (by decide) ?_
  refine lv_istore (lv' := [(4, .int 14), (3, .int 2), (0, .ref h0), (1, .int 12), (2, .int wd)]) hx hb dX0_seek_10 hl (by decide) rfl (fun ls hl => ?_)
  refine lv_iload hx hb dX0_seek_12 (lv_at hl 0 rfl) ?_
  refine lv_if_lt (tgt := 44) hx hb dX0_seek_14 (by decide) (fun c_12 => absurd c_12 (by decide)) (fun c_12 => ?_)
  refine lv_iload hx hb dX0_seek_17 (lv_at hl 0 rfl) ?_
  refine lv_bipush (v := 16) hx hb dX0_seek_19 (by decide) ?_
  refine lv_icmp_ge (tgt := 44) hx hb dX0_seek_21 (by decide) (fun c_13 => absurd c_13 (by decide)) (fun c_13 => ?_)
  refine lv_aload_n hx hb dX0_seek_24 rfl (lv_at hl 2 rfl) ?_
  refine va_get (D := (dC, dI)) (ci := 0) (v := .ref h4) (C := RX0) (T := TX0) (N := 10) hx hb hts hinX0 hown hK hP 0 rfl rfl 3 (by decide) (hts (.fieldLink RX0 25 "CensusDesk$Book" "sought" "[I") (List.mem_of_getElem? (i := 1) rfl)) (fun _ h9 => h9) rfl dX0_seek_25 ?_
  refine lv_iload hx hb dX0_seek_28 (lv_at hl 0 rfl) ?_
  refine lv_iload_n hx hb dX0_seek_30 rfl (lv_at hl 4 rfl) ?_
  refine lv_bipush (v := 24) hx hb dX0_seek_31 (by decide) ?_
  refine lv_bipush (v := 8) hx hb dX0_seek_33 (by decide) ?_
  refine lv_iload_n hx hb dX0_seek_35 rfl (lv_at hl 1 rfl) ?_
  refine lv_imul hx hb dX0_seek_36 ?_
  refine k_top (v := 16) (by decide) ?_
  refine lv_isub hx hb dX0_seek_37 ?_
  refine k_top (v := 8) (by decide) ?_
  obtain ⟨z_14, ez_14⟩ : ∃ z : Int32, (Int32.toUInt32 wd >>> (Int32.toUInt32 8 &&& Int32.toUInt32 31)).toInt32 = z := ⟨_, rfl⟩
  refine lv_iushr (v := z_14) hx hb dX0_seek_38 ez_14 ?_
  refine lv_sipush (v := 255) hx hb dX0_seek_39 (by decide) ?_
  refine lv_iand hx hb dX0_seek_42 ?_
  refine va_iast hx hb hK hP hD hS 1 0 rfl rfl (i := 14) (x := (z_14 &&& 255)) (vp_in_nI (n := 14) (by decide) (by decide)) dX0_seek_43 (fun H locs hP hD hS => ?_)
  obtain ⟨f_15, ef_15⟩ : ∃ z : Nat → Int32, z = upd f_10 (Int32.toNatClampNeg 14) (z_14 &&& 255) := ⟨_, rfl⟩
  rw [← ef_15] at hP hD
  have hP : va_P (dC, dI) vwCl [(h0, .inr (0, [.ref h1, .ref h2, .ref h3, .ref h4, .int 0, .int 0, .int 0, .int 0, .int 0, .int 0])), (h4, .inl (k4, 16, .inl f_15))] H := hP
  have hD : va_D A [(h0, .inr (0, [.ref h1, .ref h2, .ref h3, .ref h4, .int 0, .int 0, .int 0, .int 0, .int 0, .int 0])), (h4, .inl (k4, 16, .inl f_15))] := hD
  refine lv_iinc (v := 3) (lv' := [(3, .int 3), (4, .int 14), (0, .ref h0), (1, .int 12), (2, .int wd)]) hx hb dX0_seek_44 hl (k := 1) rfl (by decide) (by decide) rfl (fun ls hl => ?_)
  refine lv_goto (tgt := 2) hx hb dX0_seek_47 (by decide) ?_
  refine lv_iload_n hx hb dX0_seek_2 rfl (lv_at hl 0 rfl) ?_
  refine lv_iconst (v := 4) hx hb dX0_seek_3 (by decide) ?_
  refine lv_icmp_ge (tgt := 50) hx hb dX0_seek_4 (by decide) (fun c_16 => absurd c_16 (by decide)) (fun c_16 => ?_)
  refine lv_iload_n hx hb dX0_seek_7 rfl (lv_at hl 3 rfl) ?_
  refine lv_iload_n hx hb dX0_seek_8 rfl (lv_at hl 0 rfl) ?_
  refine lv_iadd hx hb dX0_seek_9 ?_
  refine k_top (v := 15) (by decide) ?_
  refine lv_istore (lv' := [(4, .int 15), (3, .int 3), (0, .ref h0), (1, .int 12), (2, .int wd)]) hx hb dX0_seek_10 hl (by decide) rfl (fun ls hl => ?_)
  refine lv_iload hx hb dX0_seek_12 (lv_at hl 0 rfl) ?_
  refine lv_if_lt (tgt := 44) hx hb dX0_seek_14 (by decide) (fun c_17 => absurd c_17 (by decide)) (fun c_17 => ?_)
  refine lv_iload hx hb dX0_seek_17 (lv_at hl 0 rfl) ?_
  refine lv_bipush (v := 16) hx hb dX0_seek_19 (by decide) ?_
  refine lv_icmp_ge (tgt := 44) hx hb dX0_seek_21 (by decide) (fun c_18 => absurd c_18 (by decide)) (fun c_18 => ?_)
  refine lv_aload_n hx hb dX0_seek_24 rfl (lv_at hl 2 rfl) ?_
  refine va_get (D := (dC, dI)) (ci := 0) (v := .ref h4) (C := RX0) (T := TX0) (N := 10) hx hb hts hinX0 hown hK hP 0 rfl rfl 3 (by decide) (hts (.fieldLink RX0 25 "CensusDesk$Book" "sought" "[I") (List.mem_of_getElem? (i := 1) rfl)) (fun _ h9 => h9) rfl dX0_seek_25 ?_
  refine lv_iload hx hb dX0_seek_28 (lv_at hl 0 rfl) ?_
  refine lv_iload_n hx hb dX0_seek_30 rfl (lv_at hl 4 rfl) ?_
  refine lv_bipush (v := 24) hx hb dX0_seek_31 (by decide) ?_
  refine lv_bipush (v := 8) hx hb dX0_seek_33 (by decide) ?_
  refine lv_iload_n hx hb dX0_seek_35 rfl (lv_at hl 1 rfl) ?_
  refine lv_imul hx hb dX0_seek_36 ?_
  refine k_top (v := 24) (by decide) ?_
  refine lv_isub hx hb dX0_seek_37 ?_
  refine k_top (v := 0) (by decide) ?_
  obtain ⟨z_19, ez_19⟩ : ∃ z : Int32, (Int32.toUInt32 wd >>> (Int32.toUInt32 0 &&& Int32.toUInt32 31)).toInt32 = z := ⟨_, rfl⟩
  refine lv_iushr (v := z_19) hx hb dX0_seek_38 ez_19 ?_
  refine lv_sipush (v := 255) hx hb dX0_seek_39 (by decide) ?_
  refine lv_iand hx hb dX0_seek_42 ?_
  refine va_iast hx hb hK hP hD hS 1 0 rfl rfl (i := 15) (x := (z_19 &&& 255)) (vp_in_nI (n := 15) (by decide) (by decide)) dX0_seek_43 (fun H locs hP hD hS => ?_)
  obtain ⟨f_20, ef_20⟩ : ∃ z : Nat → Int32, z = upd f_15 (Int32.toNatClampNeg 15) (z_19 &&& 255) := ⟨_, rfl⟩
  rw [← ef_20] at hP hD
  have hP : va_P (dC, dI) vwCl [(h0, .inr (0, [.ref h1, .ref h2, .ref h3, .ref h4, .int 0, .int 0, .int 0, .int 0, .int 0, .int 0])), (h4, .inl (k4, 16, .inl f_20))] H := hP
  have hD : va_D A [(h0, .inr (0, [.ref h1, .ref h2, .ref h3, .ref h4, .int 0, .int 0, .int 0, .int 0, .int 0, .int 0])), (h4, .inl (k4, 16, .inl f_20))] := hD
  refine lv_iinc (v := 4) (lv' := [(3, .int 4), (4, .int 15), (0, .ref h0), (1, .int 12), (2, .int wd)]) hx hb dX0_seek_44 hl (k := 1) rfl (by decide) (by decide) rfl (fun ls hl => ?_)
  refine lv_goto (tgt := 2) hx hb dX0_seek_47 (by decide) ?_
  refine lv_iload_n hx hb dX0_seek_2 rfl (lv_at hl 0 rfl) ?_
  refine lv_iconst (v := 4) hx hb dX0_seek_3 (by decide) ?_
  refine lv_icmp_ge (tgt := 50) hx hb dX0_seek_4 (by decide) (fun c_21 => ?_) (fun c_21 => absurd c_21 (by decide))
  have hP9 := hP.sub (ws' := [(h0, .inr (0, [.ref h1, .ref h2, .ref h3, .ref h4, .int 0, .int 0, .int 0, .int 0, .int 0, .int 0])), (h4, .inl (k4, 16, .inl f_20))]) [0, 1] rfl
  have hD9 := hD.sub (ws' := [(h0, .inr (0, [.ref h1, .ref h2, .ref h3, .ref h4, .int 0, .int 0, .int 0, .int 0, .int 0, .int 0])), (h4, .inl (k4, 16, .inl f_20))]) [0, 1] (by decide) rfl
  have hK9 := hK.sub (tys' := [(k4, .int)]) [0] rfl
  exact W.vret hx hb hr (fun t ht hW => ⟨⟨(), rfl, trivial, f_20, ⟨by rw [ht]; exact hP9, va_K.moved hW.alike hK9, hD9⟩⟩, hS.F ht⟩) hS.2.2 dX0_seek_50
set_option maxHeartbeats 1000000 in
set_option maxRecDepth 100000 in
theorem c_X0_soughtLength (l : Launch) (dC : Nat → ClassId) (dI : Nat → Nat → Nat) (h0 h1 h2 h3 h4 : Nat) (k4 : ClassId) (f : Nat → Int32) (sz : Nat)  : Met l yX0_soughtLength wsX0_soughtLength ({ frames := 0, cells := 0, slots := 0, locals := 0 }) (va_Pc [.ref h0] (kPre dC dI [(k4, .int)] [(h0, .inr (0, [.ref h1, .ref h2, .ref h3, .ref h4, .int 0, .int 0, .int 0, .int 0, .int 0, .int 0])), (h4, .inl (k4, 16, .inl f))] sz)) (va_Qi (fun (r : Int32) (_ : Unit) => True) (fun (_ : Unit) (t : State) => kB dC dI (va_A [(h0, .inr (0, [.ref h1, .ref h2, .ref h3, .ref h4, .int 0, .int 0, .int 0, .int 0, .int 0, .int 0])), (h4, .inl (k4, 16, .inl f))] sz) [(k4, .int)] [(h0, .inr (0, [.ref h1, .ref h2, .ref h3, .ref h4, .int 0, .int 0, .int 0, .int 0, .int 0, .int 0])), (h4, .inl (k4, 16, .inl f))] t) (va_A [(h0, .inr (0, [.ref h1, .ref h2, .ref h3, .ref h4, .int 0, .int 0, .int 0, .int 0, .int 0, .int 0])), (h4, .inl (k4, 16, .inl f))] sz)) 0 0 (va_A [(h0, .inr (0, [.ref h1, .ref h2, .ref h3, .ref h4, .int 0, .int 0, .int 0, .int 0, .int 0, .int 0])), (h4, .inl (k4, 16, .inl f))] sz) := by
  refine Met.ofW (cc := cX0_soughtLength) (maxL := 2) (ret := (some .int)) (by decide) rfl ?_
  intro p e s m args below meth c s₁ B hml hv
  obtain ⟨rfl, hsz, hP, hK, hD0, hN⟩ := hv
  have hx := B.exec
  have hb := B.bytes
  have hr := B.returns
  have hts := atoms_spec (ws := wsX0_soughtLength) B.pre
  have hown : s.vm.findClass RX0 = some m.cls := findClass_of_methodNamed B.named
  have hlocks := B.notSynchronized
  subst hsz
  have hD := hD0.self (sz := s.heap.size)
  generalize hAe : va_A [(h0, .inr (0, [.ref h1, .ref h2, .ref h3, .ref h4, .int 0, .int 0, .int 0, .int 0, .int 0, .int 0])), (h4, .inl (k4, 16, .inl f))] s.heap.size = A at hD ⊢
  have hA : ∀ q : Nat, s.heap.size ≤ q → A q := fun q h => by rw [← hAe]; exact Or.inr h
  have hS : va_S A s.heap s.heap [] := va_S.rf
  have hP : va_P (dC, dI) vwCl [(h0, .inr (0, [.ref h1, .ref h2, .ref h3, .ref h4, .int 0, .int 0, .int 0, .int 0, .int 0, .int 0])), (h4, .inl (k4, 16, .inl f))] s.heap := hP
  have hinX0 : ∀ w ∈ wsX00, w ∈ wsX0_soughtLength := fun _ h => List.mem_cons_of_mem _ (List.mem_append_right _ h)
  have hl := lv_entry ([.ref h0]) (n := 2) (Nat.le_of_ble_eq_true rfl)
  rw [lg_entry_eq]
  generalize (lg_sl ([.ref h0]) ++ List.replicate (2 - (lg_sl ([.ref h0])).length) Slot.unset).toArray = ls at hl ⊢
  have hl : lv_has ls 2 [(0, .ref h0)] := hl
  refine lv_iconst (v := 0) hx hb dX0_soughtLength_0 (by decide) ?_
  refine lv_istore_n (lv' := [(1, .int 0), (0, .ref h0)]) hx hb dX0_soughtLength_1 rfl hl (by decide) rfl (fun ls hl => ?_)
  refine lv_iload_n hx hb dX0_soughtLength_2 rfl (lv_at hl 0 rfl) ?_
  refine lv_bipush (v := 16) hx hb dX0_soughtLength_3 (by decide) ?_
  refine lv_icmp_ge (tgt := 25) hx hb dX0_soughtLength_5 (by decide) (fun c_1 => absurd c_1 (by decide)) (fun c_1 => ?_)
  refine lv_aload_n hx hb dX0_soughtLength_8 rfl (lv_at hl 1 rfl) ?_
  refine va_get (D := (dC, dI)) (ci := 0) (v := .ref h4) (C := RX0) (T := TX0) (N := 10) hx hb hts hinX0 hown hK hP 0 rfl rfl 3 (by decide) (hts (.fieldLink RX0 25 "CensusDesk$Book" "sought" "[I") (List.mem_of_getElem? (i := 1) rfl)) (fun _ h9 => h9) rfl dX0_soughtLength_9 ?_
  refine lv_iload_n hx hb dX0_soughtLength_12 rfl (lv_at hl 0 rfl) ?_
  refine va_iald hx hb hK hP 1 0 rfl rfl (i := 0) (vp_in_nI (n := 0) (by decide) (by decide)) dX0_soughtLength_13 ?_
  refine lv_if_ne (tgt := 19) hx hb dX0_soughtLength_14 (by decide) (fun c_2 => ?_) (fun c_2 => ?_)
  · refine lv_iinc (v := 1) (lv' := [(1, .int 1), (0, .ref h0)]) hx hb dX0_soughtLength_19 hl (k := 0) rfl (by decide) (by decide) rfl (fun ls hl => ?_)
    refine lv_goto (tgt := 2) hx hb dX0_soughtLength_22 (by decide) ?_
    refine lv_iload_n hx hb dX0_soughtLength_2 rfl (lv_at hl 0 rfl) ?_
    refine lv_bipush (v := 16) hx hb dX0_soughtLength_3 (by decide) ?_
    refine lv_icmp_ge (tgt := 25) hx hb dX0_soughtLength_5 (by decide) (fun c_3 => absurd c_3 (by decide)) (fun c_3 => ?_)
    refine lv_aload_n hx hb dX0_soughtLength_8 rfl (lv_at hl 1 rfl) ?_
    refine va_get (D := (dC, dI)) (ci := 0) (v := .ref h4) (C := RX0) (T := TX0) (N := 10) hx hb hts hinX0 hown hK hP 0 rfl rfl 3 (by decide) (hts (.fieldLink RX0 25 "CensusDesk$Book" "sought" "[I") (List.mem_of_getElem? (i := 1) rfl)) (fun _ h9 => h9) rfl dX0_soughtLength_9 ?_
    refine lv_iload_n hx hb dX0_soughtLength_12 rfl (lv_at hl 0 rfl) ?_
    refine va_iald hx hb hK hP 1 0 rfl rfl (i := 1) (vp_in_nI (n := 1) (by decide) (by decide)) dX0_soughtLength_13 ?_
    refine lv_if_ne (tgt := 19) hx hb dX0_soughtLength_14 (by decide) (fun c_4 => ?_) (fun c_4 => ?_)
    · refine lv_iinc (v := 2) (lv' := [(1, .int 2), (0, .ref h0)]) hx hb dX0_soughtLength_19 hl (k := 0) rfl (by decide) (by decide) rfl (fun ls hl => ?_)
      refine lv_goto (tgt := 2) hx hb dX0_soughtLength_22 (by decide) ?_
      refine lv_iload_n hx hb dX0_soughtLength_2 rfl (lv_at hl 0 rfl) ?_
      refine lv_bipush (v := 16) hx hb dX0_soughtLength_3 (by decide) ?_
      refine lv_icmp_ge (tgt := 25) hx hb dX0_soughtLength_5 (by decide) (fun c_5 => absurd c_5 (by decide)) (fun c_5 => ?_)
      refine lv_aload_n hx hb dX0_soughtLength_8 rfl (lv_at hl 1 rfl) ?_
      refine va_get (D := (dC, dI)) (ci := 0) (v := .ref h4) (C := RX0) (T := TX0) (N := 10) hx hb hts hinX0 hown hK hP 0 rfl rfl 3 (by decide) (hts (.fieldLink RX0 25 "CensusDesk$Book" "sought" "[I") (List.mem_of_getElem? (i := 1) rfl)) (fun _ h9 => h9) rfl dX0_soughtLength_9 ?_
      refine lv_iload_n hx hb dX0_soughtLength_12 rfl (lv_at hl 0 rfl) ?_
      refine va_iald hx hb hK hP 1 0 rfl rfl (i := 2) (vp_in_nI (n := 2) (by decide) (by decide)) dX0_soughtLength_13 ?_
      refine lv_if_ne (tgt := 19) hx hb dX0_soughtLength_14 (by decide) (fun c_6 => ?_) (fun c_6 => ?_)
      · refine lv_iinc (v := 3) (lv' := [(1, .int 3), (0, .ref h0)]) hx hb dX0_soughtLength_19 hl (k := 0) rfl (by decide) (by decide) rfl (fun ls hl => ?_)
        refine lv_goto (tgt := 2) hx hb dX0_soughtLength_22 (by decide) ?_
        refine lv_iload_n hx hb dX0_soughtLength_2 rfl (lv_at hl 0 rfl) ?_
        refine lv_bipush (v := 16) hx hb dX0_soughtLength_3 (by decide) ?_
        refine lv_icmp_ge (tgt := 25) hx hb dX0_soughtLength_5 (by decide) (fun c_7 => absurd c_7 (by decide)) (fun c_7 => ?_)
        refine lv_aload_n hx hb dX0_soughtLength_8 rfl (lv_at hl 1 rfl) ?_
        refine va_get (D := (dC, dI)) (ci := 0) (v := .ref h4) (C := RX0) (T := TX0) (N := 10) hx hb hts hinX0 hown hK hP 0 rfl rfl 3 (by decide) (hts (.fieldLink RX0 25 "CensusDesk$Book" "sought" "[I") (List.mem_of_getElem? (i := 1) rfl)) (fun _ h9 => h9) rfl dX0_soughtLength_9 ?_
        refine lv_iload_n hx hb dX0_soughtLength_12 rfl (lv_at hl 0 rfl) ?_
        refine va_iald hx hb hK hP 1 0 rfl rfl (i := 3) (vp_in_nI (n := 3) (by decide) (by decide)) dX0_soughtLength_13 ?_
        refine lv_if_ne (tgt := 19) hx hb dX0_soughtLength_14 (by decide) (fun c_8 => ?_) (fun c_8 => ?_)
        · refine lv_iinc (v := 4) (lv' := [(1, .int 4), (0, .ref h0)]) hx hb dX0_soughtLength_19 hl (k := 0) rfl (by decide) (by decide) rfl (fun ls hl => ?_)
          refine lv_goto (tgt := 2) hx hb dX0_soughtLength_22 (by decide) ?_
          refine lv_iload_n hx hb dX0_soughtLength_2 rfl (lv_at hl 0 rfl) ?_
          refine lv_bipush (v := 16) hx hb dX0_soughtLength_3 (by decide) ?_
          refine lv_icmp_ge (tgt := 25) hx hb dX0_soughtLength_5 (by decide) (fun c_9 => absurd c_9 (by decide)) (fun c_9 => ?_)
          refine lv_aload_n hx hb dX0_soughtLength_8 rfl (lv_at hl 1 rfl) ?_
          refine va_get (D := (dC, dI)) (ci := 0) (v := .ref h4) (C := RX0) (T := TX0) (N := 10) hx hb hts hinX0 hown hK hP 0 rfl rfl 3 (by decide) (hts (.fieldLink RX0 25 "CensusDesk$Book" "sought" "[I") (List.mem_of_getElem? (i := 1) rfl)) (fun _ h9 => h9) rfl dX0_soughtLength_9 ?_
          refine lv_iload_n hx hb dX0_soughtLength_12 rfl (lv_at hl 0 rfl) ?_
          refine va_iald hx hb hK hP 1 0 rfl rfl (i := 4) (vp_in_nI (n := 4) (by decide) (by decide)) dX0_soughtLength_13 ?_
          refine lv_if_ne (tgt := 19) hx hb dX0_soughtLength_14 (by decide) (fun c_10 => ?_) (fun c_10 => ?_)
          · refine lv_iinc (v := 5) (lv' := [(1, .int 5), (0, .ref h0)]) hx hb dX0_soughtLength_19 hl (k := 0) rfl (by decide) (by decide) rfl (fun ls hl => ?_)
            refine lv_goto (tgt := 2) hx hb dX0_soughtLength_22 (by decide) ?_
            refine lv_iload_n hx hb dX0_soughtLength_2 rfl (lv_at hl 0 rfl) ?_
            refine lv_bipush (v := 16) hx hb dX0_soughtLength_3 (by decide) ?_
            refine lv_icmp_ge (tgt := 25) hx hb dX0_soughtLength_5 (by decide) (fun c_11 => absurd c_11 (by decide)) (fun c_11 => ?_)
            refine lv_aload_n hx hb dX0_soughtLength_8 rfl (lv_at hl 1 rfl) ?_
            refine va_get (D := (dC, dI)) (ci := 0) (v := .ref h4) (C := RX0) (T := TX0) (N := 10) hx hb hts hinX0 hown hK hP 0 rfl rfl 3 (by decide) (hts (.fieldLink RX0 25 "CensusDesk$Book" "sought" "[I") (List.mem_of_getElem? (i := 1) rfl)) (fun _ h9 => h9) rfl dX0_soughtLength_9 ?_
            refine lv_iload_n hx hb dX0_soughtLength_12 rfl (lv_at hl 0 rfl) ?_
            refine va_iald hx hb hK hP 1 0 rfl rfl (i := 5) (vp_in_nI (n := 5) (by decide) (by decide)) dX0_soughtLength_13 ?_
            refine lv_if_ne (tgt := 19) hx hb dX0_soughtLength_14 (by decide) (fun c_12 => ?_) (fun c_12 => ?_)
            · refine lv_iinc (v := 6) (lv' := [(1, .int 6), (0, .ref h0)]) hx hb dX0_soughtLength_19 hl (k := 0) rfl (by decide) (by decide) rfl (fun ls hl => ?_)
              refine lv_goto (tgt := 2) hx hb dX0_soughtLength_22 (by decide) ?_
              refine lv_iload_n hx hb dX0_soughtLength_2 rfl (lv_at hl 0 rfl) ?_
              refine lv_bipush (v := 16) hx hb dX0_soughtLength_3 (by decide) ?_
              refine lv_icmp_ge (tgt := 25) hx hb dX0_soughtLength_5 (by decide) (fun c_13 => absurd c_13 (by decide)) (fun c_13 => ?_)
              refine lv_aload_n hx hb dX0_soughtLength_8 rfl (lv_at hl 1 rfl) ?_
              refine va_get (D := (dC, dI)) (ci := 0) (v := .ref h4) (C := RX0) (T := TX0) (N := 10) hx hb hts hinX0 hown hK hP 0 rfl rfl 3 (by decide) (hts (.fieldLink RX0 25 "CensusDesk$Book" "sought" "[I") (List.mem_of_getElem? (i := 1) rfl)) (fun _ h9 => h9) rfl dX0_soughtLength_9 ?_
              refine lv_iload_n hx hb dX0_soughtLength_12 rfl (lv_at hl 0 rfl) ?_
              refine va_iald hx hb hK hP 1 0 rfl rfl (i := 6) (vp_in_nI (n := 6) (by decide) (by decide)) dX0_soughtLength_13 ?_
              refine lv_if_ne (tgt := 19) hx hb dX0_soughtLength_14 (by decide) (fun c_14 => ?_) (fun c_14 => ?_)
              · refine lv_iinc (v := 7) (lv' := [(1, .int 7), (0, .ref h0)]) hx hb dX0_soughtLength_19 hl (k := 0) rfl (by decide) (by decide) rfl (fun ls hl => ?_)
                refine lv_goto (tgt := 2) hx hb dX0_soughtLength_22 (by decide) ?_
                refine lv_iload_n hx hb dX0_soughtLength_2 rfl (lv_at hl 0 rfl) ?_
                refine lv_bipush (v := 16) hx hb dX0_soughtLength_3 (by decide) ?_
                refine lv_icmp_ge (tgt := 25) hx hb dX0_soughtLength_5 (by decide) (fun c_15 => absurd c_15 (by decide)) (fun c_15 => ?_)
                refine lv_aload_n hx hb dX0_soughtLength_8 rfl (lv_at hl 1 rfl) ?_
                refine va_get (D := (dC, dI)) (ci := 0) (v := .ref h4) (C := RX0) (T := TX0) (N := 10) hx hb hts hinX0 hown hK hP 0 rfl rfl 3 (by decide) (hts (.fieldLink RX0 25 "CensusDesk$Book" "sought" "[I") (List.mem_of_getElem? (i := 1) rfl)) (fun _ h9 => h9) rfl dX0_soughtLength_9 ?_
                refine lv_iload_n hx hb dX0_soughtLength_12 rfl (lv_at hl 0 rfl) ?_
                refine va_iald hx hb hK hP 1 0 rfl rfl (i := 7) (vp_in_nI (n := 7) (by decide) (by decide)) dX0_soughtLength_13 ?_
                refine lv_if_ne (tgt := 19) hx hb dX0_soughtLength_14 (by decide) (fun c_16 => ?_) (fun c_16 => ?_)
                · refine lv_iinc (v := 8) (lv' := [(1, .int 8), (0, .ref h0)]) hx hb dX0_soughtLength_19 hl (k := 0) rfl (by decide) (by decide) rfl (fun ls hl => ?_)
                  refine lv_goto (tgt := 2) hx hb dX0_soughtLength_22 (by decide) ?_
                  refine lv_iload_n hx hb dX0_soughtLength_2 rfl (lv_at hl 0 rfl) ?_
                  refine lv_bipush (v := 16) hx hb dX0_soughtLength_3 (by decide) ?_
                  refine lv_icmp_ge (tgt := 25) hx hb dX0_soughtLength_5 (by decide) (fun c_17 => absurd c_17 (by decide)) (fun c_17 => ?_)
                  refine lv_aload_n hx hb dX0_soughtLength_8 rfl (lv_at hl 1 rfl) ?_
                  refine va_get (D := (dC, dI)) (ci := 0) (v := .ref h4) (C := RX0) (T := TX0) (N := 10) hx hb hts hinX0 hown hK hP 0 rfl rfl 3 (by decide) (hts (.fieldLink RX0 25 "CensusDesk$Book" "sought" "[I") (List.mem_of_getElem? (i := 1) rfl)) (fun _ h9 => h9) rfl dX0_soughtLength_9 ?_
                  refine lv_iload_n hx hb dX0_soughtLength_12 rfl (lv_at hl 0 rfl) ?_
                  refine va_iald hx hb hK hP 1 0 rfl rfl (i := 8) (vp_in_nI (n := 8) (by decide) (by decide)) dX0_soughtLength_13 ?_
                  refine lv_if_ne (tgt := 19) hx hb dX0_soughtLength_14 (by decide) (fun c_18 => ?_) (fun c_18 => ?_)
                  · refine lv_iinc (v := 9) (lv' := [(1, .int 9), (0, .ref h0)]) hx hb dX0_soughtLength_19 hl (k := 0) rfl (by decide) (by decide) rfl (fun ls hl => ?_)
                    refine lv_goto (tgt := 2) hx hb dX0_soughtLength_22 (by decide) ?_
                    refine lv_iload_n hx hb dX0_soughtLength_2 rfl (lv_at hl 0 rfl) ?_
                    refine lv_bipush (v := 16) hx hb dX0_soughtLength_3 (by decide) ?_
                    refine lv_icmp_ge (tgt := 25) hx hb dX0_soughtLength_5 (by decide) (fun c_19 => absurd c_19 (by decide)) (fun c_19 => ?_)
                    refine lv_aload_n hx hb dX0_soughtLength_8 rfl (lv_at hl 1 rfl) ?_
                    refine va_get (D := (dC, dI)) (ci := 0) (v := .ref h4) (C := RX0) (T := TX0) (N := 10) hx hb hts hinX0 hown hK hP 0 rfl rfl 3 (by decide) (hts (.fieldLink RX0 25 "CensusDesk$Book" "sought" "[I") (List.mem_of_getElem? (i := 1) rfl)) (fun _ h9 => h9) rfl dX0_soughtLength_9 ?_
                    refine lv_iload_n hx hb dX0_soughtLength_12 rfl (lv_at hl 0 rfl) ?_
                    refine va_iald hx hb hK hP 1 0 rfl rfl (i := 9) (vp_in_nI (n := 9) (by decide) (by decide)) dX0_soughtLength_13 ?_
                    refine lv_if_ne (tgt := 19) hx hb dX0_soughtLength_14 (by decide) (fun c_20 => ?_) (fun c_20 => ?_)
                    · refine lv_iinc (v := 10) (lv' := [(1, .int 10), (0, .ref h0)]) hx hb dX0_soughtLength_19 hl (k := 0) rfl (by decide) (by decide) rfl (fun ls hl => ?_)
                      refine lv_goto (tgt := 2) hx hb dX0_soughtLength_22 (by decide) ?_
                      refine lv_iload_n hx hb dX0_soughtLength_2 rfl (lv_at hl 0 rfl) ?_
                      refine lv_bipush (v := 16) hx hb dX0_soughtLength_3 (by decide) ?_
                      refine lv_icmp_ge (tgt := 25) hx hb dX0_soughtLength_5 (by decide) (fun c_21 => absurd c_21 (by decide)) (fun c_21 => ?_)
                      refine lv_aload_n hx hb dX0_soughtLength_8 rfl (lv_at hl 1 rfl) ?_
                      refine va_get (D := (dC, dI)) (ci := 0) (v := .ref h4) (C := RX0) (T := TX0) (N := 10) hx hb hts hinX0 hown hK hP 0 rfl rfl 3 (by decide) (hts (.fieldLink RX0 25 "CensusDesk$Book" "sought" "[I") (List.mem_of_getElem? (i := 1) rfl)) (fun _ h9 => h9) rfl dX0_soughtLength_9 ?_
                      refine lv_iload_n hx hb dX0_soughtLength_12 rfl (lv_at hl 0 rfl) ?_
                      refine va_iald hx hb hK hP 1 0 rfl rfl (i := 10) (vp_in_nI (n := 10) (by decide) (by decide)) dX0_soughtLength_13 ?_
                      refine lv_if_ne (tgt := 19) hx hb dX0_soughtLength_14 (by decide) (fun c_22 => ?_) (fun c_22 => ?_)
                      · refine lv_iinc (v := 11) (lv' := [(1, .int 11), (0, .ref h0)]) hx hb dX0_soughtLength_19 hl (k := 0) rfl (by decide) (by decide) rfl (fun ls hl => ?_)
                        refine lv_goto (tgt := 2) hx hb dX0_soughtLength_22 (by decide) ?_
                        refine lv_iload_n hx hb dX0_soughtLength_2 rfl (lv_at hl 0 rfl) ?_
                        refine lv_bipush (v := 16) hx hb dX0_soughtLength_3 (by decide) ?_
                        refine lv_icmp_ge (tgt := 25) hx hb dX0_soughtLength_5 (by decide) (fun c_23 => absurd c_23 (by decide)) (fun c_23 => ?_)
                        refine lv_aload_n hx hb dX0_soughtLength_8 rfl (lv_at hl 1 rfl) ?_
                        refine va_get (D := (dC, dI)) (ci := 0) (v := .ref h4) (C := RX0) (T := TX0) (N := 10) hx hb hts hinX0 hown hK hP 0 rfl rfl 3 (by decide) (hts (.fieldLink RX0 25 "CensusDesk$Book" "sought" "[I") (List.mem_of_getElem? (i := 1) rfl)) (fun _ h9 => h9) rfl dX0_soughtLength_9 ?_
                        refine lv_iload_n hx hb dX0_soughtLength_12 rfl (lv_at hl 0 rfl) ?_
                        refine va_iald hx hb hK hP 1 0 rfl rfl (i := 11) (vp_in_nI (n := 11) (by decide) (by decide)) dX0_soughtLength_13 ?_
                        refine lv_if_ne (tgt := 19) hx hb dX0_soughtLength_14 (by decide) (fun c_24 => ?_) (fun c_24 => ?_)
                        · refine lv_iinc (v := 12) (lv' := [(1, .int 12), (0, .ref h0)]) hx hb dX0_soughtLength_19 hl (k := 0) rfl (by decide) (by decide) rfl (fun ls hl => ?_)
                          refine lv_goto (tgt := 2) hx hb dX0_soughtLength_22 (by decide) ?_
                          refine lv_iload_n hx hb dX0_soughtLength_2 rfl (lv_at hl 0 rfl) ?_
                          refine lv_bipush (v := 16) hx hb dX0_soughtLength_3 (by decide) ?_
                          refine lv_icmp_ge (tgt := 25) hx hb dX0_soughtLength_5 (by decide) (fun c_25 => absurd c_25 (by decide)) (fun c_25 => ?_)
                          refine lv_aload_n hx hb dX0_soughtLength_8 rfl (lv_at hl 1 rfl) ?_
                          refine va_get (D := (dC, dI)) (ci := 0) (v := .ref h4) (C := RX0) (T := TX0) (N := 10) hx hb hts hinX0 hown hK hP 0 rfl rfl 3 (by decide) (hts (.fieldLink RX0 25 "CensusDesk$Book" "sought" "[I") (List.mem_of_getElem? (i := 1) rfl)) (fun _ h9 => h9) rfl dX0_soughtLength_9 ?_
                          refine lv_iload_n hx hb dX0_soughtLength_12 rfl (lv_at hl 0 rfl) ?_
                          refine va_iald hx hb hK hP 1 0 rfl rfl (i := 12) (vp_in_nI (n := 12) (by decide) (by decide)) dX0_soughtLength_13 ?_
                          refine lv_if_ne (tgt := 19) hx hb dX0_soughtLength_14 (by decide) (fun c_26 => ?_) (fun c_26 => ?_)
                          · refine lv_iinc (v := 13) (lv' := [(1, .int 13), (0, .ref h0)]) hx hb dX0_soughtLength_19 hl (k := 0) rfl (by decide) (by decide) rfl (fun ls hl => ?_)
                            refine lv_goto (tgt := 2) hx hb dX0_soughtLength_22 (by decide) ?_
                            refine lv_iload_n hx hb dX0_soughtLength_2 rfl (lv_at hl 0 rfl) ?_
                            refine lv_bipush (v := 16) hx hb dX0_soughtLength_3 (by decide) ?_
                            refine lv_icmp_ge (tgt := 25) hx hb dX0_soughtLength_5 (by decide) (fun c_27 => absurd c_27 (by decide)) (fun c_27 => ?_)
                            refine lv_aload_n hx hb dX0_soughtLength_8 rfl (lv_at hl 1 rfl) ?_
                            refine va_get (D := (dC, dI)) (ci := 0) (v := .ref h4) (C := RX0) (T := TX0) (N := 10) hx hb hts hinX0 hown hK hP 0 rfl rfl 3 (by decide) (hts (.fieldLink RX0 25 "CensusDesk$Book" "sought" "[I") (List.mem_of_getElem? (i := 1) rfl)) (fun _ h9 => h9) rfl dX0_soughtLength_9 ?_
                            refine lv_iload_n hx hb dX0_soughtLength_12 rfl (lv_at hl 0 rfl) ?_
                            refine va_iald hx hb hK hP 1 0 rfl rfl (i := 13) (vp_in_nI (n := 13) (by decide) (by decide)) dX0_soughtLength_13 ?_
                            refine lv_if_ne (tgt := 19) hx hb dX0_soughtLength_14 (by decide) (fun c_28 => ?_) (fun c_28 => ?_)
                            · refine lv_iinc (v := 14) (lv' := [(1, .int 14), (0, .ref h0)]) hx hb dX0_soughtLength_19 hl (k := 0) rfl (by decide) (by decide) rfl (fun ls hl => ?_)
                              refine lv_goto (tgt := 2) hx hb dX0_soughtLength_22 (by decide) ?_
                              refine lv_iload_n hx hb dX0_soughtLength_2 rfl (lv_at hl 0 rfl) ?_
                              refine lv_bipush (v := 16) hx hb dX0_soughtLength_3 (by decide) ?_
                              refine lv_icmp_ge (tgt := 25) hx hb dX0_soughtLength_5 (by decide) (fun c_29 => absurd c_29 (by decide)) (fun c_29 => ?_)
                              refine lv_aload_n hx hb dX0_soughtLength_8 rfl (lv_at hl 1 rfl) ?_
                              refine va_get (D := (dC, dI)) (ci := 0) (v := .ref h4) (C := RX0) (T := TX0) (N := 10) hx hb hts hinX0 hown hK hP 0 rfl rfl 3 (by decide) (hts (.fieldLink RX0 25 "CensusDesk$Book" "sought" "[I") (List.mem_of_getElem? (i := 1) rfl)) (fun _ h9 => h9) rfl dX0_soughtLength_9 ?_
                              refine lv_iload_n hx hb dX0_soughtLength_12 rfl (lv_at hl 0 rfl) ?_
                              refine va_iald hx hb hK hP 1 0 rfl rfl (i := 14) (vp_in_nI (n := 14) (by decide) (by decide)) dX0_soughtLength_13 ?_
                              refine lv_if_ne (tgt := 19) hx hb dX0_soughtLength_14 (by decide) (fun c_30 => ?_) (fun c_30 => ?_)
                              · refine lv_iinc (v := 15) (lv' := [(1, .int 15), (0, .ref h0)]) hx hb dX0_soughtLength_19 hl (k := 0) rfl (by decide) (by decide) rfl (fun ls hl => ?_)
                                refine lv_goto (tgt := 2) hx hb dX0_soughtLength_22 (by decide) ?_
                                refine lv_iload_n hx hb dX0_soughtLength_2 rfl (lv_at hl 0 rfl) ?_
                                refine lv_bipush (v := 16) hx hb dX0_soughtLength_3 (by decide) ?_
                                refine lv_icmp_ge (tgt := 25) hx hb dX0_soughtLength_5 (by decide) (fun c_31 => absurd c_31 (by decide)) (fun c_31 => ?_)
                                refine lv_aload_n hx hb dX0_soughtLength_8 rfl (lv_at hl 1 rfl) ?_
                                refine va_get (D := (dC, dI)) (ci := 0) (v := .ref h4) (C := RX0) (T := TX0) (N := 10) hx hb hts hinX0 hown hK hP 0 rfl rfl 3 (by decide) (hts (.fieldLink RX0 25 "CensusDesk$Book" "sought" "[I") (List.mem_of_getElem? (i := 1) rfl)) (fun _ h9 => h9) rfl dX0_soughtLength_9 ?_
                                refine lv_iload_n hx hb dX0_soughtLength_12 rfl (lv_at hl 0 rfl) ?_
                                refine va_iald hx hb hK hP 1 0 rfl rfl (i := 15) (vp_in_nI (n := 15) (by decide) (by decide)) dX0_soughtLength_13 ?_
                                refine lv_if_ne (tgt := 19) hx hb dX0_soughtLength_14 (by decide) (fun c_32 => ?_) (fun c_32 => ?_)
                                · refine lv_iinc (v := 16) (lv' := [(1, .int 16), (0, .ref h0)]) hx hb dX0_soughtLength_19 hl (k := 0) rfl (by decide) (by decide) rfl (fun ls hl => ?_)
                                  refine lv_goto (tgt := 2) hx hb dX0_soughtLength_22 (by decide) ?_
                                  refine lv_iload_n hx hb dX0_soughtLength_2 rfl (lv_at hl 0 rfl) ?_
                                  refine lv_bipush (v := 16) hx hb dX0_soughtLength_3 (by decide) ?_
                                  refine lv_icmp_ge (tgt := 25) hx hb dX0_soughtLength_5 (by decide) (fun c_33 => ?_) (fun c_33 => absurd c_33 (by decide))
                                  refine lv_bipush (v := 16) hx hb dX0_soughtLength_25 (by decide) ?_
                                  have hP9 := hP.sub (ws' := [(h0, .inr (0, [.ref h1, .ref h2, .ref h3, .ref h4, .int 0, .int 0, .int 0, .int 0, .int 0, .int 0])), (h4, .inl (k4, 16, .inl f))]) [0, 1] rfl
                                  have hD9 := hD.sub (ws' := [(h0, .inr (0, [.ref h1, .ref h2, .ref h3, .ref h4, .int 0, .int 0, .int 0, .int 0, .int 0, .int 0])), (h4, .inl (k4, 16, .inl f))]) [0, 1] (by decide) rfl
                                  have hK9 := hK.sub (tys' := [(k4, .int)]) [0] rfl
                                  exact W.iret (v := 16) hx hb hr (fun t ht hW => ⟨⟨16, (), rfl, trivial, ⟨by rw [ht]; exact hP9, va_K.moved hW.alike hK9, hD9⟩⟩, hS.F ht⟩) hS.2.2 dX0_soughtLength_27
                                · refine lv_iload_n hx hb dX0_soughtLength_17 rfl (lv_at hl 0 rfl) ?_
                                  have hP9 := hP.sub (ws' := [(h0, .inr (0, [.ref h1, .ref h2, .ref h3, .ref h4, .int 0, .int 0, .int 0, .int 0, .int 0, .int 0])), (h4, .inl (k4, 16, .inl f))]) [0, 1] rfl
                                  have hD9 := hD.sub (ws' := [(h0, .inr (0, [.ref h1, .ref h2, .ref h3, .ref h4, .int 0, .int 0, .int 0, .int 0, .int 0, .int 0])), (h4, .inl (k4, 16, .inl f))]) [0, 1] (by decide) rfl
                                  have hK9 := hK.sub (tys' := [(k4, .int)]) [0] rfl
                                  exact W.iret (v := 15) hx hb hr (fun t ht hW => ⟨⟨15, (), rfl, trivial, ⟨by rw [ht]; exact hP9, va_K.moved hW.alike hK9, hD9⟩⟩, hS.F ht⟩) hS.2.2 dX0_soughtLength_18
                              · refine lv_iload_n hx hb dX0_soughtLength_17 rfl (lv_at hl 0 rfl) ?_
                                have hP9 := hP.sub (ws' := [(h0, .inr (0, [.ref h1, .ref h2, .ref h3, .ref h4, .int 0, .int 0, .int 0, .int 0, .int 0, .int 0])), (h4, .inl (k4, 16, .inl f))]) [0, 1] rfl
                                have hD9 := hD.sub (ws' := [(h0, .inr (0, [.ref h1, .ref h2, .ref h3, .ref h4, .int 0, .int 0, .int 0, .int 0, .int 0, .int 0])), (h4, .inl (k4, 16, .inl f))]) [0, 1] (by decide) rfl
                                have hK9 := hK.sub (tys' := [(k4, .int)]) [0] rfl
                                exact W.iret (v := 14) hx hb hr (fun t ht hW => ⟨⟨14, (), rfl, trivial, ⟨by rw [ht]; exact hP9, va_K.moved hW.alike hK9, hD9⟩⟩, hS.F ht⟩) hS.2.2 dX0_soughtLength_18
                            · refine lv_iload_n hx hb dX0_soughtLength_17 rfl (lv_at hl 0 rfl) ?_
                              have hP9 := hP.sub (ws' := [(h0, .inr (0, [.ref h1, .ref h2, .ref h3, .ref h4, .int 0, .int 0, .int 0, .int 0, .int 0, .int 0])), (h4, .inl (k4, 16, .inl f))]) [0, 1] rfl
                              have hD9 := hD.sub (ws' := [(h0, .inr (0, [.ref h1, .ref h2, .ref h3, .ref h4, .int 0, .int 0, .int 0, .int 0, .int 0, .int 0])), (h4, .inl (k4, 16, .inl f))]) [0, 1] (by decide) rfl
                              have hK9 := hK.sub (tys' := [(k4, .int)]) [0] rfl
                              exact W.iret (v := 13) hx hb hr (fun t ht hW => ⟨⟨13, (), rfl, trivial, ⟨by rw [ht]; exact hP9, va_K.moved hW.alike hK9, hD9⟩⟩, hS.F ht⟩) hS.2.2 dX0_soughtLength_18
                          · refine lv_iload_n hx hb dX0_soughtLength_17 rfl (lv_at hl 0 rfl) ?_
                            have hP9 := hP.sub (ws' := [(h0, .inr (0, [.ref h1, .ref h2, .ref h3, .ref h4, .int 0, .int 0, .int 0, .int 0, .int 0, .int 0])), (h4, .inl (k4, 16, .inl f))]) [0, 1] rfl
                            have hD9 := hD.sub (ws' := [(h0, .inr (0, [.ref h1, .ref h2, .ref h3, .ref h4, .int 0, .int 0, .int 0, .int 0, .int 0, .int 0])), (h4, .inl (k4, 16, .inl f))]) [0, 1] (by decide) rfl
                            have hK9 := hK.sub (tys' := [(k4, .int)]) [0] rfl
                            exact W.iret (v := 12) hx hb hr (fun t ht hW => ⟨⟨12, (), rfl, trivial, ⟨by rw [ht]; exact hP9, va_K.moved hW.alike hK9, hD9⟩⟩, hS.F ht⟩) hS.2.2 dX0_soughtLength_18
                        · refine lv_iload_n hx hb dX0_soughtLength_17 rfl (lv_at hl 0 rfl) ?_
                          have hP9 := hP.sub (ws' := [(h0, .inr (0, [.ref h1, .ref h2, .ref h3, .ref h4, .int 0, .int 0, .int 0, .int 0, .int 0, .int 0])), (h4, .inl (k4, 16, .inl f))]) [0, 1] rfl
                          have hD9 := hD.sub (ws' := [(h0, .inr (0, [.ref h1, .ref h2, .ref h3, .ref h4, .int 0, .int 0, .int 0, .int 0, .int 0, .int 0])), (h4, .inl (k4, 16, .inl f))]) [0, 1] (by decide) rfl
                          have hK9 := hK.sub (tys' := [(k4, .int)]) [0] rfl
                          exact W.iret (v := 11) hx hb hr (fun t ht hW => ⟨⟨11, (), rfl, trivial, ⟨by rw [ht]; exact hP9, va_K.moved hW.alike hK9, hD9⟩⟩, hS.F ht⟩) hS.2.2 dX0_soughtLength_18
                      · refine lv_iload_n hx hb dX0_soughtLength_17 rfl (lv_at hl 0 rfl) ?_
                        have hP9 := hP.sub (ws' := [(h0, .inr (0, [.ref h1, .ref h2, .ref h3, .ref h4, .int 0, .int 0, .int 0, .int 0, .int 0, .int 0])), (h4, .inl (k4, 16, .inl f))]) [0, 1] rfl
                        have hD9 := hD.sub (ws' := [(h0, .inr (0, [.ref h1, .ref h2, .ref h3, .ref h4, .int 0, .int 0, .int 0, .int 0, .int 0, .int 0])), (h4, .inl (k4, 16, .inl f))]) [0, 1] (by decide) rfl
                        have hK9 := hK.sub (tys' := [(k4, .int)]) [0] rfl
                        exact W.iret (v := 10) hx hb hr (fun t ht hW => ⟨⟨10, (), rfl, trivial, ⟨by rw [ht]; exact hP9, va_K.moved hW.alike hK9, hD9⟩⟩, hS.F ht⟩) hS.2.2 dX0_soughtLength_18
                    · refine lv_iload_n hx hb dX0_soughtLength_17 rfl (lv_at hl 0 rfl) ?_
                      have hP9 := hP.sub (ws' := [(h0, .inr (0, [.ref h1, .ref h2, .ref h3, .ref h4, .int 0, .int 0, .int 0, .int 0, .int 0, .int 0])), (h4, .inl (k4, 16, .inl f))]) [0, 1] rfl
                      have hD9 := hD.sub (ws' := [(h0, .inr (0, [.ref h1, .ref h2, .ref h3, .ref h4, .int 0, .int 0, .int 0, .int 0, .int 0, .int 0])), (h4, .inl (k4, 16, .inl f))]) [0, 1] (by decide) rfl
                      have hK9 := hK.sub (tys' := [(k4, .int)]) [0] rfl
                      exact W.iret (v := 9) hx hb hr (fun t ht hW => ⟨⟨9, (), rfl, trivial, ⟨by rw [ht]; exact hP9, va_K.moved hW.alike hK9, hD9⟩⟩, hS.F ht⟩) hS.2.2 dX0_soughtLength_18
                  · refine lv_iload_n hx hb dX0_soughtLength_17 rfl (lv_at hl 0 rfl) ?_
                    have hP9 := hP.sub (ws' := [(h0, .inr (0, [.ref h1, .ref h2, .ref h3, .ref h4, .int 0, .int 0, .int 0, .int 0, .int 0, .int 0])), (h4, .inl (k4, 16, .inl f))]) [0, 1] rfl
                    have hD9 := hD.sub (ws' := [(h0, .inr (0, [.ref h1, .ref h2, .ref h3, .ref h4, .int 0, .int 0, .int 0, .int 0, .int 0, .int 0])), (h4, .inl (k4, 16, .inl f))]) [0, 1] (by decide) rfl
                    have hK9 := hK.sub (tys' := [(k4, .int)]) [0] rfl
                    exact W.iret (v := 8) hx hb hr (fun t ht hW => ⟨⟨8, (), rfl, trivial, ⟨by rw [ht]; exact hP9, va_K.moved hW.alike hK9, hD9⟩⟩, hS.F ht⟩) hS.2.2 dX0_soughtLength_18
                · refine lv_iload_n hx hb dX0_soughtLength_17 rfl (lv_at hl 0 rfl) ?_
                  have hP9 := hP.sub (ws' := [(h0, .inr (0, [.ref h1, .ref h2, .ref h3, .ref h4, .int 0, .int 0, .int 0, .int 0, .int 0, .int 0])), (h4, .inl (k4, 16, .inl f))]) [0, 1] rfl
                  have hD9 := hD.sub (ws' := [(h0, .inr (0, [.ref h1, .ref h2, .ref h3, .ref h4, .int 0, .int 0, .int 0, .int 0, .int 0, .int 0])), (h4, .inl (k4, 16, .inl f))]) [0, 1] (by decide) rfl
                  have hK9 := hK.sub (tys' := [(k4, .int)]) [0] rfl
                  exact W.iret (v := 7) hx hb hr (fun t ht hW => ⟨⟨7, (), rfl, trivial, ⟨by rw [ht]; exact hP9, va_K.moved hW.alike hK9, hD9⟩⟩, hS.F ht⟩) hS.2.2 dX0_soughtLength_18
              · refine lv_iload_n hx hb dX0_soughtLength_17 rfl (lv_at hl 0 rfl) ?_
                have hP9 := hP.sub (ws' := [(h0, .inr (0, [.ref h1, .ref h2, .ref h3, .ref h4, .int 0, .int 0, .int 0, .int 0, .int 0, .int 0])), (h4, .inl (k4, 16, .inl f))]) [0, 1] rfl
                have hD9 := hD.sub (ws' := [(h0, .inr (0, [.ref h1, .ref h2, .ref h3, .ref h4, .int 0, .int 0, .int 0, .int 0, .int 0, .int 0])), (h4, .inl (k4, 16, .inl f))]) [0, 1] (by decide) rfl
                have hK9 := hK.sub (tys' := [(k4, .int)]) [0] rfl
                exact W.iret (v := 6) hx hb hr (fun t ht hW => ⟨⟨6, (), rfl, trivial, ⟨by rw [ht]; exact hP9, va_K.moved hW.alike hK9, hD9⟩⟩, hS.F ht⟩) hS.2.2 dX0_soughtLength_18
            · refine lv_iload_n hx hb dX0_soughtLength_17 rfl (lv_at hl 0 rfl) ?_
              have hP9 := hP.sub (ws' := [(h0, .inr (0, [.ref h1, .ref h2, .ref h3, .ref h4, .int 0, .int 0, .int 0, .int 0, .int 0, .int 0])), (h4, .inl (k4, 16, .inl f))]) [0, 1] rfl
              have hD9 := hD.sub (ws' := [(h0, .inr (0, [.ref h1, .ref h2, .ref h3, .ref h4, .int 0, .int 0, .int 0, .int 0, .int 0, .int 0])), (h4, .inl (k4, 16, .inl f))]) [0, 1] (by decide) rfl
              have hK9 := hK.sub (tys' := [(k4, .int)]) [0] rfl
              exact W.iret (v := 5) hx hb hr (fun t ht hW => ⟨⟨5, (), rfl, trivial, ⟨by rw [ht]; exact hP9, va_K.moved hW.alike hK9, hD9⟩⟩, hS.F ht⟩) hS.2.2 dX0_soughtLength_18
          · refine lv_iload_n hx hb dX0_soughtLength_17 rfl (lv_at hl 0 rfl) ?_
            have hP9 := hP.sub (ws' := [(h0, .inr (0, [.ref h1, .ref h2, .ref h3, .ref h4, .int 0, .int 0, .int 0, .int 0, .int 0, .int 0])), (h4, .inl (k4, 16, .inl f))]) [0, 1] rfl
            have hD9 := hD.sub (ws' := [(h0, .inr (0, [.ref h1, .ref h2, .ref h3, .ref h4, .int 0, .int 0, .int 0, .int 0, .int 0, .int 0])), (h4, .inl (k4, 16, .inl f))]) [0, 1] (by decide) rfl
            have hK9 := hK.sub (tys' := [(k4, .int)]) [0] rfl
            exact W.iret (v := 4) hx hb hr (fun t ht hW => ⟨⟨4, (), rfl, trivial, ⟨by rw [ht]; exact hP9, va_K.moved hW.alike hK9, hD9⟩⟩, hS.F ht⟩) hS.2.2 dX0_soughtLength_18
        · refine lv_iload_n hx hb dX0_soughtLength_17 rfl (lv_at hl 0 rfl) ?_
          have hP9 := hP.sub (ws' := [(h0, .inr (0, [.ref h1, .ref h2, .ref h3, .ref h4, .int 0, .int 0, .int 0, .int 0, .int 0, .int 0])), (h4, .inl (k4, 16, .inl f))]) [0, 1] rfl
          have hD9 := hD.sub (ws' := [(h0, .inr (0, [.ref h1, .ref h2, .ref h3, .ref h4, .int 0, .int 0, .int 0, .int 0, .int 0, .int 0])), (h4, .inl (k4, 16, .inl f))]) [0, 1] (by decide) rfl
          have hK9 := hK.sub (tys' := [(k4, .int)]) [0] rfl
          exact W.iret (v := 3) hx hb hr (fun t ht hW => ⟨⟨3, (), rfl, trivial, ⟨by rw [ht]; exact hP9, va_K.moved hW.alike hK9, hD9⟩⟩, hS.F ht⟩) hS.2.2 dX0_soughtLength_18
      · refine lv_iload_n hx hb dX0_soughtLength_17 rfl (lv_at hl 0 rfl) ?_
        have hP9 := hP.sub (ws' := [(h0, .inr (0, [.ref h1, .ref h2, .ref h3, .ref h4, .int 0, .int 0, .int 0, .int 0, .int 0, .int 0])), (h4, .inl (k4, 16, .inl f))]) [0, 1] rfl
        have hD9 := hD.sub (ws' := [(h0, .inr (0, [.ref h1, .ref h2, .ref h3, .ref h4, .int 0, .int 0, .int 0, .int 0, .int 0, .int 0])), (h4, .inl (k4, 16, .inl f))]) [0, 1] (by decide) rfl
        have hK9 := hK.sub (tys' := [(k4, .int)]) [0] rfl
        exact W.iret (v := 2) hx hb hr (fun t ht hW => ⟨⟨2, (), rfl, trivial, ⟨by rw [ht]; exact hP9, va_K.moved hW.alike hK9, hD9⟩⟩, hS.F ht⟩) hS.2.2 dX0_soughtLength_18
    · refine lv_iload_n hx hb dX0_soughtLength_17 rfl (lv_at hl 0 rfl) ?_
      have hP9 := hP.sub (ws' := [(h0, .inr (0, [.ref h1, .ref h2, .ref h3, .ref h4, .int 0, .int 0, .int 0, .int 0, .int 0, .int 0])), (h4, .inl (k4, 16, .inl f))]) [0, 1] rfl
      have hD9 := hD.sub (ws' := [(h0, .inr (0, [.ref h1, .ref h2, .ref h3, .ref h4, .int 0, .int 0, .int 0, .int 0, .int 0, .int 0])), (h4, .inl (k4, 16, .inl f))]) [0, 1] (by decide) rfl
      have hK9 := hK.sub (tys' := [(k4, .int)]) [0] rfl
      exact W.iret (v := 1) hx hb hr (fun t ht hW => ⟨⟨1, (), rfl, trivial, ⟨by rw [ht]; exact hP9, va_K.moved hW.alike hK9, hD9⟩⟩, hS.F ht⟩) hS.2.2 dX0_soughtLength_18
  · refine lv_iload_n hx hb dX0_soughtLength_17 rfl (lv_at hl 0 rfl) ?_
    have hP9 := hP.sub (ws' := [(h0, .inr (0, [.ref h1, .ref h2, .ref h3, .ref h4, .int 0, .int 0, .int 0, .int 0, .int 0, .int 0])), (h4, .inl (k4, 16, .inl f))]) [0, 1] rfl
    have hD9 := hD.sub (ws' := [(h0, .inr (0, [.ref h1, .ref h2, .ref h3, .ref h4, .int 0, .int 0, .int 0, .int 0, .int 0, .int 0])), (h4, .inl (k4, 16, .inl f))]) [0, 1] (by decide) rfl
    have hK9 := hK.sub (tys' := [(k4, .int)]) [0] rfl
    exact W.iret (v := 0) hx hb hr (fun t ht hW => ⟨⟨0, (), rfl, trivial, ⟨by rw [ht]; exact hP9, va_K.moved hW.alike hK9, hD9⟩⟩, hS.F ht⟩) hS.2.2 dX0_soughtLength_18
set_option maxHeartbeats 1000000 in
set_option maxRecDepth 100000 in
theorem c_X0_countNamed (l : Launch) (dC : Nat → ClassId) (dI : Nat → Nat → Nat) (h0 h1 h2 h3 h4 : Nat) (k4 : ClassId) (f : Nat → Int32) (wa wb wc wd : Int32) (sz : Nat)  : Met l yX0_countNamed wsX0_countNamed ({ frames := 1, cells := 0, slots := 0, locals := 24 }) (va_Pc [.ref h0, .int wa, .int wb, .int wc, .int wd] (kPre dC dI [(k4, .int)] [(h0, .inr (0, [.ref h1, .ref h2, .ref h3, .ref h4, .int 0, .int 0, .int 0, .int 0, .int 0, .int 0])), (h4, .inl (k4, 16, .inl f))] sz)) (va_Qi (fun (r : Int32) (_ : Unit) => r = 0) (fun (_ : Unit) (_ : State) => True) (va_A [(h0, .inr (0, [.ref h1, .ref h2, .ref h3, .ref h4, .int 0, .int 0, .int 0, .int 0, .int 0, .int 0])), (h4, .inl (k4, 16, .inl f))] sz)) 0 0 (va_A [(h0, .inr (0, [.ref h1, .ref h2, .ref h3, .ref h4, .int 0, .int 0, .int 0, .int 0, .int 0, .int 0])), (h4, .inl (k4, 16, .inl f))] sz) := by
  refine Met.ofW (cc := cX0_countNamed) (maxL := 8) (ret := (some .int)) (by decide) rfl ?_
  intro p e s m args below meth c s₁ B hml hv
  obtain ⟨rfl, hsz, hP, hK, hD0, hN⟩ := hv
  have hx := B.exec
  have hb := B.bytes
  have hr := B.returns
  have hts := atoms_spec (ws := wsX0_countNamed) B.pre
  have hown : s.vm.findClass RX0 = some m.cls := findClass_of_methodNamed B.named
  have hlocks := B.notSynchronized
  subst hsz
  have hD := hD0.self (sz := s.heap.size)
  generalize hAe : va_A [(h0, .inr (0, [.ref h1, .ref h2, .ref h3, .ref h4, .int 0, .int 0, .int 0, .int 0, .int 0, .int 0])), (h4, .inl (k4, 16, .inl f))] s.heap.size = A at hD ⊢
  have hA : ∀ q : Nat, s.heap.size ≤ q → A q := fun q h => by rw [← hAe]; exact Or.inr h
  have hS : va_S A s.heap s.heap [] := va_S.rf
  have hP : va_P (dC, dI) vwCl [(h0, .inr (0, [.ref h1, .ref h2, .ref h3, .ref h4, .int 0, .int 0, .int 0, .int 0, .int 0, .int 0])), (h4, .inl (k4, 16, .inl f))] s.heap := hP
  have hinX0 : ∀ w ∈ wsX00, w ∈ wsX0_countNamed := fun _ h => List.mem_cons_of_mem _ (List.mem_append_right _ h)
  have hl := lv_entry ([.ref h0, .int wa, .int wb, .int wc, .int wd]) (n := 8) (Nat.le_of_ble_eq_true rfl)
  rw [lg_entry_eq]
  generalize (lg_sl ([.ref h0, .int wa, .int wb, .int wc, .int wd]) ++ List.replicate (8 - (lg_sl ([.ref h0, .int wa, .int wb, .int wc, .int wd])).length) Slot.unset).toArray = ls at hl ⊢
  have hl : lv_has ls 8 [(0, .ref h0), (1, .int wa), (2, .int wb), (3, .int wc), (4, .int wd)] := hl
  refine lv_aload_n hx hb dX0_countNamed_0 rfl (lv_at hl 0 rfl) ?_
  refine lv_iconst (v := 0) hx hb dX0_countNamed_1 (by decide) ?_
  refine lv_iload_n hx hb dX0_countNamed_2 rfl (lv_at hl 1 rfl) ?_
  have hPc := hP.sub (ws' := [(h0, .inr (0, [.ref h1, .ref h2, .ref h3, .ref h4, .int 0, .int 0, .int 0, .int 0, .int 0, .int 0])), (h4, .inl (k4, 16, .inl f))]) [0, 1] rfl
  have hDc := hD.sub (ws' := [(h0, .inr (0, [.ref h1, .ref h2, .ref h3, .ref h4, .int 0, .int 0, .int 0, .int 0, .int 0, .int 0])), (h4, .inl (k4, 16, .inl f))]) [0, 1] (by decide) rfl
  have hKc := hK.sub (tys' := [(k4, .int)]) [0] rfl
  have hFc := va_free (wc := [(h0, .inr (0, [.ref h1, .ref h2, .ref h3, .ref h4, .int 0, .int 0, .int 0, .int 0, .int 0, .int 0])), (h4, .inl (k4, 16, .inl f))]) hD hS hA [0, 1] rfl
  refine va_callv (va_runV (As := [.int 0, .int wa]) (rest := []) ⟨hx, hb, hml, hown, hts⟩ (c_X0_seek_0 l dC dI h0 h1 h2 h3 h4 k4 f wa _ ) (cwV 2 hts gX0_countNamed_X0_seek rfl rfl rfl (by decide +kernel) ⟨Nat.le_of_ble_eq_true rfl, Nat.le_of_ble_eq_true rfl⟩) (kPreV hPc hKc hDc hN (va_recv hKc hPc (ci := 0) (q0 := 0) rfl rfl)) rfl rfl hl.1 rfl (lv_room (Nat.le_of_ble_eq_true rfl)) dX0_countNamed_3 ⟨(by decide +kernel), (by decide +kernel)⟩) hS (fun q _ h => hFc q h) hFc (fun u t H1 locs ht hvm hw hB hz1 hk1 hS => ?_)
  obtain ⟨f2_2, hB⟩ := hB
  obtain ⟨hP, hD, hK⟩ := kJoin (wc := [(h0, .inr (0, [.ref h1, .ref h2, .ref h3, .ref h4, .int 0, .int 0, .int 0, .int 0, .int 0, .int 0])), (h4, .inl (k4, 16, .inl f))]) (wr := []) (w1 := [(h0, .inr (0, [.ref h1, .ref h2, .ref h3, .ref h4, .int 0, .int 0, .int 0, .int 0, .int 0, .int 0])), (h4, .inl (k4, 16, .inl f2_2))]) hP hD hK [0, 1] [] rfl rfl (by decide) (by decide) hk1 hFc ht hvm hB
  have hK : va_K (dC, dI) vwCl [(k4, .int), (k4, .int)] s := hK
  have hK := hK.sub (tys' := [(k4, .int)]) [1] rfl
  generalize H1 = H at hP hS ⊢
  have hP : va_P (dC, dI) vwCl [(h0, .inr (0, [.ref h1, .ref h2, .ref h3, .ref h4, .int 0, .int 0, .int 0, .int 0, .int 0, .int 0])), (h4, .inl (k4, 16, .inl f2_2))] H := hP
  have hD : va_D A [(h0, .inr (0, [.ref h1, .ref h2, .ref h3, .ref h4, .int 0, .int 0, .int 0, .int 0, .int 0, .int 0])), (h4, .inl (k4, 16, .inl f2_2))] := hD
  try dsimp only at hw
  refine lv_aload_n hx hb dX0_countNamed_6 rfl (lv_at hl 0 rfl) ?_
  refine lv_iconst (v := 4) hx hb dX0_countNamed_7 (by decide) ?_
  refine lv_iload_n hx hb dX0_countNamed_8 rfl (lv_at hl 2 rfl) ?_
  have hPc := hP.sub (ws' := [(h0, .inr (0, [.ref h1, .ref h2, .ref h3, .ref h4, .int 0, .int 0, .int 0, .int 0, .int 0, .int 0])), (h4, .inl (k4, 16, .inl f2_2))]) [0, 1] rfl
  have hDc := hD.sub (ws' := [(h0, .inr (0, [.ref h1, .ref h2, .ref h3, .ref h4, .int 0, .int 0, .int 0, .int 0, .int 0, .int 0])), (h4, .inl (k4, 16, .inl f2_2))]) [0, 1] (by decide) rfl
  have hKc := hK.sub (tys' := [(k4, .int)]) [0] rfl
  have hFc := va_free (wc := [(h0, .inr (0, [.ref h1, .ref h2, .ref h3, .ref h4, .int 0, .int 0, .int 0, .int 0, .int 0, .int 0])), (h4, .inl (k4, 16, .inl f2_2))]) hD hS hA [0, 1] rfl
  refine va_callv (va_runV (As := [.int 4, .int wb]) (rest := []) ⟨hx, hb, hml, hown, hts⟩ (c_X0_seek_4 l dC dI h0 h1 h2 h3 h4 k4 f2_2 wb _ ) (cwV 2 hts gX0_countNamed_X0_seek rfl rfl rfl (by decide +kernel) ⟨Nat.le_of_ble_eq_true rfl, Nat.le_of_ble_eq_true rfl⟩) (kPreV hPc hKc hDc hN (va_recv hKc hPc (ci := 0) (q0 := 0) rfl rfl)) rfl rfl hl.1 rfl (lv_room (Nat.le_of_ble_eq_true rfl)) dX0_countNamed_9 ⟨(by decide +kernel), (by decide +kernel)⟩) hS (fun q _ h => hFc q h) hFc (fun u t H1 locs ht hvm hw hB hz1 hk1 hS => ?_)
  obtain ⟨f2_4, hB⟩ := hB
  obtain ⟨hP, hD, hK⟩ := kJoin (wc := [(h0, .inr (0, [.ref h1, .ref h2, .ref h3, .ref h4, .int 0, .int 0, .int 0, .int 0, .int 0, .int 0])), (h4, .inl (k4, 16, .inl f2_2))]) (wr := []) (w1 := [(h0, .inr (0, [.ref h1, .ref h2, .ref h3, .ref h4, .int 0, .int 0, .int 0, .int 0, .int 0, .int 0])), (h4, .inl (k4, 16, .inl f2_4))]) hP hD hK [0, 1] [] rfl rfl (by decide) (by decide) hk1 hFc ht hvm hB
  have hK : va_K (dC, dI) vwCl [(k4, .int), (k4, .int)] s := hK
  have hK := hK.sub (tys' := [(k4, .int)]) [1] rfl
  generalize H1 = H at hP hS ⊢
  have hP : va_P (dC, dI) vwCl [(h0, .inr (0, [.ref h1, .ref h2, .ref h3, .ref h4, .int 0, .int 0, .int 0, .int 0, .int 0, .int 0])), (h4, .inl (k4, 16, .inl f2_4))] H := hP
  have hD : va_D A [(h0, .inr (0, [.ref h1, .ref h2, .ref h3, .ref h4, .int 0, .int 0, .int 0, .int 0, .int 0, .int 0])), (h4, .inl (k4, 16, .inl f2_4))] := hD
  try dsimp only at hw
  refine lv_aload_n hx hb dX0_countNamed_12 rfl (lv_at hl 0 rfl) ?_
  refine lv_bipush (v := 8) hx hb dX0_countNamed_13 (by decide) ?_
  refine lv_iload_n hx hb dX0_countNamed_15 rfl (lv_at hl 3 rfl) ?_
  have hPc := hP.sub (ws' := [(h0, .inr (0, [.ref h1, .ref h2, .ref h3, .ref h4, .int 0, .int 0, .int 0, .int 0, .int 0, .int 0])), (h4, .inl (k4, 16, .inl f2_4))]) [0, 1] rfl
  have hDc := hD.sub (ws' := [(h0, .inr (0, [.ref h1, .ref h2, .ref h3, .ref h4, .int 0, .int 0, .int 0, .int 0, .int 0, .int 0])), (h4, .inl (k4, 16, .inl f2_4))]) [0, 1] (by decide) rfl
  have hKc := hK.sub (tys' := [(k4, .int)]) [0] rfl
  have hFc := va_free (wc := [(h0, .inr (0, [.ref h1, .ref h2, .ref h3, .ref h4, .int 0, .int 0, .int 0, .int 0, .int 0, .int 0])), (h4, .inl (k4, 16, .inl f2_4))]) hD hS hA [0, 1] rfl
  refine va_callv (va_runV (As := [.int 8, .int wc]) (rest := []) ⟨hx, hb, hml, hown, hts⟩ (c_X0_seek_8 l dC dI h0 h1 h2 h3 h4 k4 f2_4 wc _ ) (cwV 2 hts gX0_countNamed_X0_seek rfl rfl rfl (by decide +kernel) ⟨Nat.le_of_ble_eq_true rfl, Nat.le_of_ble_eq_true rfl⟩) (kPreV hPc hKc hDc hN (va_recv hKc hPc (ci := 0) (q0 := 0) rfl rfl)) rfl rfl hl.1 rfl (lv_room (Nat.le_of_ble_eq_true rfl)) dX0_countNamed_16 ⟨(by decide +kernel), (by decide +kernel)⟩) hS (fun q _ h => hFc q h) hFc (fun u t H1 locs ht hvm hw hB hz1 hk1 hS => ?_)
  obtain ⟨f2_6, hB⟩ := hB
  obtain ⟨hP, hD, hK⟩ := kJoin (wc := [(h0, .inr (0, [.ref h1, .ref h2, .ref h3, .ref h4, .int 0, .int 0, .int 0, .int 0, .int 0, .int 0])), (h4, .inl (k4, 16, .inl f2_4))]) (wr := []) (w1 := [(h0, .inr (0, [.ref h1, .ref h2, .ref h3, .ref h4, .int 0, .int 0, .int 0, .int 0, .int 0, .int 0])), (h4, .inl (k4, 16, .inl f2_6))]) hP hD hK [0, 1] [] rfl rfl (by decide) (by decide) hk1 hFc ht hvm hB
  have hK : va_K (dC, dI) vwCl [(k4, .int), (k4, .int)] s := hK
  have hK := hK.sub (tys' := [(k4, .int)]) [1] rfl
  generalize H1 = H at hP hS ⊢
  have hP : va_P (dC, dI) vwCl [(h0, .inr (0, [.ref h1, .ref h2, .ref h3, .ref h4, .int 0, .int 0, .int 0, .int 0, .int 0, .int 0])), (h4, .inl (k4, 16, .inl f2_6))] H := hP
  have hD : va_D A [(h0, .inr (0, [.ref h1, .ref h2, .ref h3, .ref h4, .int 0, .int 0, .int 0, .int 0, .int 0, .int 0])), (h4, .inl (k4, 16, .inl f2_6))] := hD
  try dsimp only at hw
  refine lv_aload_n hx hb dX0_countNamed_19 rfl (lv_at hl 0 rfl) ?_
  refine lv_bipush (v := 12) hx hb dX0_countNamed_20 (by decide) ?_
  refine lv_iload hx hb dX0_countNamed_22 (lv_at hl 4 rfl) ?_
  have hPc := hP.sub (ws' := [(h0, .inr (0, [.ref h1, .ref h2, .ref h3, .ref h4, .int 0, .int 0, .int 0, .int 0, .int 0, .int 0])), (h4, .inl (k4, 16, .inl f2_6))]) [0, 1] rfl
  have hDc := hD.sub (ws' := [(h0, .inr (0, [.ref h1, .ref h2, .ref h3, .ref h4, .int 0, .int 0, .int 0, .int 0, .int 0, .int 0])), (h4, .inl (k4, 16, .inl f2_6))]) [0, 1] (by decide) rfl
  have hKc := hK.sub (tys' := [(k4, .int)]) [0] rfl
  have hFc := va_free (wc := [(h0, .inr (0, [.ref h1, .ref h2, .ref h3, .ref h4, .int 0, .int 0, .int 0, .int 0, .int 0, .int 0])), (h4, .inl (k4, 16, .inl f2_6))]) hD hS hA [0, 1] rfl
  refine va_callv (va_runV (As := [.int 12, .int wd]) (rest := []) ⟨hx, hb, hml, hown, hts⟩ (c_X0_seek_12 l dC dI h0 h1 h2 h3 h4 k4 f2_6 wd _ ) (cwV 2 hts gX0_countNamed_X0_seek rfl rfl rfl (by decide +kernel) ⟨Nat.le_of_ble_eq_true rfl, Nat.le_of_ble_eq_true rfl⟩) (kPreV hPc hKc hDc hN (va_recv hKc hPc (ci := 0) (q0 := 0) rfl rfl)) rfl rfl hl.1 rfl (lv_room (Nat.le_of_ble_eq_true rfl)) dX0_countNamed_24 ⟨(by decide +kernel), (by decide +kernel)⟩) hS (fun q _ h => hFc q h) hFc (fun u t H1 locs ht hvm hw hB hz1 hk1 hS => ?_)
  obtain ⟨f2_8, hB⟩ := hB
  obtain ⟨hP, hD, hK⟩ := kJoin (wc := [(h0, .inr (0, [.ref h1, .ref h2, .ref h3, .ref h4, .int 0, .int 0, .int 0, .int 0, .int 0, .int 0])), (h4, .inl (k4, 16, .inl f2_6))]) (wr := []) (w1 := [(h0, .inr (0, [.ref h1, .ref h2, .ref h3, .ref h4, .int 0, .int 0, .int 0, .int 0, .int 0, .int 0])), (h4, .inl (k4, 16, .inl f2_8))]) hP hD hK [0, 1] [] rfl rfl (by decide) (by decide) hk1 hFc ht hvm hB
  have hK : va_K (dC, dI) vwCl [(k4, .int), (k4, .int)] s := hK
  have hK := hK.sub (tys' := [(k4, .int)]) [1] rfl
  generalize H1 = H at hP hS ⊢
  have hP : va_P (dC, dI) vwCl [(h0, .inr (0, [.ref h1, .ref h2, .ref h3, .ref h4, .int 0, .int 0, .int 0, .int 0, .int 0, .int 0])), (h4, .inl (k4, 16, .inl f2_8))] H := hP
  have hD : va_D A [(h0, .inr (0, [.ref h1, .ref h2, .ref h3, .ref h4, .int 0, .int 0, .int 0, .int 0, .int 0, .int 0])), (h4, .inl (k4, 16, .inl f2_8))] := hD
  try dsimp only at hw
  refine lv_aload_n hx hb dX0_countNamed_27 rfl (lv_at hl 0 rfl) ?_
  have hPc := hP.sub (ws' := [(h0, .inr (0, [.ref h1, .ref h2, .ref h3, .ref h4, .int 0, .int 0, .int 0, .int 0, .int 0, .int 0])), (h4, .inl (k4, 16, .inl f2_8))]) [0, 1] rfl
  have hDc := hD.sub (ws' := [(h0, .inr (0, [.ref h1, .ref h2, .ref h3, .ref h4, .int 0, .int 0, .int 0, .int 0, .int 0, .int 0])), (h4, .inl (k4, 16, .inl f2_8))]) [0, 1] (by decide) rfl
  have hKc := hK.sub (tys' := [(k4, .int)]) [0] rfl
  have hFc := va_free (wc := [(h0, .inr (0, [.ref h1, .ref h2, .ref h3, .ref h4, .int 0, .int 0, .int 0, .int 0, .int 0, .int 0])), (h4, .inl (k4, 16, .inl f2_8))]) hD hS hA [0, 1] rfl
  refine va_calli (va_runV (As := []) (rest := []) ⟨hx, hb, hml, hown, hts⟩ (c_X0_soughtLength l dC dI h0 h1 h2 h3 h4 k4 f2_8 _ ) (cwV 0 hts gX0_countNamed_X0_soughtLength rfl rfl rfl (by decide +kernel) ⟨Nat.le_of_ble_eq_true rfl, Nat.le_of_ble_eq_true rfl⟩) (kPreV hPc hKc hDc hN (va_recv hKc hPc (ci := 0) (q0 := 0) rfl rfl)) rfl rfl hl.1 rfl (lv_room (Nat.le_of_ble_eq_true rfl)) dX0_countNamed_28 ⟨(by decide +kernel), (by decide +kernel)⟩) hS (fun q _ h => hFc q h) hFc (fun r_9 u t H1 locs ht hvm hw hB hz1 hk1 hS => ?_)
  obtain ⟨hP, hD, hK⟩ := kJoin (wc := [(h0, .inr (0, [.ref h1, .ref h2, .ref h3, .ref h4, .int 0, .int 0, .int 0, .int 0, .int 0, .int 0])), (h4, .inl (k4, 16, .inl f2_8))]) (wr := []) (w1 := [(h0, .inr (0, [.ref h1, .ref h2, .ref h3, .ref h4, .int 0, .int 0, .int 0, .int 0, .int 0, .int 0])), (h4, .inl (k4, 16, .inl f2_8))]) hP hD hK [0, 1] [] rfl rfl (by decide) (by decide) hk1 hFc ht hvm hB
  have hK : va_K (dC, dI) vwCl [(k4, .int), (k4, .int)] s := hK
  have hK := hK.sub (tys' := [(k4, .int)]) [1] rfl
  generalize H1 = H at hP hS ⊢
  have hP : va_P (dC, dI) vwCl [(h0, .inr (0, [.ref h1, .ref h2, .ref h3, .ref h4, .int 0, .int 0, .int 0, .int 0, .int 0, .int 0])), (h4, .inl (k4, 16, .inl f2_8))] H := hP
  have hD : va_D A [(h0, .inr (0, [.ref h1, .ref h2, .ref h3, .ref h4, .int 0, .int 0, .int 0, .int 0, .int 0, .int 0])), (h4, .inl (k4, 16, .inl f2_8))] := hD
  try dsimp only at hw
  refine lv_istore (lv' := [(5, .int r_9), (0, .ref h0), (1, .int wa), (2, .int wb), (3, .int wc), (4, .int wd)]) hx hb dX0_countNamed_31 hl (by decide) rfl (fun ls hl => ?_)
  refine lv_iload hx hb dX0_countNamed_33 (lv_at hl 0 rfl) ?_
  refine lv_if_ne (tgt := 40) hx hb dX0_countNamed_35 (by decide) (fun c_10 => ?_) (fun c_10 => ?_)
  · refine lv_iconst (v := 0) hx hb dX0_countNamed_40 (by decide) ?_
    refine lv_istore (lv' := [(6, .int 0), (5, .int r_9), (0, .ref h0), (1, .int wa), (2, .int wb), (3, .int wc), (4, .int wd)]) hx hb dX0_countNamed_41 hl (by decide) rfl (fun ls hl => ?_)
    refine lv_iconst (v := 0) hx hb dX0_countNamed_43 (by decide) ?_
    refine lv_istore (lv' := [(7, .int 0), (6, .int 0), (5, .int r_9), (0, .ref h0), (1, .int wa), (2, .int wb), (3, .int wc), (4, .int wd)]) hx hb dX0_countNamed_44 hl (by decide) rfl (fun ls hl => ?_)
    refine lv_iload hx hb dX0_countNamed_46 (lv_at hl 0 rfl) ?_
    refine lv_aload_n hx hb dX0_countNamed_48 rfl (lv_at hl 3 rfl) ?_
    refine va_get (D := (dC, dI)) (ci := 0) (v := .int 0) (C := RX0) (T := TX0) (N := 10) hx hb hts hinX0 hown hK hP 0 rfl rfl 5 (by decide) (hts (.fieldLink RX0 33 "CensusDesk$Book" "persons" "I") (List.mem_of_getElem? (i := 1) rfl)) (fun _ h9 => h9) rfl dX0_countNamed_49 ?_
    refine lv_icmp_ge (tgt := 87) hx hb dX0_countNamed_52 (by decide) (fun c_11 => ?_) (fun c_11 => absurd c_11 (by decide))
    refine lv_iload hx hb dX0_countNamed_87 (lv_at hl 1 rfl) ?_
    exact W.iret (v := 0) hx hb hr (fun t ht hW => ⟨⟨0, (), rfl, rfl, trivial⟩, hS.F ht⟩) hS.2.2 dX0_countNamed_89
  · refine lv_iconst (v := 0) hx hb dX0_countNamed_38 (by decide) ?_
    exact W.iret (v := 0) hx hb hr (fun t ht hW => ⟨⟨0, (), rfl, rfl, trivial⟩, hS.F ht⟩) hS.2.2 dX0_countNamed_39
set_option maxHeartbeats 1000000 in
set_option maxRecDepth 100000 in
theorem c_X0_disagreements (l : Launch) (dC : Nat → ClassId) (dI : Nat → Nat → Nat) (h0 h1 h2 h3 h4 : Nat) (sz : Nat)  : Met l yX0_disagreements wsX0_disagreements ({ frames := 0, cells := 0, slots := 0, locals := 0 }) (va_Pc [.ref h0] (kPre dC dI [] [(h0, .inr (0, [.ref h1, .ref h2, .ref h3, .ref h4, .int 0, .int 0, .int 0, .int 0, .int 0, .int 0]))] sz)) (va_Qi (fun (r : Int32) (_ : Unit) => r = 0) (fun (_ : Unit) (_ : State) => True) (va_A [(h0, .inr (0, [.ref h1, .ref h2, .ref h3, .ref h4, .int 0, .int 0, .int 0, .int 0, .int 0, .int 0]))] sz)) 0 0 (va_A [(h0, .inr (0, [.ref h1, .ref h2, .ref h3, .ref h4, .int 0, .int 0, .int 0, .int 0, .int 0, .int 0]))] sz) := by
  refine Met.ofW (cc := cX0_disagreements) (maxL := 5) (ret := (some .int)) (by decide) rfl ?_
  intro p e s m args below meth c s₁ B hml hv
  obtain ⟨rfl, hsz, hP, hK, hD0, hN⟩ := hv
  have hx := B.exec
  have hb := B.bytes
  have hr := B.returns
  have hts := atoms_spec (ws := wsX0_disagreements) B.pre
  have hown : s.vm.findClass RX0 = some m.cls := findClass_of_methodNamed B.named
  have hlocks := B.notSynchronized
  subst hsz
  have hD := hD0.self (sz := s.heap.size)
  generalize hAe : va_A [(h0, .inr (0, [.ref h1, .ref h2, .ref h3, .ref h4, .int 0, .int 0, .int 0, .int 0, .int 0, .int 0]))] s.heap.size = A at hD ⊢
  have hA : ∀ q : Nat, s.heap.size ≤ q → A q := fun q h => by rw [← hAe]; exact Or.inr h
  have hS : va_S A s.heap s.heap [] := va_S.rf
  have hP : va_P (dC, dI) vwCl [(h0, .inr (0, [.ref h1, .ref h2, .ref h3, .ref h4, .int 0, .int 0, .int 0, .int 0, .int 0, .int 0]))] s.heap := hP
  have hinX0 : ∀ w ∈ wsX00, w ∈ wsX0_disagreements := fun _ h => List.mem_cons_of_mem _ (List.mem_append_right _ h)
  have hl := lv_entry ([.ref h0]) (n := 5) (Nat.le_of_ble_eq_true rfl)
  rw [lg_entry_eq]
  generalize (lg_sl ([.ref h0]) ++ List.replicate (5 - (lg_sl ([.ref h0])).length) Slot.unset).toArray = ls at hl ⊢
  have hl : lv_has ls 5 [(0, .ref h0)] := hl
  refine lv_iconst (v := 0) hx hb dX0_disagreements_0 (by decide) ?_
  refine lv_istore_n (lv' := [(1, .int 0), (0, .ref h0)]) hx hb dX0_disagreements_1 rfl hl (by decide) rfl (fun ls hl => ?_)
  refine lv_iconst (v := 0) hx hb dX0_disagreements_2 (by decide) ?_
  refine lv_istore_n (lv' := [(2, .int 0), (1, .int 0), (0, .ref h0)]) hx hb dX0_disagreements_3 rfl hl (by decide) rfl (fun ls hl => ?_)
  refine lv_iload_n hx hb dX0_disagreements_4 rfl (lv_at hl 0 rfl) ?_
  refine lv_aload_n hx hb dX0_disagreements_5 rfl (lv_at hl 2 rfl) ?_
  refine va_get (D := (dC, dI)) (ci := 0) (v := .int 0) (C := RX0) (T := TX0) (N := 10) hx hb hts hinX0 hown hK hP 0 rfl rfl 4 (by decide) (hts (.fieldLink RX0 29 "CensusDesk$Book" "households" "I") (List.mem_of_getElem? (i := 1) rfl)) (fun _ h9 => h9) rfl dX0_disagreements_6 ?_
  refine lv_icmp_ge (tgt := 27) hx hb dX0_disagreements_9 (by decide) (fun c_1 => ?_) (fun c_1 => absurd c_1 (by decide))
  refine lv_iconst (v := 0) hx hb dX0_disagreements_27 (by decide) ?_
  refine lv_istore_n (lv' := [(2, .int 0), (1, .int 0), (0, .ref h0)]) hx hb dX0_disagreements_28 rfl hl (by decide) rfl (fun ls hl => ?_)
  refine lv_iconst (v := 0) hx hb dX0_disagreements_29 (by decide) ?_
  refine lv_istore_n (lv' := [(3, .int 0), (2, .int 0), (1, .int 0), (0, .ref h0)]) hx hb dX0_disagreements_30 rfl hl (by decide) rfl (fun ls hl => ?_)
  refine lv_iconst (v := 0) hx hb dX0_disagreements_31 (by decide) ?_
  refine lv_istore (lv' := [(4, .int 0), (3, .int 0), (2, .int 0), (1, .int 0), (0, .ref h0)]) hx hb dX0_disagreements_32 hl (by decide) rfl (fun ls hl => ?_)
  refine lv_iload hx hb dX0_disagreements_34 (lv_at hl 0 rfl) ?_
  refine lv_aload_n hx hb dX0_disagreements_36 rfl (lv_at hl 4 rfl) ?_
  refine va_get (D := (dC, dI)) (ci := 0) (v := .int 0) (C := RX0) (T := TX0) (N := 10) hx hb hts hinX0 hown hK hP 0 rfl rfl 5 (by decide) (hts (.fieldLink RX0 33 "CensusDesk$Book" "persons" "I") (List.mem_of_getElem? (i := 2) rfl)) (fun _ h9 => h9) rfl dX0_disagreements_37 ?_
  refine lv_icmp_ge (tgt := 84) hx hb dX0_disagreements_40 (by decide) (fun c_2 => ?_) (fun c_2 => absurd c_2 (by decide))
  refine lv_iconst (v := 0) hx hb dX0_disagreements_84 (by decide) ?_
  refine lv_istore (lv' := [(4, .int 0), (3, .int 0), (2, .int 0), (1, .int 0), (0, .ref h0)]) hx hb dX0_disagreements_85 hl (by decide) rfl (fun ls hl => ?_)
  refine lv_iload_n hx hb dX0_disagreements_87 rfl (lv_at hl 3 rfl) ?_
  refine lv_aload_n hx hb dX0_disagreements_88 rfl (lv_at hl 4 rfl) ?_
  refine va_get (D := (dC, dI)) (ci := 0) (v := .int 0) (C := RX0) (T := TX0) (N := 10) hx hb hts hinX0 hown hK hP 0 rfl rfl 5 (by decide) (hts (.fieldLink RX0 33 "CensusDesk$Book" "persons" "I") (List.mem_of_getElem? (i := 2) rfl)) (fun _ h9 => h9) rfl dX0_disagreements_89 ?_
  refine lv_icmp_eq (tgt := 98) hx hb dX0_disagreements_92 (by decide) (fun c_3 => ?_) (fun c_3 => absurd c_3 (by decide))
  refine lv_aload_n hx hb dX0_disagreements_98 rfl (lv_at hl 4 rfl) ?_
  refine va_get (D := (dC, dI)) (ci := 0) (v := .int 0) (C := RX0) (T := TX0) (N := 10) hx hb hts hinX0 hown hK hP 0 rfl rfl 6 (by decide) (hts (.fieldLink RX0 69 "CensusDesk$Book" "men" "I") (List.mem_of_getElem? (i := 3) rfl)) (fun _ h9 => h9) rfl dX0_disagreements_99 ?_
  refine lv_aload_n hx hb dX0_disagreements_102 rfl (lv_at hl 4 rfl) ?_
  refine va_get (D := (dC, dI)) (ci := 0) (v := .int 0) (C := RX0) (T := TX0) (N := 10) hx hb hts hinX0 hown hK hP 0 rfl rfl 7 (by decide) (hts (.fieldLink RX0 72 "CensusDesk$Book" "women" "I") (List.mem_of_getElem? (i := 4) rfl)) (fun _ h9 => h9) rfl dX0_disagreements_103 ?_
  refine lv_iadd hx hb dX0_disagreements_106 ?_
  refine k_top (v := 0) (by decide) ?_
  refine lv_iload_n hx hb dX0_disagreements_107 rfl (lv_at hl 2 rfl) ?_
  refine lv_iadd hx hb dX0_disagreements_108 ?_
  refine k_top (v := 0) (by decide) ?_
  refine lv_aload_n hx hb dX0_disagreements_109 rfl (lv_at hl 4 rfl) ?_
  refine va_get (D := (dC, dI)) (ci := 0) (v := .int 0) (C := RX0) (T := TX0) (N := 10) hx hb hts hinX0 hown hK hP 0 rfl rfl 5 (by decide) (hts (.fieldLink RX0 33 "CensusDesk$Book" "persons" "I") (List.mem_of_getElem? (i := 2) rfl)) (fun _ h9 => h9) rfl dX0_disagreements_110 ?_
  refine lv_icmp_eq (tgt := 119) hx hb dX0_disagreements_113 (by decide) (fun c_4 => ?_) (fun c_4 => absurd c_4 (by decide))
  refine lv_iload_n hx hb dX0_disagreements_119 rfl (lv_at hl 1 rfl) ?_
  refine lv_aload_n hx hb dX0_disagreements_120 rfl (lv_at hl 4 rfl) ?_
  refine va_get (D := (dC, dI)) (ci := 0) (v := .int 0) (C := RX0) (T := TX0) (N := 10) hx hb hts hinX0 hown hK hP 0 rfl rfl 8 (by decide) (hts (.fieldLink RX0 78 "CensusDesk$Book" "ageSum" "I") (List.mem_of_getElem? (i := 5) rfl)) (fun _ h9 => h9) rfl dX0_disagreements_121 ?_
  refine lv_icmp_eq (tgt := 130) hx hb dX0_disagreements_124 (by decide) (fun c_5 => ?_) (fun c_5 => absurd c_5 (by decide))
  refine lv_iload hx hb dX0_disagreements_130 (lv_at hl 0 rfl) ?_
  exact W.iret (v := 0) hx hb hr (fun t ht hW => ⟨⟨0, (), rfl, rfl, trivial⟩, hS.F ht⟩) hS.2.2 dX0_disagreements_132
set_option maxHeartbeats 1000000 in
set_option maxRecDepth 100000 in
theorem c_X0_enter (l : Launch) (dC : Nat → ClassId) (dI : Nat → Nat → Nat) (h0 h1 h2 h3 h4 : Nat) (sh : Int32) (sz : Nat)  : Met l yX0_enter wsX0_enter ({ frames := 0, cells := 0, slots := 0, locals := 0 }) (va_Pc [.ref h0, .int 0, .int 0, .int sh] (kPre dC dI [] [(h0, .inr (0, [.ref h1, .ref h2, .ref h3, .ref h4, .int 0, .int 0, .int 0, .int 0, .int 0, .int 0]))] sz)) (va_Qi (fun (r : Int32) (_ : Unit) => r = 1) (fun (_ : Unit) (_ : State) => True) (va_A [(h0, .inr (0, [.ref h1, .ref h2, .ref h3, .ref h4, .int 0, .int 0, .int 0, .int 0, .int 0, .int 0]))] sz)) 0 0 (va_A [(h0, .inr (0, [.ref h1, .ref h2, .ref h3, .ref h4, .int 0, .int 0, .int 0, .int 0, .int 0, .int 0]))] sz) := by
  refine Met.ofW (cc := cX0_enter) (maxL := 5) (ret := (some .boolean)) (by decide) rfl ?_
  intro p e s m args below meth c s₁ B hml hv
  obtain ⟨rfl, hsz, hP, hK, hD0, hN⟩ := hv
  have hx := B.exec
  have hb := B.bytes
  have hr := B.returns
  have hts := atoms_spec (ws := wsX0_enter) B.pre
  have hown : s.vm.findClass RX0 = some m.cls := findClass_of_methodNamed B.named
  have hlocks := B.notSynchronized
  subst hsz
  have hD := hD0.self (sz := s.heap.size)
  generalize hAe : va_A [(h0, .inr (0, [.ref h1, .ref h2, .ref h3, .ref h4, .int 0, .int 0, .int 0, .int 0, .int 0, .int 0]))] s.heap.size = A at hD ⊢
  have hA : ∀ q : Nat, s.heap.size ≤ q → A q := fun q h => by rw [← hAe]; exact Or.inr h
  have hS : va_S A s.heap s.heap [] := va_S.rf
  have hP : va_P (dC, dI) vwCl [(h0, .inr (0, [.ref h1, .ref h2, .ref h3, .ref h4, .int 0, .int 0, .int 0, .int 0, .int 0, .int 0]))] s.heap := hP
  have hinX0 : ∀ w ∈ wsX00, w ∈ wsX0_enter := fun _ h => List.mem_cons_of_mem _ (List.mem_append_right _ h)
  have hl := lv_entry ([.ref h0, .int 0, .int 0, .int sh]) (n := 5) (Nat.le_of_ble_eq_true rfl)
  rw [lg_entry_eq]
  generalize (lg_sl ([.ref h0, .int 0, .int 0, .int sh]) ++ List.replicate (5 - (lg_sl ([.ref h0, .int 0, .int 0, .int sh])).length) Slot.unset).toArray = ls at hl ⊢
  have hl : lv_has ls 5 [(0, .ref h0), (1, .int 0), (2, .int 0), (3, .int sh)] := hl
  refine lv_iload_n hx hb dX0_enter_0 rfl (lv_at hl 1 rfl) ?_
  refine lv_bipush (v := 60) hx hb dX0_enter_1 (by decide) ?_
  refine lv_aload_n hx hb dX0_enter_3 rfl (lv_at hl 0 rfl) ?_
  refine va_get (D := (dC, dI)) (ci := 0) (v := .int 0) (C := RX0) (T := TX0) (N := 10) hx hb hts hinX0 hown hK hP 0 rfl rfl 4 (by decide) (hts (.fieldLink RX0 29 "CensusDesk$Book" "households" "I") (List.mem_of_getElem? (i := 1) rfl)) (fun _ h9 => h9) rfl dX0_enter_4 ?_
  refine lv_isub hx hb dX0_enter_7 ?_
  refine k_top (v := 60) (by decide) ?_
  refine lv_icmp_le (tgt := 13) hx hb dX0_enter_8 (by decide) (fun c_1 => ?_) (fun c_1 => absurd c_1 (by decide))
  refine lv_iload_n hx hb dX0_enter_13 rfl (lv_at hl 2 rfl) ?_
  refine lv_sipush (v := 300) hx hb dX0_enter_14 (by decide) ?_
  refine lv_aload_n hx hb dX0_enter_17 rfl (lv_at hl 0 rfl) ?_
  refine va_get (D := (dC, dI)) (ci := 0) (v := .int 0) (C := RX0) (T := TX0) (N := 10) hx hb hts hinX0 hown hK hP 0 rfl rfl 5 (by decide) (hts (.fieldLink RX0 33 "CensusDesk$Book" "persons" "I") (List.mem_of_getElem? (i := 2) rfl)) (fun _ h9 => h9) rfl dX0_enter_18 ?_
  refine lv_isub hx hb dX0_enter_21 ?_
  refine k_top (v := 300) (by decide) ?_
  refine lv_icmp_le (tgt := 27) hx hb dX0_enter_22 (by decide) (fun c_2 => ?_) (fun c_2 => absurd c_2 (by decide))
  refine lv_iconst (v := 0) hx hb dX0_enter_27 (by decide) ?_
  refine lv_istore (lv' := [(4, .int 0), (0, .ref h0), (1, .int 0), (2, .int 0), (3, .int sh)]) hx hb dX0_enter_28 hl (by decide) rfl (fun ls hl => ?_)
  refine lv_iload hx hb dX0_enter_30 (lv_at hl 0 rfl) ?_
  refine lv_iload_n hx hb dX0_enter_32 rfl (lv_at hl 2 rfl) ?_
  refine lv_icmp_ge (tgt := 73) hx hb dX0_enter_33 (by decide) (fun c_3 => ?_) (fun c_3 => absurd c_3 (by decide))
  refine lv_iconst (v := 0) hx hb dX0_enter_73 (by decide) ?_
  refine lv_istore (lv' := [(4, .int 0), (0, .ref h0), (1, .int 0), (2, .int 0), (3, .int sh)]) hx hb dX0_enter_74 hl (by decide) rfl (fun ls hl => ?_)
  refine lv_iload hx hb dX0_enter_76 (lv_at hl 0 rfl) ?_
  refine lv_iload_n hx hb dX0_enter_78 rfl (lv_at hl 3 rfl) ?_
  refine lv_icmp_ge (tgt := 134) hx hb dX0_enter_79 (by decide) (fun c_4 => ?_) (fun c_4 => absurd c_4 (by decide))
  refine lv_iconst (v := 1) hx hb dX0_enter_134 (by decide) ?_
  exact W.zret (v := 1) hx hb hr (by first | rfl | decide) (fun t ht hW => ⟨⟨1, (), rfl, rfl, trivial⟩, hS.F ht⟩) hS.2.2 dX0_enter_135
