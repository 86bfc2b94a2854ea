set_option maxHeartbeats 1000000 in
set_option maxRecDepth 100000 in
theorem c_X8_resume (l : Launch) (dC : Nat → ClassId) (dI : Nat → Nat → Nat) (d0 d1 d2 d3 d4 d5 : Nat) (sz : Nat)  : Met l yX8_resume wsX8_resume ({ frames := 0, cells := 0, slots := 0, locals := 0 }) (va_Pc [.ref d0] (kPre dC dI [] [(d0, .inr (8, [.ref d1, .ref d2, .ref d3, .ref d4, .ref d5, .int 0, .int 0, .int 0, .int 0, .int 0]))] sz)) (va_Qi (fun (r : Int32) (_ : Unit) => r = -1) (fun (_ : Unit) (_ : State) => True) (va_A [(d0, .inr (8, [.ref d1, .ref d2, .ref d3, .ref d4, .ref d5, .int 0, .int 0, .int 0, .int 0, .int 0]))] sz)) 0 0 (va_A [(d0, .inr (8, [.ref d1, .ref d2, .ref d3, .ref d4, .ref d5, .int 0, .int 0, .int 0, .int 0, .int 0]))] sz) := by
  refine Met.ofW (cc := cX8_resume) (maxL := 1) (ret := (some .int)) (by decide) rfl ?_
  intro p e s m args below meth c s₁ B hml hv
  obtain ⟨rfl, hsz, hP, hK, hD0, hN⟩ := hv
  have hx := B.exec
  have hb := B.bytes
  have hr := B.returns
  have hts := atoms_spec (ws := wsX8_resume) B.pre
  have hown : s.vm.findClass RX8 = some m.cls := findClass_of_methodNamed B.named
  have hlocks := B.notSynchronized
  subst hsz
  have hD := hD0.self (sz := s.heap.size)
  generalize hAe : va_A [(d0, .inr (8, [.ref d1, .ref d2, .ref d3, .ref d4, .ref d5, .int 0, .int 0, .int 0, .int 0, .int 0]))] s.heap.size = A at hD ⊢
  have hA : ∀ q : Nat, s.heap.size ≤ q → A q := fun q h => by rw [← hAe]; exact Or.inr h
  have hS : va_S A s.heap s.heap [] := va_S.rf
  have hP : va_P (dC, dI) vwCl [(d0, .inr (8, [.ref d1, .ref d2, .ref d3, .ref d4, .ref d5, .int 0, .int 0, .int 0, .int 0, .int 0]))] s.heap := hP
  have hinX8 : ∀ w ∈ wsX80, w ∈ wsX8_resume := fun _ h => List.mem_cons_of_mem _ (List.mem_append_left _ (List.mem_append_left _ (List.mem_append_left _ (List.mem_append_left _ (List.mem_append_left _ (List.mem_append_left _ (List.mem_append_left _ (List.mem_append_left _ (List.mem_append_right _ h)))))))))
  have hinX4 : ∀ w ∈ wsX40, w ∈ wsX8_resume := fun _ h => List.mem_cons_of_mem _ (List.mem_append_left _ (List.mem_append_left _ (List.mem_append_left _ (List.mem_append_left _ (List.mem_append_left _ (List.mem_append_left _ (List.mem_append_left _ (List.mem_append_right _ h))))))))
  have hinX2 : ∀ w ∈ wsX20, w ∈ wsX8_resume := fun _ h => List.mem_cons_of_mem _ (List.mem_append_left _ (List.mem_append_left _ (List.mem_append_left _ (List.mem_append_left _ (List.mem_append_left _ (List.mem_append_left _ (List.mem_append_right _ h)))))))
  have hinX7 : ∀ w ∈ wsX70, w ∈ wsX8_resume := fun _ h => List.mem_cons_of_mem _ (List.mem_append_left _ (List.mem_append_left _ (List.mem_append_left _ (List.mem_append_left _ (List.mem_append_left _ (List.mem_append_right _ h))))))
  have hinX5 : ∀ w ∈ wsX50, w ∈ wsX8_resume := fun _ h => List.mem_cons_of_mem _ (List.mem_append_left _ (List.mem_append_left _ (List.mem_append_left _ (List.mem_append_left _ (List.mem_append_right _ h)))))
  have hinX1 : ∀ w ∈ wsX10, w ∈ wsX8_resume := fun _ h => List.mem_cons_of_mem _ (List.mem_append_left _ (List.mem_append_left _ (List.mem_append_left _ (List.mem_append_right _ h))))
  have hinX0 : ∀ w ∈ wsX00, w ∈ wsX8_resume := fun _ h => List.mem_cons_of_mem _ (List.mem_append_left _ (List.mem_append_left _ (List.mem_append_right _ h)))
  have hinX3 : ∀ w ∈ wsX30, w ∈ wsX8_resume := fun _ h => List.mem_cons_of_mem _ (List.mem_append_left _ (List.mem_append_right _ h))
  have hinX6 : ∀ w ∈ wsX60, w ∈ wsX8_resume := fun _ h => List.mem_cons_of_mem _ (List.mem_append_right _ h)
  have hl := lv_entry ([.ref d0]) (n := 1) (Nat.le_of_ble_eq_true rfl)
  rw [lg_entry_eq]
  generalize (lg_sl ([.ref d0]) ++ List.replicate (1 - (lg_sl ([.ref d0])).length) Slot.unset).toArray = ls at hl ⊢
  have hl : lv_has ls 1 [(0, .ref d0)] := hl
  refine lv_aload_n hx hb dX8_resume_0 rfl (lv_at hl 0 rfl) ?_
  refine va_get (D := (dC, dI)) (ci := 8) (v := .int 0) (C := RX8) (T := TX8) (N := 10) hx hb hts hinX8 hown hK hP 0 rfl rfl 5 (by decide) (hts (.fieldLink RX8 50 "CensusDesk" "held" "Z") (List.mem_of_getElem? (i := 1) rfl)) (fun _ h9 => h9) rfl dX8_resume_1 ?_
  refine lv_if_ne (tgt := 9) hx hb dX8_resume_4 (by decide) (fun c_1 => absurd c_1 (by decide)) (fun c_1 => ?_)
  refine lv_iconst (v := (-1)) hx hb dX8_resume_7 (by decide) ?_
  exact W.iret (v := (-1)) hx hb hr (fun t ht hW => ⟨⟨(-1), (), rfl, rfl, trivial⟩, hS.F ht⟩) hS.2.2 dX8_resume_8
set_option maxHeartbeats 1000000 in
set_option maxRecDepth 100000 in
theorem c_X8_drop (l : Launch) (dC : Nat → ClassId) (dI : Nat → Nat → Nat) (d0 d1 d2 d3 d4 d5 : Nat) (sz : Nat)  : Met l yX8_drop wsX8_drop ({ frames := 0, cells := 0, slots := 0, locals := 0 }) (va_Pc [.ref d0] (kPre dC dI [] [(d0, .inr (8, [.ref d1, .ref d2, .ref d3, .ref d4, .ref d5, .int 0, .int 0, .int 0, .int 0, .int 0]))] sz)) (va_Qi (fun (r : Int32) (_ : Unit) => r = -1) (fun (_ : Unit) (_ : State) => True) (va_A [(d0, .inr (8, [.ref d1, .ref d2, .ref d3, .ref d4, .ref d5, .int 0, .int 0, .int 0, .int 0, .int 0]))] sz)) 0 0 (va_A [(d0, .inr (8, [.ref d1, .ref d2, .ref d3, .ref d4, .ref d5, .int 0, .int 0, .int 0, .int 0, .int 0]))] sz) := by
  refine Met.ofW (cc := cX8_drop) (maxL := 1) (ret := (some .int)) (by decide) rfl ?_
  intro p e s m args below meth c s₁ B hml hv
  obtain ⟨rfl, hsz, hP, hK, hD0, hN⟩ := hv
  have hx := B.exec
  have hb := B.bytes
  have hr := B.returns
  have hts := atoms_spec (ws := wsX8_drop) B.pre
  have hown : s.vm.findClass RX8 = some m.cls := findClass_of_methodNamed B.named
  have hlocks := B.notSynchronized
  subst hsz
  have hD := hD0.self (sz := s.heap.size)
  generalize hAe : va_A [(d0, .inr (8, [.ref d1, .ref d2, .ref d3, .ref d4, .ref d5, .int 0, .int 0, .int 0, .int 0, .int 0]))] s.heap.size = A at hD ⊢
  have hA : ∀ q : Nat, s.heap.size ≤ q → A q := fun q h => by rw [← hAe]; exact Or.inr h
  have hS : va_S A s.heap s.heap [] := va_S.rf
  have hP : va_P (dC, dI) vwCl [(d0, .inr (8, [.ref d1, .ref d2, .ref d3, .ref d4, .ref d5, .int 0, .int 0, .int 0, .int 0, .int 0]))] s.heap := hP
  have hinX8 : ∀ w ∈ wsX80, w ∈ wsX8_drop := fun _ h => List.mem_cons_of_mem _ (List.mem_append_left _ (List.mem_append_right _ h))
  have hinX4 : ∀ w ∈ wsX40, w ∈ wsX8_drop := fun _ h => List.mem_cons_of_mem _ (List.mem_append_right _ h)
  have hl := lv_entry ([.ref d0]) (n := 1) (Nat.le_of_ble_eq_true rfl)
  rw [lg_entry_eq]
  generalize (lg_sl ([.ref d0]) ++ List.replicate (1 - (lg_sl ([.ref d0])).length) Slot.unset).toArray = ls at hl ⊢
  have hl : lv_has ls 1 [(0, .ref d0)] := hl
  refine lv_aload_n hx hb dX8_drop_0 rfl (lv_at hl 0 rfl) ?_
  refine va_get (D := (dC, dI)) (ci := 8) (v := .int 0) (C := RX8) (T := TX8) (N := 10) hx hb hts hinX8 hown hK hP 0 rfl rfl 5 (by decide) (hts (.fieldLink RX8 50 "CensusDesk" "held" "Z") (List.mem_of_getElem? (i := 1) rfl)) (fun _ h9 => h9) rfl dX8_drop_1 ?_
  refine lv_if_ne (tgt := 9) hx hb dX8_drop_4 (by decide) (fun c_1 => absurd c_1 (by decide)) (fun c_1 => ?_)
  refine lv_iconst (v := (-1)) hx hb dX8_drop_7 (by decide) ?_
  exact W.iret (v := (-1)) hx hb hr (fun t ht hW => ⟨⟨(-1), (), rfl, rfl, trivial⟩, hS.F ht⟩) hS.2.2 dX8_drop_8
set_option maxHeartbeats 1000000 in
set_option maxRecDepth 100000 in
theorem c_X8_failures (l : Launch) (dC : Nat → ClassId) (dI : Nat → Nat → Nat) (d0 d1 d2 d3 d4 d5 : Nat) (l1 l2 l3 l4 : Nat) (sz : Nat)  : Met l yX8_failures wsX8_failures ({ frames := 0, cells := 0, slots := 0, locals := 0 }) (va_Pc [.ref d0] (kPre dC dI [] [(d0, .inr (8, [.ref d1, .ref d2, .ref d3, .ref d4, .ref d5, .int 0, .int 0, .int 0, .int 0, .int 0])), (d3, .inr (1, [.ref l1, .ref l2, .ref l3, .ref l4, .int 0]))] sz)) (va_Qi (fun (r : Int32) (_ : Unit) => r = 0) (fun (_ : Unit) (_ : State) => True) (va_A [(d0, .inr (8, [.ref d1, .ref d2, .ref d3, .ref d4, .ref d5, .int 0, .int 0, .int 0, .int 0, .int 0])), (d3, .inr (1, [.ref l1, .ref l2, .ref l3, .ref l4, .int 0]))] sz)) 0 0 (va_A [(d0, .inr (8, [.ref d1, .ref d2, .ref d3, .ref d4, .ref d5, .int 0, .int 0, .int 0, .int 0, .int 0])), (d3, .inr (1, [.ref l1, .ref l2, .ref l3, .ref l4, .int 0]))] sz) := by
  refine Met.ofW (cc := cX8_failures) (maxL := 1) (ret := (some .int)) (by decide) rfl ?_
  intro p e s m args below meth c s₁ B hml hv
  obtain ⟨rfl, hsz, hP, hK, hD0, hN⟩ := hv
  have hx := B.exec
  have hb := B.bytes
  have hr := B.returns
  have hts := atoms_spec (ws := wsX8_failures) B.pre
  have hown : s.vm.findClass RX8 = some m.cls := findClass_of_methodNamed B.named
  have hlocks := B.notSynchronized
  subst hsz
  have hD := hD0.self (sz := s.heap.size)
  generalize hAe : va_A [(d0, .inr (8, [.ref d1, .ref d2, .ref d3, .ref d4, .ref d5, .int 0, .int 0, .int 0, .int 0, .int 0])), (d3, .inr (1, [.ref l1, .ref l2, .ref l3, .ref l4, .int 0]))] s.heap.size = A at hD ⊢
  have hA : ∀ q : Nat, s.heap.size ≤ q → A q := fun q h => by rw [← hAe]; exact Or.inr h
  have hS : va_S A s.heap s.heap [] := va_S.rf
  have hP : va_P (dC, dI) vwCl [(d0, .inr (8, [.ref d1, .ref d2, .ref d3, .ref d4, .ref d5, .int 0, .int 0, .int 0, .int 0, .int 0])), (d3, .inr (1, [.ref l1, .ref l2, .ref l3, .ref l4, .int 0]))] s.heap := hP
  have hinX8 : ∀ w ∈ wsX80, w ∈ wsX8_failures := fun _ h => List.mem_cons_of_mem _ (List.mem_append_left _ (List.mem_append_right _ h))
  have hinX1 : ∀ w ∈ wsX10, w ∈ wsX8_failures := fun _ h => List.mem_cons_of_mem _ (List.mem_append_right _ h)
  have hl := lv_entry ([.ref d0]) (n := 1) (Nat.le_of_ble_eq_true rfl)
  rw [lg_entry_eq]
  generalize (lg_sl ([.ref d0]) ++ List.replicate (1 - (lg_sl ([.ref d0])).length) Slot.unset).toArray = ls at hl ⊢
  have hl : lv_has ls 1 [(0, .ref d0)] := hl
  refine lv_aload_n hx hb dX8_failures_0 rfl (lv_at hl 0 rfl) ?_
  refine va_get (D := (dC, dI)) (ci := 8) (v := .ref d3) (C := RX8) (T := TX8) (N := 10) hx hb hts hinX8 hown hK hP 0 rfl rfl 2 (by decide) (hts (.fieldLink RX8 26 "CensusDesk" "log" "LCensusDesk$Failures;") (List.mem_of_getElem? (i := 1) rfl)) (fun _ h9 => h9) rfl dX8_failures_1 ?_
  refine va_getN (D := (dC, dI)) (ci := 1) (v := .int 0) (C := RX1) (T := TX1) (N := 5) hx hb hts hinX1 hown hK hP 1 rfl rfl 4 (by decide) (va_Nw.use rfl (hN.1 ("CensusDesk", 93, "CensusDesk$Failures", "count", "I") (List.mem_of_getElem? (i := 3) rfl))) (fun _ h9 => h9) rfl dX8_failures_4 ?_
  exact W.iret (v := 0) hx hb hr (fun t ht hW => ⟨⟨0, (), rfl, rfl, trivial⟩, hS.F ht⟩) hS.2.2 dX8_failures_7
set_option maxHeartbeats 1000000 in
set_option maxRecDepth 100000 in
theorem c_X8_failure (l : Launch) (dC : Nat → ClassId) (dI : Nat → Nat → Nat) (d0 d1 d2 d3 d4 d5 : Nat) (l1 l2 l3 l4 : Nat) (i w : Int32) (sz : Nat)  : Met l yX8_failure wsX8_failure ({ frames := 2, cells := 0, slots := 0, locals := 43 }) (va_Pc [.ref d0, .int i, .int w] (kPre dC dI [] [(d0, .inr (8, [.ref d1, .ref d2, .ref d3, .ref d4, .ref d5, .int 0, .int 0, .int 0, .int 0, .int 0])), (d3, .inr (1, [.ref l1, .ref l2, .ref l3, .ref l4, .int 0]))] sz)) (va_Qi (fun (r : Int32) (_ : Unit) => r = -1) (fun (_ : Unit) (_ : State) => True) (va_A [(d0, .inr (8, [.ref d1, .ref d2, .ref d3, .ref d4, .ref d5, .int 0, .int 0, .int 0, .int 0, .int 0])), (d3, .inr (1, [.ref l1, .ref l2, .ref l3, .ref l4, .int 0]))] sz)) 0 0 (va_A [(d0, .inr (8, [.ref d1, .ref d2, .ref d3, .ref d4, .ref d5, .int 0, .int 0, .int 0, .int 0, .int 0])), (d3, .inr (1, [.ref l1, .ref l2, .ref l3, .ref l4, .int 0]))] sz) := by
  refine Met.ofW (cc := cX8_failure) (maxL := 3) (ret := (some .int)) (by decide) rfl ?_
  intro p e s m args below meth c s₁ B hml hv
  obtain ⟨rfl, hsz, hP, hK, hD0, hN⟩ := hv
  have hx := B.exec
  have hb := B.bytes
  have hr := B.returns
  have hts := atoms_spec (ws := wsX8_failure) B.pre
  have hown : s.vm.findClass RX8 = some m.cls := findClass_of_methodNamed B.named
  have hlocks := B.notSynchronized
  subst hsz
  have hD := hD0.self (sz := s.heap.size)
  generalize hAe : va_A [(d0, .inr (8, [.ref d1, .ref d2, .ref d3, .ref d4, .ref d5, .int 0, .int 0, .int 0, .int 0, .int 0])), (d3, .inr (1, [.ref l1, .ref l2, .ref l3, .ref l4, .int 0]))] s.heap.size = A at hD ⊢
  have hA : ∀ q : Nat, s.heap.size ≤ q → A q := fun q h => by rw [← hAe]; exact Or.inr h
  have hS : va_S A s.heap s.heap [] := va_S.rf
  have hP : va_P (dC, dI) vwCl [(d0, .inr (8, [.ref d1, .ref d2, .ref d3, .ref d4, .ref d5, .int 0, .int 0, .int 0, .int 0, .int 0])), (d3, .inr (1, [.ref l1, .ref l2, .ref l3, .ref l4, .int 0]))] s.heap := hP
  have hinX8 : ∀ w ∈ wsX80, w ∈ wsX8_failure := fun _ h => List.mem_cons_of_mem _ (List.mem_append_left _ (List.mem_append_right _ h))
  have hinX1 : ∀ w ∈ wsX10, w ∈ wsX8_failure := fun _ h => List.mem_cons_of_mem _ (List.mem_append_right _ h)
  have hl := lv_entry ([.ref d0, .int i, .int w]) (n := 3) (Nat.le_of_ble_eq_true rfl)
  rw [lg_entry_eq]
  generalize (lg_sl ([.ref d0, .int i, .int w]) ++ List.replicate (3 - (lg_sl ([.ref d0, .int i, .int w])).length) Slot.unset).toArray = ls at hl ⊢
  have hl : lv_has ls 3 [(0, .ref d0), (1, .int i), (2, .int w)] := hl
  refine lv_aload_n hx hb dX8_failure_0 rfl (lv_at hl 0 rfl) ?_
  refine va_get (D := (dC, dI)) (ci := 8) (v := .ref d3) (C := RX8) (T := TX8) (N := 10) hx hb hts hinX8 hown hK hP 0 rfl rfl 2 (by decide) (hts (.fieldLink RX8 26 "CensusDesk" "log" "LCensusDesk$Failures;") (List.mem_of_getElem? (i := 1) rfl)) (fun _ h9 => h9) rfl dX8_failure_1 ?_
  refine lv_iload_n hx hb dX8_failure_4 rfl (lv_at hl 1 rfl) ?_
  refine lv_iload_n hx hb dX8_failure_5 rfl (lv_at hl 2 rfl) ?_
  have hPc := hP.sub (ws' := [(d3, .inr (1, [.ref l1, .ref l2, .ref l3, .ref l4, .int 0]))]) [1] rfl
  have hDc := hD.sub (ws' := [(d3, .inr (1, [.ref l1, .ref l2, .ref l3, .ref l4, .int 0]))]) [1] (by decide) rfl
  have hKc := hK.sub (tys' := []) [] rfl
  have hFc := va_free (wc := [(d3, .inr (1, [.ref l1, .ref l2, .ref l3, .ref l4, .int 0]))]) hD hS hA [1] rfl
  refine va_calli (va_runV (As := [.int i, .int w]) (rest := []) ⟨hx, hb, hml, hown, hts⟩ (c_X1_tell l dC dI d3 l1 l2 l3 l4 i w _ ) (cwV 2 hts gX8_failure_X1_tell rfl rfl rfl (by decide +kernel) ⟨Nat.le_of_ble_eq_true rfl, Nat.le_of_ble_eq_true rfl⟩) (kPreV hPc hKc hDc hN (va_recv hKc hPc (ci := 1) (q0 := 0) rfl rfl)) rfl rfl hl.1 rfl (lv_room (Nat.le_of_ble_eq_true rfl)) dX8_failure_6 ⟨(by decide +kernel), (by decide +kernel)⟩) hS (fun q _ h => hFc q h) hFc (fun r_1 u t H1 locs ht hvm hw hB hz1 hk1 hS => ?_)
  obtain ⟨hP, hD⟩ := kRest (wc := [(d3, .inr (1, [.ref l1, .ref l2, .ref l3, .ref l4, .int 0]))]) (wr := [(d0, .inr (8, [.ref d1, .ref d2, .ref d3, .ref d4, .ref d5, .int 0, .int 0, .int 0, .int 0, .int 0]))]) hP hD [1] [0] rfl rfl (by decide) (by decide) hk1 hFc
  have hK := hK.sub (tys' := []) [] rfl
  generalize H1 = H at hP hS ⊢
  have hP : va_P (dC, dI) vwCl [(d0, .inr (8, [.ref d1, .ref d2, .ref d3, .ref d4, .ref d5, .int 0, .int 0, .int 0, .int 0, .int 0]))] H := hP
  have hD : va_D A [(d0, .inr (8, [.ref d1, .ref d2, .ref d3, .ref d4, .ref d5, .int 0, .int 0, .int 0, .int 0, .int 0]))] := hD
  try dsimp only at hw
  subst hw
  exact W.iret (v := (-1)) hx hb hr (fun t ht hW => ⟨⟨(-1), (), rfl, rfl, trivial⟩, hS.F ht⟩) hS.2.2 dX8_failure_9
set_option maxHeartbeats 1000000 in
set_option maxRecDepth 100000 in
theorem c_X8_depth (l : Launch) (dC : Nat → ClassId) (dI : Nat → Nat → Nat) (d0 d1 d2 d3 d4 d5 : Nat) (l1 l2 l3 l4 : Nat) (i : Int32) (sz : Nat)  : Met l yX8_depth wsX8_depth ({ frames := 2, cells := 0, slots := 0, locals := 44 }) (va_Pc [.ref d0, .int i] (kPre dC dI [] [(d0, .inr (8, [.ref d1, .ref d2, .ref d3, .ref d4, .ref d5, .int 0, .int 0, .int 0, .int 0, .int 0])), (d3, .inr (1, [.ref l1, .ref l2, .ref l3, .ref l4, .int 0]))] sz)) (va_Qi (fun (r : Int32) (_ : Unit) => r = -1) (fun (_ : Unit) (_ : State) => True) (va_A [(d0, .inr (8, [.ref d1, .ref d2, .ref d3, .ref d4, .ref d5, .int 0, .int 0, .int 0, .int 0, .int 0])), (d3, .inr (1, [.ref l1, .ref l2, .ref l3, .ref l4, .int 0]))] sz)) 0 0 (va_A [(d0, .inr (8, [.ref d1, .ref d2, .ref d3, .ref d4, .ref d5, .int 0, .int 0, .int 0, .int 0, .int 0])), (d3, .inr (1, [.ref l1, .ref l2, .ref l3, .ref l4, .int 0]))] sz) := by
  refine Met.ofW (cc := cX8_depth) (maxL := 2) (ret := (some .int)) (by decide) rfl ?_
  intro p e s m args below meth c s₁ B hml hv
  obtain ⟨rfl, hsz, hP, hK, hD0, hN⟩ := hv
  have hx := B.exec
  have hb := B.bytes
  have hr := B.returns
  have hts := atoms_spec (ws := wsX8_depth) B.pre
  have hown : s.vm.findClass RX8 = some m.cls := findClass_of_methodNamed B.named
  have hlocks := B.notSynchronized
  subst hsz
  have hD := hD0.self (sz := s.heap.size)
  generalize hAe : va_A [(d0, .inr (8, [.ref d1, .ref d2, .ref d3, .ref d4, .ref d5, .int 0, .int 0, .int 0, .int 0, .int 0])), (d3, .inr (1, [.ref l1, .ref l2, .ref l3, .ref l4, .int 0]))] s.heap.size = A at hD ⊢
  have hA : ∀ q : Nat, s.heap.size ≤ q → A q := fun q h => by rw [← hAe]; exact Or.inr h
  have hS : va_S A s.heap s.heap [] := va_S.rf
  have hP : va_P (dC, dI) vwCl [(d0, .inr (8, [.ref d1, .ref d2, .ref d3, .ref d4, .ref d5, .int 0, .int 0, .int 0, .int 0, .int 0])), (d3, .inr (1, [.ref l1, .ref l2, .ref l3, .ref l4, .int 0]))] s.heap := hP
  have hinX8 : ∀ w ∈ wsX80, w ∈ wsX8_depth := fun _ h => List.mem_cons_of_mem _ (List.mem_append_left _ (List.mem_append_right _ h))
  have hinX1 : ∀ w ∈ wsX10, w ∈ wsX8_depth := fun _ h => List.mem_cons_of_mem _ (List.mem_append_right _ h)
  have hl := lv_entry ([.ref d0, .int i]) (n := 2) (Nat.le_of_ble_eq_true rfl)
  rw [lg_entry_eq]
  generalize (lg_sl ([.ref d0, .int i]) ++ List.replicate (2 - (lg_sl ([.ref d0, .int i])).length) Slot.unset).toArray = ls at hl ⊢
  have hl : lv_has ls 2 [(0, .ref d0), (1, .int i)] := hl
  refine lv_aload_n hx hb dX8_depth_0 rfl (lv_at hl 0 rfl) ?_
  refine va_get (D := (dC, dI)) (ci := 8) (v := .ref d3) (C := RX8) (T := TX8) (N := 10) hx hb hts hinX8 hown hK hP 0 rfl rfl 2 (by decide) (hts (.fieldLink RX8 26 "CensusDesk" "log" "LCensusDesk$Failures;") (List.mem_of_getElem? (i := 1) rfl)) (fun _ h9 => h9) rfl dX8_depth_1 ?_
  refine lv_iload_n hx hb dX8_depth_4 rfl (lv_at hl 1 rfl) ?_
  have hPc := hP.sub (ws' := [(d3, .inr (1, [.ref l1, .ref l2, .ref l3, .ref l4, .int 0]))]) [1] rfl
  have hDc := hD.sub (ws' := [(d3, .inr (1, [.ref l1, .ref l2, .ref l3, .ref l4, .int 0]))]) [1] (by decide) rfl
  have hKc := hK.sub (tys' := []) [] rfl
  have hFc := va_free (wc := [(d3, .inr (1, [.ref l1, .ref l2, .ref l3, .ref l4, .int 0]))]) hD hS hA [1] rfl
  refine va_calli (va_runV (As := [.int i]) (rest := []) ⟨hx, hb, hml, hown, hts⟩ (c_X1_causesBelow l dC dI d3 l1 l2 l3 l4 i _ ) (cwV 1 hts gX8_depth_X1_causesBelow rfl rfl rfl (by decide +kernel) ⟨Nat.le_of_ble_eq_true rfl, Nat.le_of_ble_eq_true rfl⟩) (kPreV hPc hKc hDc hN (va_recv hKc hPc (ci := 1) (q0 := 0) rfl rfl)) rfl rfl hl.1 rfl (lv_room (Nat.le_of_ble_eq_true rfl)) dX8_depth_5 ⟨(by decide +kernel), (by decide +kernel)⟩) hS (fun q _ h => hFc q h) hFc (fun r_1 u t H1 locs ht hvm hw hB hz1 hk1 hS => ?_)
  obtain ⟨hP, hD⟩ := kRest (wc := [(d3, .inr (1, [.ref l1, .ref l2, .ref l3, .ref l4, .int 0]))]) (wr := [(d0, .inr (8, [.ref d1, .ref d2, .ref d3, .ref d4, .ref d5, .int 0, .int 0, .int 0, .int 0, .int 0]))]) hP hD [1] [0] rfl rfl (by decide) (by decide) hk1 hFc
  have hK := hK.sub (tys' := []) [] rfl
  generalize H1 = H at hP hS ⊢
  have hP : va_P (dC, dI) vwCl [(d0, .inr (8, [.ref d1, .ref d2, .ref d3, .ref d4, .ref d5, .int 0, .int 0, .int 0, .int 0, .int 0]))] H := hP
  have hD : va_D A [(d0, .inr (8, [.ref d1, .ref d2, .ref d3, .ref d4, .ref d5, .int 0, .int 0, .int 0, .int 0, .int 0]))] := hD
  try dsimp only at hw
  subst hw
  exact W.iret (v := (-1)) hx hb hr (fun t ht hW => ⟨⟨(-1), (), rfl, rfl, trivial⟩, hS.F ht⟩) hS.2.2 dX8_depth_8
set_option maxHeartbeats 1000000 in
set_option maxRecDepth 100000 in
theorem c_X8_many (l : Launch) (dC : Nat → ClassId) (dI : Nat → Nat → Nat) (d0 d1 d2 d3 d4 d5 : Nat) (w1 w2 : Nat) (l1 l2 l3 l4 : Nat) (k2 : ClassId) (g : Nat) (kd : Int32) (sz : Nat)  : Met l yX8_many wsX8_many ({ frames := 1, cells := 0, slots := 0, locals := 24 }) (va_Pc [.ref d0, .int kd] (fun U => kPre dC dI [(k2, .int)] [(d0, .inr (8, [.ref d1, .ref d2, .ref d3, .ref d4, .ref d5, .int 0, .int 0, .int 0, .int 0, .int 0])), (d2, .inr (5, [.ref w1, .ref w2])), (d3, .inr (1, [.ref l1, .ref l2, .ref l3, .ref l4, .int 0])), (l2, .inl (k2, 22, .inl ((fun _ => 0))))] sz U ∧ kSt g (va_A [(d0, .inr (8, [.ref d1, .ref d2, .ref d3, .ref d4, .ref d5, .int 0, .int 0, .int 0, .int 0, .int 0])), (d2, .inr (5, [.ref w1, .ref w2])), (d3, .inr (1, [.ref l1, .ref l2, .ref l3, .ref l4, .int 0])), (l2, .inl (k2, 22, .inl ((fun _ => 0))))] sz) U)) (va_Qi (fun (r : Int32) (_ : Unit) => r = fMany kd) (fun (_ : Unit) (_ : State) => True) (va_A [(d0, .inr (8, [.ref d1, .ref d2, .ref d3, .ref d4, .ref d5, .int 0, .int 0, .int 0, .int 0, .int 0])), (d2, .inr (5, [.ref w1, .ref w2])), (d3, .inr (1, [.ref l1, .ref l2, .ref l3, .ref l4, .int 0])), (l2, .inl (k2, 22, .inl ((fun _ => 0))))] sz)) 0 0 (va_A [(d0, .inr (8, [.ref d1, .ref d2, .ref d3, .ref d4, .ref d5, .int 0, .int 0, .int 0, .int 0, .int 0])), (d2, .inr (5, [.ref w1, .ref w2])), (d3, .inr (1, [.ref l1, .ref l2, .ref l3, .ref l4, .int 0])), (l2, .inl (k2, 22, .inl ((fun _ => 0))))] sz) := by
  refine Met.ofW (cc := cX8_many) (maxL := 4) (ret := (some .int)) (by decide) rfl ?_
  intro p e s m args below meth c s₁ B hml hv
  obtain ⟨rfl, ⟨hsz, hP, hK, hD0, hN⟩, hZ, hT⟩ := hv
  have hx := B.exec
  have hb := B.bytes
  have hr := B.returns
  have hts := atoms_spec (ws := wsX8_many) B.pre
  have hown : s.vm.findClass RX8 = some m.cls := findClass_of_methodNamed B.named
  have hlocks := B.notSynchronized
  subst hsz
  have hD := hD0.self (sz := s.heap.size)
  generalize hAe : va_A [(d0, .inr (8, [.ref d1, .ref d2, .ref d3, .ref d4, .ref d5, .int 0, .int 0, .int 0, .int 0, .int 0])), (d2, .inr (5, [.ref w1, .ref w2])), (d3, .inr (1, [.ref l1, .ref l2, .ref l3, .ref l4, .int 0])), (l2, .inl (k2, 22, .inl ((fun _ => 0))))] s.heap.size = A at hD hZ hT ⊢
  have hA : ∀ q : Nat, s.heap.size ≤ q → A q := fun q h => by rw [← hAe]; exact Or.inr h
  have hS : va_S A s.heap s.heap [] := va_S.rf
  have hP : va_P (dC, dI) vwCl [(d0, .inr (8, [.ref d1, .ref d2, .ref d3, .ref d4, .ref d5, .int 0, .int 0, .int 0, .int 0, .int 0])), (d2, .inr (5, [.ref w1, .ref w2])), (d3, .inr (1, [.ref l1, .ref l2, .ref l3, .ref l4, .int 0])), (l2, .inl (k2, 22, .inl ((fun _ => 0))))] s.heap := hP
  have hinX8 : ∀ w ∈ wsX80, w ∈ wsX8_many := fun _ h => List.mem_cons_of_mem _ (List.mem_append_left _ (List.mem_append_right _ h))
  have hinX1 : ∀ w ∈ wsX10, w ∈ wsX8_many := fun _ h => List.mem_cons_of_mem _ (List.mem_append_right _ h)
  have hl := lv_entry ([.ref d0, .int kd]) (n := 4) (Nat.le_of_ble_eq_true rfl)
  rw [lg_entry_eq]
  generalize (lg_sl ([.ref d0, .int kd]) ++ List.replicate (4 - (lg_sl ([.ref d0, .int kd])).length) Slot.unset).toArray = ls at hl ⊢
  have hl : lv_has ls 4 [(0, .ref d0), (1, .int kd)] := hl
  refine k_gen (fun QQ eQ => ?_)
  refine lv_iload_n hx hb dX8_many_0 rfl (lv_at hl 1 rfl) ?_
  refine lv_iconst (v := 1) hx hb dX8_many_1 (by decide) ?_
  refine lv_icmp_lt (tgt := 11) hx hb dX8_many_2 (by decide) (fun c_1 => ?_) (fun c_1 => ?_)
  · refine lv_iconst (v := (-1)) hx hb dX8_many_11 (by decide) ?_
    subst eQ
    exact W.iret (v := (-1)) hx hb hr (fun t ht hW => ⟨⟨(-1), (), rfl, (by unfold fMany; rw [if_pos c_1]), trivial⟩, hS.F ht⟩) hS.2.2 dX8_many_12
  · refine lv_iload_n hx hb dX8_many_5 rfl (lv_at hl 1 rfl) ?_
    refine lv_bipush (v := 29) hx hb dX8_many_6 (by decide) ?_
    refine lv_icmp_le (tgt := 13) hx hb dX8_many_8 (by decide) (fun c_2 => ?_) (fun c_2 => ?_)
    · refine lv_iconst (v := 0) hx hb dX8_many_13 (by decide) ?_
      refine lv_istore_n (lv' := [(2, .int 0), (0, .ref d0), (1, .int kd)]) hx hb dX8_many_14 rfl hl (by decide) rfl (fun ls hl => ?_)
      refine lv_iconst (v := 1) hx hb dX8_many_15 (by decide) ?_
      refine lv_istore_n (lv' := [(3, .int 1), (2, .int 0), (0, .ref d0), (1, .int kd)]) hx hb dX8_many_16 rfl hl (by decide) rfl (fun ls hl => ?_)
      have loop17 : ∀ (n17 : Nat) (k : Nat) (H : Heap) (locs : List Loc) (ls : Array Slot), (1 ≤ k) → (k ≤ 22) → 22 - k < n17 → va_P (dC, dI) vwCl [(d0, .inr (8, [.ref d1, .ref d2, .ref d3, .ref d4, .ref d5, .int 0, .int 0, .int 0, .int 0, .int 0])), (d2, .inr (5, [.ref w1, .ref w2])), (d3, .inr (1, [.ref l1, .ref l2, .ref l3, .ref l4, .int 0])), (l2, .inl (k2, 22, .inl ((fun _ => 0))))] H → va_D A [(d0, .inr (8, [.ref d1, .ref d2, .ref d3, .ref d4, .ref d5, .int 0, .int 0, .int 0, .int 0, .int 0])), (d2, .inr (5, [.ref w1, .ref w2])), (d3, .inr (1, [.ref l1, .ref l2, .ref l3, .ref l4, .int 0])), (l2, .inl (k2, 22, .inl ((fun _ => 0))))] → va_S A s.heap H locs → lv_has ls 4 [(3, .int (nI k)), (2, .int 0), (0, .ref d0), (1, .int kd)] → W p l e ({ frames := 1, cells := 0, slots := 0, locals := 24 } : Room) s m ([.ref d0, .int kd] : List Value).toArray below meth c H locs 0 0 QQ (F0 m 17 ls []) := by
        intro n17
        induction n17 with
        | zero =>
          intro k H locs ls hk1 hk2 hm
          exact absurd hm (Nat.not_lt_zero _)
        | succ n17 ih17 =>
          intro k H locs ls hk1 hk2 hm hP hD hS hl
          refine lv_iload_n hx hb dX8_many_17 rfl (lv_at hl 0 rfl) ?_
          refine lv_bipush (v := 21) hx hb dX8_many_18 (by decide) ?_
          refine lv_icmp_gt (tgt := 52) hx hb dX8_many_20 (by decide) (fun c_3 => ?_) (fun c_3 => ?_)
          · refine lv_iload_n hx hb dX8_many_52 rfl (lv_at hl 1 rfl) ?_
            subst eQ
            exact W.iret (v := 0) hx hb hr (fun t ht hW => ⟨⟨0, (), rfl, (by unfold fMany; rw [if_neg c_1, if_pos c_2]), trivial⟩, hS.F ht⟩) hS.2.2 dX8_many_53
          · have hk3 : k ≤ 21 := by rcases Nat.lt_or_ge k 22 with q | q; omega; exact absurd (nI_lt (a := 21) (b := k) (by omega) (by omega)) c_3
            refine lv_aload_n hx hb dX8_many_23 rfl (lv_at hl 2 rfl) ?_
            refine va_get (D := (dC, dI)) (ci := 8) (v := .ref d2) (C := RX8) (T := TX8) (N := 10) hx hb hts hinX8 hown hK hP 0 rfl rfl 1 (by decide) (hts (.fieldLink RX8 19 "CensusDesk" "rules" "LCensusDesk$Rules;") (List.mem_of_getElem? (i := 1) rfl)) (fun _ h9 => h9) rfl dX8_many_24 ?_
            refine lv_iload_n hx hb dX8_many_27 rfl (lv_at hl 0 rfl) ?_
            refine lv_iload_n hx hb dX8_many_28 rfl (lv_at hl 3 rfl) ?_
            have hPc := hP.sub (ws' := [(d2, .inr (5, [.ref w1, .ref w2]))]) [1] rfl
            have hDc := hD.sub (ws' := [(d2, .inr (5, [.ref w1, .ref w2]))]) [1] (by decide) rfl
            have hKc := hK.sub (tys' := []) [] rfl
            have hFc := va_free (wc := [(d2, .inr (5, [.ref w1, .ref w2]))]) hD hS hA [1] rfl
            refine va_calli (va_runV (As := [.int (nI k), .int kd]) (rest := []) ⟨hx, hb, hml, hown, hts⟩ (c_X5_isWithin l dC dI d2 w1 w2 g (nI k) kd _ ) (cwV 2 hts gX8_many_X5_isWithin rfl rfl rfl (by decide +kernel) ⟨Nat.le_of_ble_eq_true rfl, Nat.le_of_ble_eq_true rfl⟩) (kPreVT hPc hKc hDc hN (va_recv hKc hPc (ci := 5) (q0 := 0) rfl rfl) ((hZ.kept (fun a h1 h2 => hS.2.1 a h1 h2)).narrow hFc) ((hT.kept (fun a h1 h2 => hS.2.1 a h1 h2)).narrow hFc)) rfl rfl hl.1 rfl (lv_room (Nat.le_of_ble_eq_true rfl)) dX8_many_29 ⟨(by decide +kernel), (by decide +kernel)⟩) hS (fun q _ h => hFc q h) hFc (fun r_4 u t H1 locs ht hvm hw hB hz1 hk1 hS => ?_)
            obtain ⟨hP, hD, hK⟩ := kJoin (wc := [(d2, .inr (5, [.ref w1, .ref w2]))]) (wr := [(d0, .inr (8, [.ref d1, .ref d2, .ref d3, .ref d4, .ref d5, .int 0, .int 0, .int 0, .int 0, .int 0])), (d3, .inr (1, [.ref l1, .ref l2, .ref l3, .ref l4, .int 0])), (l2, .inl (k2, 22, .inl ((fun _ => 0))))]) (w1 := [(d2, .inr (5, [.ref w1, .ref w2]))]) hP hD hK [1] [0, 2, 3] rfl rfl (by decide) (by decide) hk1 hFc ht hvm hB
            have hK : va_K (dC, dI) vwCl [(k2, .int)] s := hK
            generalize H1 = H at hP hS ⊢
            have hP : va_P (dC, dI) vwCl [(d0, .inr (8, [.ref d1, .ref d2, .ref d3, .ref d4, .ref d5, .int 0, .int 0, .int 0, .int 0, .int 0])), (d3, .inr (1, [.ref l1, .ref l2, .ref l3, .ref l4, .int 0])), (l2, .inl (k2, 22, .inl ((fun _ => 0)))), (d2, .inr (5, [.ref w1, .ref w2]))] H := hP
            have hD : va_D A [(d0, .inr (8, [.ref d1, .ref d2, .ref d3, .ref d4, .ref d5, .int 0, .int 0, .int 0, .int 0, .int 0])), (d3, .inr (1, [.ref l1, .ref l2, .ref l3, .ref l4, .int 0])), (l2, .inl (k2, 22, .inl ((fun _ => 0)))), (d2, .inr (5, [.ref w1, .ref w2]))] := hD
            try dsimp only at hw
            refine lv_if_eq (tgt := 46) hx hb dX8_many_32 (by decide) (fun c_5 => ?_) (fun c_5 => ?_)
            · refine lv_iinc (v := (nI (k + 1))) (lv' := [(3, .int (nI (k + 1))), (2, .int 0), (0, .ref d0), (1, .int kd)]) hx hb dX8_many_46 hl (k := 0) rfl (nI_1 k) (by decide) rfl (fun ls hl => ?_)
              refine lv_goto (tgt := 17) hx hb dX8_many_49 (by decide) ?_
              exact ih17 (k + 1) _ _ _ (by omega) (by omega) (by omega) (hP.sub [0, 3, 1, 2] rfl) (hD.sub [0, 3, 1, 2] (by decide) rfl) hS (lv_sub hl [0, 1, 2, 3] rfl)
            · refine lv_iload_n hx hb dX8_many_35 rfl (lv_at hl 1 rfl) ?_
              refine lv_aload_n hx hb dX8_many_36 rfl (lv_at hl 2 rfl) ?_
              refine va_get (D := (dC, dI)) (ci := 8) (v := .ref d3) (C := RX8) (T := TX8) (N := 10) hx hb hts hinX8 hown hK hP 0 rfl rfl 2 (by decide) (hts (.fieldLink RX8 26 "CensusDesk" "log" "LCensusDesk$Failures;") (List.mem_of_getElem? (i := 2) rfl)) (fun _ h9 => h9) rfl dX8_many_37 ?_
              refine lv_iload_n hx hb dX8_many_40 rfl (lv_at hl 0 rfl) ?_
              have hPc := hP.sub (ws' := [(d3, .inr (1, [.ref l1, .ref l2, .ref l3, .ref l4, .int 0])), (l2, .inl (k2, 22, .inl ((fun _ => 0))))]) [1, 2] rfl
              have hDc := hD.sub (ws' := [(d3, .inr (1, [.ref l1, .ref l2, .ref l3, .ref l4, .int 0])), (l2, .inl (k2, 22, .inl ((fun _ => 0))))]) [1, 2] (by decide) rfl
              have hKc := hK.sub (tys' := [(k2, .int)]) [0] rfl
              have hFc := va_free (wc := [(d3, .inr (1, [.ref l1, .ref l2, .ref l3, .ref l4, .int 0])), (l2, .inl (k2, 22, .inl ((fun _ => 0))))]) hD hS hA [1, 2] rfl
              refine va_calli (va_runV (As := [.int (nI k)]) (rest := [.int 0]) ⟨hx, hb, hml, hown, hts⟩ (c_X1_ofKind l dC dI d3 l1 l2 l3 l4 k2 (nI k) _ ) (cwV 1 hts gX8_many_X1_ofKind rfl rfl rfl (by decide +kernel) ⟨Nat.le_of_ble_eq_true rfl, Nat.le_of_ble_eq_true rfl⟩) (kPreV hPc hKc hDc hN (va_recv hKc hPc (ci := 1) (q0 := 0) rfl rfl)) rfl rfl hl.1 rfl (lv_room (Nat.le_of_ble_eq_true rfl)) dX8_many_41 ⟨(by decide +kernel), (by decide +kernel)⟩) hS (fun q _ h => hFc q h) hFc (fun r_6 u t H1 locs ht hvm hw hB hz1 hk1 hS => ?_)
              obtain ⟨hP, hD, hK⟩ := kJoin (wc := [(d3, .inr (1, [.ref l1, .ref l2, .ref l3, .ref l4, .int 0])), (l2, .inl (k2, 22, .inl ((fun _ => 0))))]) (wr := [(d0, .inr (8, [.ref d1, .ref d2, .ref d3, .ref d4, .ref d5, .int 0, .int 0, .int 0, .int 0, .int 0])), (d2, .inr (5, [.ref w1, .ref w2]))]) (w1 := [(d3, .inr (1, [.ref l1, .ref l2, .ref l3, .ref l4, .int 0])), (l2, .inl (k2, 22, .inl ((fun _ => 0))))]) hP hD hK [1, 2] [0, 3] rfl rfl (by decide) (by decide) hk1 hFc ht hvm hB
              have hK : va_K (dC, dI) vwCl [(k2, .int), (k2, .int)] s := hK
              have hK := hK.sub (tys' := [(k2, .int)]) [1] rfl
              generalize H1 = H at hP hS ⊢
              have hP : va_P (dC, dI) vwCl [(d0, .inr (8, [.ref d1, .ref d2, .ref d3, .ref d4, .ref d5, .int 0, .int 0, .int 0, .int 0, .int 0])), (d2, .inr (5, [.ref w1, .ref w2])), (d3, .inr (1, [.ref l1, .ref l2, .ref l3, .ref l4, .int 0])), (l2, .inl (k2, 22, .inl ((fun _ => 0))))] H := hP
              have hD : va_D A [(d0, .inr (8, [.ref d1, .ref d2, .ref d3, .ref d4, .ref d5, .int 0, .int 0, .int 0, .int 0, .int 0])), (d2, .inr (5, [.ref w1, .ref w2])), (d3, .inr (1, [.ref l1, .ref l2, .ref l3, .ref l4, .int 0])), (l2, .inl (k2, 22, .inl ((fun _ => 0))))] := hD
              try dsimp only at hw
              subst hw
              refine lv_iadd hx hb dX8_many_44 ?_
              refine k_top (v := 0) (by decide) ?_
              refine lv_istore_n (lv' := [(2, .int 0), (3, .int (nI k)), (0, .ref d0), (1, .int kd)]) hx hb dX8_many_45 rfl hl (by decide) rfl (fun ls hl => ?_)
              refine lv_iinc (v := (nI (k + 1))) (lv' := [(3, .int (nI (k + 1))), (2, .int 0), (0, .ref d0), (1, .int kd)]) hx hb dX8_many_46 hl (k := 1) rfl (nI_1 k) (by decide) rfl (fun ls hl => ?_)
              refine lv_goto (tgt := 17) hx hb dX8_many_49 (by decide) ?_
              exact ih17 (k + 1) _ _ _ (by omega) (by omega) (by omega) (hP.sub [0, 1, 2, 3] rfl) (hD.sub [0, 1, 2, 3] (by decide) rfl) hS (lv_sub hl [0, 1, 2, 3] rfl)
      exact loop17 (22 - 1 + 1) (1) _ _ _ (Nat.le_refl 1) (by decide) (Nat.lt_succ_self _) (hP.sub [0, 1, 2, 3] rfl) (hD.sub [0, 1, 2, 3] (by decide) rfl) hS (lv_sub hl [0, 1, 2, 3] rfl)
    · refine lv_iconst (v := (-1)) hx hb dX8_many_11 (by decide) ?_
      subst eQ
      exact W.iret (v := (-1)) hx hb hr (fun t ht hW => ⟨⟨(-1), (), rfl, (by unfold fMany; rw [if_neg c_1, if_neg c_2]), trivial⟩, hS.F ht⟩) hS.2.2 dX8_many_12
set_option maxHeartbeats 1000000 in
set_option maxRecDepth 100000 in
theorem c_X8_sheet (l : Launch) (dC : Nat → ClassId) (dI : Nat → Nat → Nat) (d0 d1 d2 d3 d4 d5 : Nat) (e5 e6 e7 e8 : Nat) (w : Int32) (sz : Nat)  : Met l yX8_sheet wsX8_sheet ({ frames := 0, cells := 0, slots := 0, locals := 0 }) (va_Pc [.ref d0, .int w] (kPre dC dI [] [(d0, .inr (8, [.ref d1, .ref d2, .ref d3, .ref d4, .ref d5, .int 0, .int 0, .int 0, .int 0, .int 0])), (d5, .inr (4, [.ref d1, .ref d2, .ref d3, .ref d4, .ref e5, .ref e6, .ref e7, .ref e8, .int 0, .int 0, .int 0, .int 0, .int 0, .int 0, .int 0, .int 0, .int 0, .int 0, .int 0]))] sz)) (va_Qi (fun (r : Int32) (_ : Unit) => r = fSw 4 w) (fun (_ : Unit) (_ : State) => True) (va_A [(d0, .inr (8, [.ref d1, .ref d2, .ref d3, .ref d4, .ref d5, .int 0, .int 0, .int 0, .int 0, .int 0])), (d5, .inr (4, [.ref d1, .ref d2, .ref d3, .ref d4, .ref e5, .ref e6, .ref e7, .ref e8, .int 0, .int 0, .int 0, .int 0, .int 0, .int 0, .int 0, .int 0, .int 0, .int 0, .int 0]))] sz)) 0 0 (va_A [(d0, .inr (8, [.ref d1, .ref d2, .ref d3, .ref d4, .ref d5, .int 0, .int 0, .int 0, .int 0, .int 0])), (d5, .inr (4, [.ref d1, .ref d2, .ref d3, .ref d4, .ref e5, .ref e6, .ref e7, .ref e8, .int 0, .int 0, .int 0, .int 0, .int 0, .int 0, .int 0, .int 0, .int 0, .int 0, .int 0]))] sz) := by
  refine Met.ofW (cc := cX8_sheet) (maxL := 2) (ret := (some .int)) (by decide) rfl ?_
  intro p e s m args below meth c s₁ B hml hv
  obtain ⟨rfl, hsz, hP, hK, hD0, hN⟩ := hv
  have hx := B.exec
  have hb := B.bytes
  have hr := B.returns
  have hts := atoms_spec (ws := wsX8_sheet) B.pre
  have hown : s.vm.findClass RX8 = some m.cls := findClass_of_methodNamed B.named
  have hlocks := B.notSynchronized
  subst hsz
  have hD := hD0.self (sz := s.heap.size)
  generalize hAe : va_A [(d0, .inr (8, [.ref d1, .ref d2, .ref d3, .ref d4, .ref d5, .int 0, .int 0, .int 0, .int 0, .int 0])), (d5, .inr (4, [.ref d1, .ref d2, .ref d3, .ref d4, .ref e5, .ref e6, .ref e7, .ref e8, .int 0, .int 0, .int 0, .int 0, .int 0, .int 0, .int 0, .int 0, .int 0, .int 0, .int 0]))] s.heap.size = A at hD ⊢
  have hA : ∀ q : Nat, s.heap.size ≤ q → A q := fun q h => by rw [← hAe]; exact Or.inr h
  have hS : va_S A s.heap s.heap [] := va_S.rf
  have hP : va_P (dC, dI) vwCl [(d0, .inr (8, [.ref d1, .ref d2, .ref d3, .ref d4, .ref d5, .int 0, .int 0, .int 0, .int 0, .int 0])), (d5, .inr (4, [.ref d1, .ref d2, .ref d3, .ref d4, .ref e5, .ref e6, .ref e7, .ref e8, .int 0, .int 0, .int 0, .int 0, .int 0, .int 0, .int 0, .int 0, .int 0, .int 0, .int 0]))] s.heap := hP
  have hinX8 : ∀ w ∈ wsX80, w ∈ wsX8_sheet := fun _ h => List.mem_cons_of_mem _ (List.mem_append_left _ (List.mem_append_right _ h))
  have hinX4 : ∀ w ∈ wsX40, w ∈ wsX8_sheet := fun _ h => List.mem_cons_of_mem _ (List.mem_append_right _ h)
  have hl := lv_entry ([.ref d0, .int w]) (n := 2) (Nat.le_of_ble_eq_true rfl)
  rw [lg_entry_eq]
  generalize (lg_sl ([.ref d0, .int w]) ++ List.replicate (2 - (lg_sl ([.ref d0, .int w])).length) Slot.unset).toArray = ls at hl ⊢
  have hl : lv_has ls 2 [(0, .ref d0), (1, .int w)] := hl
  refine lv_iload_n hx hb dX8_sheet_0 rfl (lv_at hl 1 rfl) ?_
  rcases k_sw4 w with hsw | rfl | rfl | rfl | rfl | rfl
  · refine lv_tableOut (tgt := 76) hx hb dX8_sheet_1 hsw (by decide) ?_
    refine lv_iconst (v := (-1)) hx hb dX8_sheet_76 (by decide) ?_
    exact W.iret (v := (-1)) hx hb hr (fun t ht hW => ⟨⟨(-1), (), rfl, (if_pos hsw).symm, trivial⟩, hS.F ht⟩) hS.2.2 dX8_sheet_77
  · refine lv_tableIn (off := 35) (tgt := 36) hx hb dX8_sheet_1 (by decide) (by decide) (by decide) (by decide) ?_
    refine lv_aload_n hx hb dX8_sheet_36 rfl (lv_at hl 0 rfl) ?_
    refine va_get (D := (dC, dI)) (ci := 8) (v := .ref d5) (C := RX8) (T := TX8) (N := 10) hx hb hts hinX8 hown hK hP 0 rfl rfl 4 (by decide) (hts (.fieldLink RX8 42 "CensusDesk" "reader" "LCensusDesk$Reader;") (List.mem_of_getElem? (i := 1) rfl)) (fun _ h9 => h9) rfl dX8_sheet_37 ?_
    refine va_getN (D := (dC, dI)) (ci := 4) (v := .int 0) (C := RX4) (T := TX4) (N := 19) hx hb hts hinX4 hown hK hP 1 rfl rfl 8 (by decide) (va_Nw.use rfl (hN.1 ("CensusDesk", 110, "CensusDesk$Reader", "linesRead", "I") (List.mem_of_getElem? (i := 28) rfl))) (fun _ h9 => h9) rfl dX8_sheet_40 ?_
    exact W.iret (v := 0) hx hb hr (fun t ht hW => ⟨⟨0, (), rfl, (by decide), trivial⟩, hS.F ht⟩) hS.2.2 dX8_sheet_43
  · refine lv_tableIn (off := 43) (tgt := 44) hx hb dX8_sheet_1 (by decide) (by decide) (by decide) (by decide) ?_
    refine lv_aload_n hx hb dX8_sheet_44 rfl (lv_at hl 0 rfl) ?_
    refine va_get (D := (dC, dI)) (ci := 8) (v := .ref d5) (C := RX8) (T := TX8) (N := 10) hx hb hts hinX8 hown hK hP 0 rfl rfl 4 (by decide) (hts (.fieldLink RX8 42 "CensusDesk" "reader" "LCensusDesk$Reader;") (List.mem_of_getElem? (i := 1) rfl)) (fun _ h9 => h9) rfl dX8_sheet_45 ?_
    refine va_getN (D := (dC, dI)) (ci := 4) (v := .int 0) (C := RX4) (T := TX4) (N := 19) hx hb hts hinX4 hown hK hP 1 rfl rfl 9 (by decide) (va_Nw.use rfl (hN.1 ("CensusDesk", 90, "CensusDesk$Reader", "taken", "I") (List.mem_of_getElem? (i := 29) rfl))) (fun _ h9 => h9) rfl dX8_sheet_48 ?_
    exact W.iret (v := 0) hx hb hr (fun t ht hW => ⟨⟨0, (), rfl, (by decide), trivial⟩, hS.F ht⟩) hS.2.2 dX8_sheet_51
  · refine lv_tableIn (off := 51) (tgt := 52) hx hb dX8_sheet_1 (by decide) (by decide) (by decide) (by decide) ?_
    refine lv_aload_n hx hb dX8_sheet_52 rfl (lv_at hl 0 rfl) ?_
    refine va_get (D := (dC, dI)) (ci := 8) (v := .ref d5) (C := RX8) (T := TX8) (N := 10) hx hb hts hinX8 hown hK hP 0 rfl rfl 4 (by decide) (hts (.fieldLink RX8 42 "CensusDesk" "reader" "LCensusDesk$Reader;") (List.mem_of_getElem? (i := 1) rfl)) (fun _ h9 => h9) rfl dX8_sheet_53 ?_
    refine va_getN (D := (dC, dI)) (ci := 4) (v := .int 0) (C := RX4) (T := TX4) (N := 19) hx hb hts hinX4 hown hK hP 1 rfl rfl 10 (by decide) (va_Nw.use rfl (hN.1 ("CensusDesk", 113, "CensusDesk$Reader", "lost", "I") (List.mem_of_getElem? (i := 30) rfl))) (fun _ h9 => h9) rfl dX8_sheet_56 ?_
    exact W.iret (v := 0) hx hb hr (fun t ht hW => ⟨⟨0, (), rfl, (by decide), trivial⟩, hS.F ht⟩) hS.2.2 dX8_sheet_59
  · refine lv_tableIn (off := 59) (tgt := 60) hx hb dX8_sheet_1 (by decide) (by decide) (by decide) (by decide) ?_
    refine lv_aload_n hx hb dX8_sheet_60 rfl (lv_at hl 0 rfl) ?_
    refine va_get (D := (dC, dI)) (ci := 8) (v := .ref d5) (C := RX8) (T := TX8) (N := 10) hx hb hts hinX8 hown hK hP 0 rfl rfl 4 (by decide) (hts (.fieldLink RX8 42 "CensusDesk" "reader" "LCensusDesk$Reader;") (List.mem_of_getElem? (i := 1) rfl)) (fun _ h9 => h9) rfl dX8_sheet_61 ?_
    refine va_getN (D := (dC, dI)) (ci := 4) (v := .int 0) (C := RX4) (T := TX4) (N := 19) hx hb hts hinX4 hown hK hP 1 rfl rfl 11 (by decide) (va_Nw.use rfl (hN.1 ("CensusDesk", 116, "CensusDesk$Reader", "personsTaken", "I") (List.mem_of_getElem? (i := 31) rfl))) (fun _ h9 => h9) rfl dX8_sheet_64 ?_
    exact W.iret (v := 0) hx hb hr (fun t ht hW => ⟨⟨0, (), rfl, (by decide), trivial⟩, hS.F ht⟩) hS.2.2 dX8_sheet_67
  · refine lv_tableIn (off := 67) (tgt := 68) hx hb dX8_sheet_1 (by decide) (by decide) (by decide) (by decide) ?_
    refine lv_aload_n hx hb dX8_sheet_68 rfl (lv_at hl 0 rfl) ?_
    refine va_get (D := (dC, dI)) (ci := 8) (v := .ref d5) (C := RX8) (T := TX8) (N := 10) hx hb hts hinX8 hown hK hP 0 rfl rfl 4 (by decide) (hts (.fieldLink RX8 42 "CensusDesk" "reader" "LCensusDesk$Reader;") (List.mem_of_getElem? (i := 1) rfl)) (fun _ h9 => h9) rfl dX8_sheet_69 ?_
    refine va_getN (D := (dC, dI)) (ci := 4) (v := .int 0) (C := RX4) (T := TX4) (N := 19) hx hb hts hinX4 hown hK hP 1 rfl rfl 12 (by decide) (va_Nw.use rfl (hN.1 ("CensusDesk", 119, "CensusDesk$Reader", "position", "I") (List.mem_of_getElem? (i := 32) rfl))) (fun _ h9 => h9) rfl dX8_sheet_72 ?_
    exact W.iret (v := 0) hx hb hr (fun t ht hW => ⟨⟨0, (), rfl, (by decide), trivial⟩, hS.F ht⟩) hS.2.2 dX8_sheet_75
set_option maxHeartbeats 1000000 in
set_option maxRecDepth 100000 in
theorem c_X8_sum (l : Launch) (dC : Nat → ClassId) (dI : Nat → Nat → Nat) (d0 d1 d2 d3 d4 d5 : Nat) (b1 b2 b3 b4 : Nat) (w : Int32) (sz : Nat)  : Met l yX8_sum wsX8_sum ({ frames := 0, cells := 0, slots := 0, locals := 0 }) (va_Pc [.ref d0, .int w] (kPre dC dI [] [(d0, .inr (8, [.ref d1, .ref d2, .ref d3, .ref d4, .ref d5, .int 0, .int 0, .int 0, .int 0, .int 0])), (d4, .inr (0, [.ref b1, .ref b2, .ref b3, .ref b4, .int 0, .int 0, .int 0, .int 0, .int 0, .int 0]))] sz)) (va_Qi (fun (r : Int32) (_ : Unit) => r = fSw 8 w) (fun (_ : Unit) (_ : State) => True) (va_A [(d0, .inr (8, [.ref d1, .ref d2, .ref d3, .ref d4, .ref d5, .int 0, .int 0, .int 0, .int 0, .int 0])), (d4, .inr (0, [.ref b1, .ref b2, .ref b3, .ref b4, .int 0, .int 0, .int 0, .int 0, .int 0, .int 0]))] sz)) 0 0 (va_A [(d0, .inr (8, [.ref d1, .ref d2, .ref d3, .ref d4, .ref d5, .int 0, .int 0, .int 0, .int 0, .int 0])), (d4, .inr (0, [.ref b1, .ref b2, .ref b3, .ref b4, .int 0, .int 0, .int 0, .int 0, .int 0, .int 0]))] sz) := by
  refine Met.ofW (cc := cX8_sum) (maxL := 2) (ret := (some .int)) (by decide) rfl ?_
  intro p e s m args below meth c s₁ B hml hv
  obtain ⟨rfl, hsz, hP, hK, hD0, hN⟩ := hv
  have hx := B.exec
  have hb := B.bytes
  have hr := B.returns
  have hts := atoms_spec (ws := wsX8_sum) B.pre
  have hown : s.vm.findClass RX8 = some m.cls := findClass_of_methodNamed B.named
  have hlocks := B.notSynchronized
  subst hsz
  have hD := hD0.self (sz := s.heap.size)
  generalize hAe : va_A [(d0, .inr (8, [.ref d1, .ref d2, .ref d3, .ref d4, .ref d5, .int 0, .int 0, .int 0, .int 0, .int 0])), (d4, .inr (0, [.ref b1, .ref b2, .ref b3, .ref b4, .int 0, .int 0, .int 0, .int 0, .int 0, .int 0]))] s.heap.size = A at hD ⊢
  have hA : ∀ q : Nat, s.heap.size ≤ q → A q := fun q h => by rw [← hAe]; exact Or.inr h
  have hS : va_S A s.heap s.heap [] := va_S.rf
  have hP : va_P (dC, dI) vwCl [(d0, .inr (8, [.ref d1, .ref d2, .ref d3, .ref d4, .ref d5, .int 0, .int 0, .int 0, .int 0, .int 0])), (d4, .inr (0, [.ref b1, .ref b2, .ref b3, .ref b4, .int 0, .int 0, .int 0, .int 0, .int 0, .int 0]))] s.heap := hP
  have hinX8 : ∀ w ∈ wsX80, w ∈ wsX8_sum := fun _ h => List.mem_cons_of_mem _ (List.mem_append_left _ (List.mem_append_right _ h))
  have hinX0 : ∀ w ∈ wsX00, w ∈ wsX8_sum := fun _ h => List.mem_cons_of_mem _ (List.mem_append_right _ h)
  have hl := lv_entry ([.ref d0, .int w]) (n := 2) (Nat.le_of_ble_eq_true rfl)
  rw [lg_entry_eq]
  generalize (lg_sl ([.ref d0, .int w]) ++ List.replicate (2 - (lg_sl ([.ref d0, .int w])).length) Slot.unset).toArray = ls at hl ⊢
  have hl : lv_has ls 2 [(0, .ref d0), (1, .int w)] := hl
  refine lv_iload_n hx hb dX8_sum_0 rfl (lv_at hl 1 rfl) ?_
  rcases k_sw8 w with hsw | rfl | rfl | rfl | rfl | rfl | rfl | rfl | rfl | rfl
  · refine lv_tableOut (tgt := 115) hx hb dX8_sum_1 hsw (by decide) ?_
    refine lv_iconst (v := (-1)) hx hb dX8_sum_115 (by decide) ?_
    exact W.iret (v := (-1)) hx hb hr (fun t ht hW => ⟨⟨(-1), (), rfl, (if_pos hsw).symm, trivial⟩, hS.F ht⟩) hS.2.2 dX8_sum_116
  · refine lv_tableIn (off := 51) (tgt := 52) hx hb dX8_sum_1 (by decide) (by decide) (by decide) (by decide) ?_
    refine lv_aload_n hx hb dX8_sum_52 rfl (lv_at hl 0 rfl) ?_
    refine va_get (D := (dC, dI)) (ci := 8) (v := .ref d4) (C := RX8) (T := TX8) (N := 10) hx hb hts hinX8 hown hK hP 0 rfl rfl 3 (by decide) (hts (.fieldLink RX8 33 "CensusDesk" "book" "LCensusDesk$Book;") (List.mem_of_getElem? (i := 1) rfl)) (fun _ h9 => h9) rfl dX8_sum_53 ?_
    refine va_getN (D := (dC, dI)) (ci := 0) (v := .int 0) (C := RX0) (T := TX0) (N := 10) hx hb hts hinX0 hown hK hP 1 rfl rfl 4 (by decide) (va_Nw.use rfl (hN.1 ("CensusDesk", 122, "CensusDesk$Book", "households", "I") (List.mem_of_getElem? (i := 4) rfl))) (fun _ h9 => h9) rfl dX8_sum_56 ?_
    exact W.iret (v := 0) hx hb hr (fun t ht hW => ⟨⟨0, (), rfl, (by decide), trivial⟩, hS.F ht⟩) hS.2.2 dX8_sum_59
  · refine lv_tableIn (off := 59) (tgt := 60) hx hb dX8_sum_1 (by decide) (by decide) (by decide) (by decide) ?_
    refine lv_aload_n hx hb dX8_sum_60 rfl (lv_at hl 0 rfl) ?_
    refine va_get (D := (dC, dI)) (ci := 8) (v := .ref d4) (C := RX8) (T := TX8) (N := 10) hx hb hts hinX8 hown hK hP 0 rfl rfl 3 (by decide) (hts (.fieldLink RX8 33 "CensusDesk" "book" "LCensusDesk$Book;") (List.mem_of_getElem? (i := 1) rfl)) (fun _ h9 => h9) rfl dX8_sum_61 ?_
    refine va_getN (D := (dC, dI)) (ci := 0) (v := .int 0) (C := RX0) (T := TX0) (N := 10) hx hb hts hinX0 hown hK hP 1 rfl rfl 5 (by decide) (va_Nw.use rfl (hN.1 ("CensusDesk", 125, "CensusDesk$Book", "persons", "I") (List.mem_of_getElem? (i := 5) rfl))) (fun _ h9 => h9) rfl dX8_sum_64 ?_
    exact W.iret (v := 0) hx hb hr (fun t ht hW => ⟨⟨0, (), rfl, (by decide), trivial⟩, hS.F ht⟩) hS.2.2 dX8_sum_67
  · refine lv_tableIn (off := 67) (tgt := 68) hx hb dX8_sum_1 (by decide) (by decide) (by decide) (by decide) ?_
    refine lv_aload_n hx hb dX8_sum_68 rfl (lv_at hl 0 rfl) ?_
    refine va_get (D := (dC, dI)) (ci := 8) (v := .ref d4) (C := RX8) (T := TX8) (N := 10) hx hb hts hinX8 hown hK hP 0 rfl rfl 3 (by decide) (hts (.fieldLink RX8 33 "CensusDesk" "book" "LCensusDesk$Book;") (List.mem_of_getElem? (i := 1) rfl)) (fun _ h9 => h9) rfl dX8_sum_69 ?_
    refine va_getN (D := (dC, dI)) (ci := 0) (v := .int 0) (C := RX0) (T := TX0) (N := 10) hx hb hts hinX0 hown hK hP 1 rfl rfl 6 (by decide) (va_Nw.use rfl (hN.1 ("CensusDesk", 128, "CensusDesk$Book", "men", "I") (List.mem_of_getElem? (i := 6) rfl))) (fun _ h9 => h9) rfl dX8_sum_72 ?_
    exact W.iret (v := 0) hx hb hr (fun t ht hW => ⟨⟨0, (), rfl, (by decide), trivial⟩, hS.F ht⟩) hS.2.2 dX8_sum_75
  · refine lv_tableIn (off := 75) (tgt := 76) hx hb dX8_sum_1 (by decide) (by decide) (by decide) (by decide) ?_
    refine lv_aload_n hx hb dX8_sum_76 rfl (lv_at hl 0 rfl) ?_
    refine va_get (D := (dC, dI)) (ci := 8) (v := .ref d4) (C := RX8) (T := TX8) (N := 10) hx hb hts hinX8 hown hK hP 0 rfl rfl 3 (by decide) (hts (.fieldLink RX8 33 "CensusDesk" "book" "LCensusDesk$Book;") (List.mem_of_getElem? (i := 1) rfl)) (fun _ h9 => h9) rfl dX8_sum_77 ?_
    refine va_getN (D := (dC, dI)) (ci := 0) (v := .int 0) (C := RX0) (T := TX0) (N := 10) hx hb hts hinX0 hown hK hP 1 rfl rfl 7 (by decide) (va_Nw.use rfl (hN.1 ("CensusDesk", 131, "CensusDesk$Book", "women", "I") (List.mem_of_getElem? (i := 7) rfl))) (fun _ h9 => h9) rfl dX8_sum_80 ?_
    exact W.iret (v := 0) hx hb hr (fun t ht hW => ⟨⟨0, (), rfl, (by decide), trivial⟩, hS.F ht⟩) hS.2.2 dX8_sum_83
  · refine lv_tableIn (off := 83) (tgt := 84) hx hb dX8_sum_1 (by decide) (by decide) (by decide) (by decide) ?_
    refine lv_aload_n hx hb dX8_sum_84 rfl (lv_at hl 0 rfl) ?_
    refine va_get (D := (dC, dI)) (ci := 8) (v := .ref d4) (C := RX8) (T := TX8) (N := 10) hx hb hts hinX8 hown hK hP 0 rfl rfl 3 (by decide) (hts (.fieldLink RX8 33 "CensusDesk" "book" "LCensusDesk$Book;") (List.mem_of_getElem? (i := 1) rfl)) (fun _ h9 => h9) rfl dX8_sum_85 ?_
    refine va_getN (D := (dC, dI)) (ci := 0) (v := .int 0) (C := RX0) (T := TX0) (N := 10) hx hb hts hinX0 hown hK hP 1 rfl rfl 8 (by decide) (va_Nw.use rfl (hN.1 ("CensusDesk", 134, "CensusDesk$Book", "ageSum", "I") (List.mem_of_getElem? (i := 8) rfl))) (fun _ h9 => h9) rfl dX8_sum_88 ?_
    exact W.iret (v := 0) hx hb hr (fun t ht hW => ⟨⟨0, (), rfl, (by decide), trivial⟩, hS.F ht⟩) hS.2.2 dX8_sum_91
  · refine lv_tableIn (off := 91) (tgt := 92) hx hb dX8_sum_1 (by decide) (by decide) (by decide) (by decide) ?_
    refine lv_aload_n hx hb dX8_sum_92 rfl (lv_at hl 0 rfl) ?_
    refine va_get (D := (dC, dI)) (ci := 8) (v := .ref d4) (C := RX8) (T := TX8) (N := 10) hx hb hts hinX8 hown hK hP 0 rfl rfl 3 (by decide) (hts (.fieldLink RX8 33 "CensusDesk" "book" "LCensusDesk$Book;") (List.mem_of_getElem? (i := 1) rfl)) (fun _ h9 => h9) rfl dX8_sum_93 ?_
    refine va_getN (D := (dC, dI)) (ci := 0) (v := .int 0) (C := RX0) (T := TX0) (N := 10) hx hb hts hinX0 hown hK hP 1 rfl rfl 9 (by decide) (va_Nw.use rfl (hN.1 ("CensusDesk", 137, "CensusDesk$Book", "agesMissing", "I") (List.mem_of_getElem? (i := 9) rfl))) (fun _ h9 => h9) rfl dX8_sum_96 ?_
    exact W.iret (v := 0) hx hb hr (fun t ht hW => ⟨⟨0, (), rfl, (by decide), trivial⟩, hS.F ht⟩) hS.2.2 dX8_sum_99
  · refine lv_tableIn (off := 99) (tgt := 100) hx hb dX8_sum_1 (by decide) (by decide) (by decide) (by decide) ?_
    refine lv_aload_n hx hb dX8_sum_100 rfl (lv_at hl 0 rfl) ?_
    refine va_get (D := (dC, dI)) (ci := 8) (v := .int 0) (C := RX8) (T := TX8) (N := 10) hx hb hts hinX8 hown hK hP 0 rfl rfl 7 (by decide) (hts (.fieldLink RX8 140 "CensusDesk" "booked" "I") (List.mem_of_getElem? (i := 2) rfl)) (fun _ h9 => h9) rfl dX8_sum_101 ?_
    exact W.iret (v := 0) hx hb hr (fun t ht hW => ⟨⟨0, (), rfl, (by decide), trivial⟩, hS.F ht⟩) hS.2.2 dX8_sum_104
  · refine lv_tableIn (off := 104) (tgt := 105) hx hb dX8_sum_1 (by decide) (by decide) (by decide) (by decide) ?_
    refine lv_aload_n hx hb dX8_sum_105 rfl (lv_at hl 0 rfl) ?_
    refine va_get (D := (dC, dI)) (ci := 8) (v := .int 0) (C := RX8) (T := TX8) (N := 10) hx hb hts hinX8 hown hK hP 0 rfl rfl 8 (by decide) (hts (.fieldLink RX8 87 "CensusDesk" "refused" "I") (List.mem_of_getElem? (i := 3) rfl)) (fun _ h9 => h9) rfl dX8_sum_106 ?_
    exact W.iret (v := 0) hx hb hr (fun t ht hW => ⟨⟨0, (), rfl, (by decide), trivial⟩, hS.F ht⟩) hS.2.2 dX8_sum_109
  · refine lv_tableIn (off := 109) (tgt := 110) hx hb dX8_sum_1 (by decide) (by decide) (by decide) (by decide) ?_
    refine lv_aload_n hx hb dX8_sum_110 rfl (lv_at hl 0 rfl) ?_
    refine va_get (D := (dC, dI)) (ci := 8) (v := .int 0) (C := RX8) (T := TX8) (N := 10) hx hb hts hinX8 hown hK hP 0 rfl rfl 9 (by decide) (hts (.fieldLink RX8 143 "CensusDesk" "withoutRoom" "I") (List.mem_of_getElem? (i := 4) rfl)) (fun _ h9 => h9) rfl dX8_sum_111 ?_
    exact W.iret (v := 0) hx hb hr (fun t ht hW => ⟨⟨0, (), rfl, (by decide), trivial⟩, hS.F ht⟩) hS.2.2 dX8_sum_114
set_option maxHeartbeats 1000000 in
set_option maxRecDepth 100000 in
theorem c_X8_house (l : Launch) (dC : Nat → ClassId) (dI : Nat → Nat → Nat) (d0 d1 d2 d3 d4 d5 : Nat) (b1 b2 b3 b4 : Nat) (i w : Int32) (sz : Nat)  : Met l yX8_house wsX8_house ({ frames := 1, cells := 0, slots := 0, locals := 22 }) (va_Pc [.ref d0, .int i, .int w] (kPre dC dI [] [(d0, .inr (8, [.ref d1, .ref d2, .ref d3, .ref d4, .ref d5, .int 0, .int 0, .int 0, .int 0, .int 0])), (d4, .inr (0, [.ref b1, .ref b2, .ref b3, .ref b4, .int 0, .int 0, .int 0, .int 0, .int 0, .int 0]))] sz)) (va_Qi (fun (r : Int32) (_ : Unit) => r = -1) (fun (_ : Unit) (_ : State) => True) (va_A [(d0, .inr (8, [.ref d1, .ref d2, .ref d3, .ref d4, .ref d5, .int 0, .int 0, .int 0, .int 0, .int 0])), (d4, .inr (0, [.ref b1, .ref b2, .ref b3, .ref b4, .int 0, .int 0, .int 0, .int 0, .int 0, .int 0]))] sz)) 0 0 (va_A [(d0, .inr (8, [.ref d1, .ref d2, .ref d3, .ref d4, .ref d5, .int 0, .int 0, .int 0, .int 0, .int 0])), (d4, .inr (0, [.ref b1, .ref b2, .ref b3, .ref b4, .int 0, .int 0, .int 0, .int 0, .int 0, .int 0]))] sz) := by
  refine Met.ofW (cc := cX8_house) (maxL := 3) (ret := (some .int)) (by decide) rfl ?_
  intro p e s m args below meth c s₁ B hml hv
  obtain ⟨rfl, hsz, hP, hK, hD0, hN⟩ := hv
  have hx := B.exec
  have hb := B.bytes
  have hr := B.returns
  have hts := atoms_spec (ws := wsX8_house) B.pre
  have hown : s.vm.findClass RX8 = some m.cls := findClass_of_methodNamed B.named
  have hlocks := B.notSynchronized
  subst hsz
  have hD := hD0.self (sz := s.heap.size)
  generalize hAe : va_A [(d0, .inr (8, [.ref d1, .ref d2, .ref d3, .ref d4, .ref d5, .int 0, .int 0, .int 0, .int 0, .int 0])), (d4, .inr (0, [.ref b1, .ref b2, .ref b3, .ref b4, .int 0, .int 0, .int 0, .int 0, .int 0, .int 0]))] s.heap.size = A at hD ⊢
  have hA : ∀ q : Nat, s.heap.size ≤ q → A q := fun q h => by rw [← hAe]; exact Or.inr h
  have hS : va_S A s.heap s.heap [] := va_S.rf
  have hP : va_P (dC, dI) vwCl [(d0, .inr (8, [.ref d1, .ref d2, .ref d3, .ref d4, .ref d5, .int 0, .int 0, .int 0, .int 0, .int 0])), (d4, .inr (0, [.ref b1, .ref b2, .ref b3, .ref b4, .int 0, .int 0, .int 0, .int 0, .int 0, .int 0]))] s.heap := hP
  have hinX8 : ∀ w ∈ wsX80, w ∈ wsX8_house := fun _ h => List.mem_cons_of_mem _ (List.mem_append_left _ (List.mem_append_right _ h))
  have hinX0 : ∀ w ∈ wsX00, w ∈ wsX8_house := fun _ h => List.mem_cons_of_mem _ (List.mem_append_right _ h)
  have hl := lv_entry ([.ref d0, .int i, .int w]) (n := 3) (Nat.le_of_ble_eq_true rfl)
  rw [lg_entry_eq]
  generalize (lg_sl ([.ref d0, .int i, .int w]) ++ List.replicate (3 - (lg_sl ([.ref d0, .int i, .int w])).length) Slot.unset).toArray = ls at hl ⊢
  have hl : lv_has ls 3 [(0, .ref d0), (1, .int i), (2, .int w)] := hl
  refine lv_aload_n hx hb dX8_house_0 rfl (lv_at hl 0 rfl) ?_
  refine va_get (D := (dC, dI)) (ci := 8) (v := .ref d4) (C := RX8) (T := TX8) (N := 10) hx hb hts hinX8 hown hK hP 0 rfl rfl 3 (by decide) (hts (.fieldLink RX8 33 "CensusDesk" "book" "LCensusDesk$Book;") (List.mem_of_getElem? (i := 1) rfl)) (fun _ h9 => h9) rfl dX8_house_1 ?_
  refine lv_iload_n hx hb dX8_house_4 rfl (lv_at hl 1 rfl) ?_
  refine lv_iload_n hx hb dX8_house_5 rfl (lv_at hl 2 rfl) ?_
  have hPc := hP.sub (ws' := [(d4, .inr (0, [.ref b1, .ref b2, .ref b3, .ref b4, .int 0, .int 0, .int 0, .int 0, .int 0, .int 0]))]) [1] rfl
  have hDc := hD.sub (ws' := [(d4, .inr (0, [.ref b1, .ref b2, .ref b3, .ref b4, .int 0, .int 0, .int 0, .int 0, .int 0, .int 0]))]) [1] (by decide) rfl
  have hKc := hK.sub (tys' := []) [] rfl
  have hFc := va_free (wc := [(d4, .inr (0, [.ref b1, .ref b2, .ref b3, .ref b4, .int 0, .int 0, .int 0, .int 0, .int 0, .int 0]))]) hD hS hA [1] rfl
  refine va_calli (va_runV (As := [.int i, .int w]) (rest := []) ⟨hx, hb, hml, hown, hts⟩ (c_X0_tellHousehold l dC dI d4 b1 b2 b3 b4 i w _ ) (cwV 2 hts gX8_house_X0_tellHousehold rfl rfl rfl (by decide +kernel) ⟨Nat.le_of_ble_eq_true rfl, Nat.le_of_ble_eq_true rfl⟩) (kPreV hPc hKc hDc hN (va_recv hKc hPc (ci := 0) (q0 := 0) rfl rfl)) rfl rfl hl.1 rfl (lv_room (Nat.le_of_ble_eq_true rfl)) dX8_house_6 ⟨(by decide +kernel), (by decide +kernel)⟩) hS (fun q _ h => hFc q h) hFc (fun r_1 u t H1 locs ht hvm hw hB hz1 hk1 hS => ?_)
  obtain ⟨hP, hD, hK⟩ := kJoin (wc := [(d4, .inr (0, [.ref b1, .ref b2, .ref b3, .ref b4, .int 0, .int 0, .int 0, .int 0, .int 0, .int 0]))]) (wr := [(d0, .inr (8, [.ref d1, .ref d2, .ref d3, .ref d4, .ref d5, .int 0, .int 0, .int 0, .int 0, .int 0]))]) (w1 := [(d4, .inr (0, [.ref b1, .ref b2, .ref b3, .ref b4, .int 0, .int 0, .int 0, .int 0, .int 0, .int 0]))]) hP hD hK [1] [0] rfl rfl (by decide) (by decide) hk1 hFc ht hvm hB
  have hK : va_K (dC, dI) vwCl [] s := hK
  generalize H1 = H at hP hS ⊢
  have hP : va_P (dC, dI) vwCl [(d0, .inr (8, [.ref d1, .ref d2, .ref d3, .ref d4, .ref d5, .int 0, .int 0, .int 0, .int 0, .int 0])), (d4, .inr (0, [.ref b1, .ref b2, .ref b3, .ref b4, .int 0, .int 0, .int 0, .int 0, .int 0, .int 0]))] H := hP
  have hD : va_D A [(d0, .inr (8, [.ref d1, .ref d2, .ref d3, .ref d4, .ref d5, .int 0, .int 0, .int 0, .int 0, .int 0])), (d4, .inr (0, [.ref b1, .ref b2, .ref b3, .ref b4, .int 0, .int 0, .int 0, .int 0, .int 0, .int 0]))] := hD
  try dsimp only at hw
  subst hw
  exact W.iret (v := (-1)) hx hb hr (fun t ht hW => ⟨⟨(-1), (), rfl, rfl, trivial⟩, hS.F ht⟩) hS.2.2 dX8_house_9
set_option maxHeartbeats 1000000 in
set_option maxRecDepth 100000 in
theorem c_X8_person (l : Launch) (dC : Nat → ClassId) (dI : Nat → Nat → Nat) (d0 d1 d2 d3 d4 d5 : Nat) (b1 b2 b3 b4 : Nat) (i w : Int32) (sz : Nat)  : Met l yX8_person wsX8_person ({ frames := 1, cells := 0, slots := 0, locals := 22 }) (va_Pc [.ref d0, .int i, .int w] (kPre dC dI [] [(d0, .inr (8, [.ref d1, .ref d2, .ref d3, .ref d4, .ref d5, .int 0, .int 0, .int 0, .int 0, .int 0])), (d4, .inr (0, [.ref b1, .ref b2, .ref b3, .ref b4, .int 0, .int 0, .int 0, .int 0, .int 0, .int 0]))] sz)) (va_Qi (fun (r : Int32) (_ : Unit) => r = -1) (fun (_ : Unit) (_ : State) => True) (va_A [(d0, .inr (8, [.ref d1, .ref d2, .ref d3, .ref d4, .ref d5, .int 0, .int 0, .int 0, .int 0, .int 0])), (d4, .inr (0, [.ref b1, .ref b2, .ref b3, .ref b4, .int 0, .int 0, .int 0, .int 0, .int 0, .int 0]))] sz)) 0 0 (va_A [(d0, .inr (8, [.ref d1, .ref d2, .ref d3, .ref d4, .ref d5, .int 0, .int 0, .int 0, .int 0, .int 0])), (d4, .inr (0, [.ref b1, .ref b2, .ref b3, .ref b4, .int 0, .int 0, .int 0, .int 0, .int 0, .int 0]))] sz) := by
  refine Met.ofW (cc := cX8_person) (maxL := 3) (ret := (some .int)) (by decide) rfl ?_
  intro p e s m args below meth c s₁ B hml hv
  obtain ⟨rfl, hsz, hP, hK, hD0, hN⟩ := hv
  have hx := B.exec
  have hb := B.bytes
  have hr := B.returns
  have hts := atoms_spec (ws := wsX8_person) B.pre
  have hown : s.vm.findClass RX8 = some m.cls := findClass_of_methodNamed B.named
  have hlocks := B.notSynchronized
  subst hsz
  have hD := hD0.self (sz := s.heap.size)
  generalize hAe : va_A [(d0, .inr (8, [.ref d1, .ref d2, .ref d3, .ref d4, .ref d5, .int 0, .int 0, .int 0, .int 0, .int 0])), (d4, .inr (0, [.ref b1, .ref b2, .ref b3, .ref b4, .int 0, .int 0, .int 0, .int 0, .int 0, .int 0]))] s.heap.size = A at hD ⊢
  have hA : ∀ q : Nat, s.heap.size ≤ q → A q := fun q h => by rw [← hAe]; exact Or.inr h
  have hS : va_S A s.heap s.heap [] := va_S.rf
  have hP : va_P (dC, dI) vwCl [(d0, .inr (8, [.ref d1, .ref d2, .ref d3, .ref d4, .ref d5, .int 0, .int 0, .int 0, .int 0, .int 0])), (d4, .inr (0, [.ref b1, .ref b2, .ref b3, .ref b4, .int 0, .int 0, .int 0, .int 0, .int 0, .int 0]))] s.heap := hP
  have hinX8 : ∀ w ∈ wsX80, w ∈ wsX8_person := fun _ h => List.mem_cons_of_mem _ (List.mem_append_left _ (List.mem_append_right _ h))
  have hinX0 : ∀ w ∈ wsX00, w ∈ wsX8_person := fun _ h => List.mem_cons_of_mem _ (List.mem_append_right _ h)
  have hl := lv_entry ([.ref d0, .int i, .int w]) (n := 3) (Nat.le_of_ble_eq_true rfl)
  rw [lg_entry_eq]
  generalize (lg_sl ([.ref d0, .int i, .int w]) ++ List.replicate (3 - (lg_sl ([.ref d0, .int i, .int w])).length) Slot.unset).toArray = ls at hl ⊢
  have hl : lv_has ls 3 [(0, .ref d0), (1, .int i), (2, .int w)] := hl
  refine lv_aload_n hx hb dX8_person_0 rfl (lv_at hl 0 rfl) ?_
  refine va_get (D := (dC, dI)) (ci := 8) (v := .ref d4) (C := RX8) (T := TX8) (N := 10) hx hb hts hinX8 hown hK hP 0 rfl rfl 3 (by decide) (hts (.fieldLink RX8 33 "CensusDesk" "book" "LCensusDesk$Book;") (List.mem_of_getElem? (i := 1) rfl)) (fun _ h9 => h9) rfl dX8_person_1 ?_
  refine lv_iload_n hx hb dX8_person_4 rfl (lv_at hl 1 rfl) ?_
  refine lv_iload_n hx hb dX8_person_5 rfl (lv_at hl 2 rfl) ?_
  have hPc := hP.sub (ws' := [(d4, .inr (0, [.ref b1, .ref b2, .ref b3, .ref b4, .int 0, .int 0, .int 0, .int 0, .int 0, .int 0]))]) [1] rfl
  have hDc := hD.sub (ws' := [(d4, .inr (0, [.ref b1, .ref b2, .ref b3, .ref b4, .int 0, .int 0, .int 0, .int 0, .int 0, .int 0]))]) [1] (by decide) rfl
  have hKc := hK.sub (tys' := []) [] rfl
  have hFc := va_free (wc := [(d4, .inr (0, [.ref b1, .ref b2, .ref b3, .ref b4, .int 0, .int 0, .int 0, .int 0, .int 0, .int 0]))]) hD hS hA [1] rfl
  refine va_calli (va_runV (As := [.int i, .int w]) (rest := []) ⟨hx, hb, hml, hown, hts⟩ (c_X0_tellPerson l dC dI d4 b1 b2 b3 b4 i w _ ) (cwV 2 hts gX8_person_X0_tellPerson rfl rfl rfl (by decide +kernel) ⟨Nat.le_of_ble_eq_true rfl, Nat.le_of_ble_eq_true rfl⟩) (kPreV hPc hKc hDc hN (va_recv hKc hPc (ci := 0) (q0 := 0) rfl rfl)) rfl rfl hl.1 rfl (lv_room (Nat.le_of_ble_eq_true rfl)) dX8_person_6 ⟨(by decide +kernel), (by decide +kernel)⟩) hS (fun q _ h => hFc q h) hFc (fun r_1 u t H1 locs ht hvm hw hB hz1 hk1 hS => ?_)
  obtain ⟨hP, hD, hK⟩ := kJoin (wc := [(d4, .inr (0, [.ref b1, .ref b2, .ref b3, .ref b4, .int 0, .int 0, .int 0, .int 0, .int 0, .int 0]))]) (wr := [(d0, .inr (8, [.ref d1, .ref d2, .ref d3, .ref d4, .ref d5, .int 0, .int 0, .int 0, .int 0, .int 0]))]) (w1 := [(d4, .inr (0, [.ref b1, .ref b2, .ref b3, .ref b4, .int 0, .int 0, .int 0, .int 0, .int 0, .int 0]))]) hP hD hK [1] [0] rfl rfl (by decide) (by decide) hk1 hFc ht hvm hB
  have hK : va_K (dC, dI) vwCl [] s := hK
  generalize H1 = H at hP hS ⊢
  have hP : va_P (dC, dI) vwCl [(d0, .inr (8, [.ref d1, .ref d2, .ref d3, .ref d4, .ref d5, .int 0, .int 0, .int 0, .int 0, .int 0])), (d4, .inr (0, [.ref b1, .ref b2, .ref b3, .ref b4, .int 0, .int 0, .int 0, .int 0, .int 0, .int 0]))] H := hP
  have hD : va_D A [(d0, .inr (8, [.ref d1, .ref d2, .ref d3, .ref d4, .ref d5, .int 0, .int 0, .int 0, .int 0, .int 0])), (d4, .inr (0, [.ref b1, .ref b2, .ref b3, .ref b4, .int 0, .int 0, .int 0, .int 0, .int 0, .int 0]))] := hD
  try dsimp only at hw
  subst hw
  exact W.iret (v := (-1)) hx hb hr (fun t ht hW => ⟨⟨(-1), (), rfl, rfl, trivial⟩, hS.F ht⟩) hS.2.2 dX8_person_9
set_option maxHeartbeats 1000000 in
set_option maxRecDepth 100000 in
theorem c_X8_sign (l : Launch) (dC : Nat → ClassId) (dI : Nat → Nat → Nat) (d0 d1 d2 d3 d4 d5 : Nat) (b1 b2 b3 b4 : Nat) (i w : Int32) (sz : Nat)  : Met l yX8_sign wsX8_sign ({ frames := 2, cells := 0, slots := 0, locals := 44 }) (va_Pc [.ref d0, .int i, .int w] (kPre dC dI [] [(d0, .inr (8, [.ref d1, .ref d2, .ref d3, .ref d4, .ref d5, .int 0, .int 0, .int 0, .int 0, .int 0])), (d4, .inr (0, [.ref b1, .ref b2, .ref b3, .ref b4, .int 0, .int 0, .int 0, .int 0, .int 0, .int 0]))] sz)) (va_Qi (fun (r : Int32) (_ : Unit) => r = 0) (fun (_ : Unit) (_ : State) => True) (va_A [(d0, .inr (8, [.ref d1, .ref d2, .ref d3, .ref d4, .ref d5, .int 0, .int 0, .int 0, .int 0, .int 0])), (d4, .inr (0, [.ref b1, .ref b2, .ref b3, .ref b4, .int 0, .int 0, .int 0, .int 0, .int 0, .int 0]))] sz)) 0 0 (va_A [(d0, .inr (8, [.ref d1, .ref d2, .ref d3, .ref d4, .ref d5, .int 0, .int 0, .int 0, .int 0, .int 0])), (d4, .inr (0, [.ref b1, .ref b2, .ref b3, .ref b4, .int 0, .int 0, .int 0, .int 0, .int 0, .int 0]))] sz) := by
  refine Met.ofW (cc := cX8_sign) (maxL := 3) (ret := (some .int)) (by decide) rfl ?_
  intro p e s m args below meth c s₁ B hml hv
  obtain ⟨rfl, hsz, hP, hK, hD0, hN⟩ := hv
  have hx := B.exec
  have hb := B.bytes
  have hr := B.returns
  have hts := atoms_spec (ws := wsX8_sign) B.pre
  have hown : s.vm.findClass RX8 = some m.cls := findClass_of_methodNamed B.named
  have hlocks := B.notSynchronized
  subst hsz
  have hD := hD0.self (sz := s.heap.size)
  generalize hAe : va_A [(d0, .inr (8, [.ref d1, .ref d2, .ref d3, .ref d4, .ref d5, .int 0, .int 0, .int 0, .int 0, .int 0])), (d4, .inr (0, [.ref b1, .ref b2, .ref b3, .ref b4, .int 0, .int 0, .int 0, .int 0, .int 0, .int 0]))] s.heap.size = A at hD ⊢
  have hA : ∀ q : Nat, s.heap.size ≤ q → A q := fun q h => by rw [← hAe]; exact Or.inr h
  have hS : va_S A s.heap s.heap [] := va_S.rf
  have hP : va_P (dC, dI) vwCl [(d0, .inr (8, [.ref d1, .ref d2, .ref d3, .ref d4, .ref d5, .int 0, .int 0, .int 0, .int 0, .int 0])), (d4, .inr (0, [.ref b1, .ref b2, .ref b3, .ref b4, .int 0, .int 0, .int 0, .int 0, .int 0, .int 0]))] s.heap := hP
  have hinX8 : ∀ w ∈ wsX80, w ∈ wsX8_sign := fun _ h => List.mem_cons_of_mem _ (List.mem_append_left _ (List.mem_append_right _ h))
  have hinX0 : ∀ w ∈ wsX00, w ∈ wsX8_sign := fun _ h => List.mem_cons_of_mem _ (List.mem_append_right _ h)
  have hl := lv_entry ([.ref d0, .int i, .int w]) (n := 3) (Nat.le_of_ble_eq_true rfl)
  rw [lg_entry_eq]
  generalize (lg_sl ([.ref d0, .int i, .int w]) ++ List.replicate (3 - (lg_sl ([.ref d0, .int i, .int w])).length) Slot.unset).toArray = ls at hl ⊢
  have hl : lv_has ls 3 [(0, .ref d0), (1, .int i), (2, .int w)] := hl
  refine lv_aload_n hx hb dX8_sign_0 rfl (lv_at hl 0 rfl) ?_
  refine va_get (D := (dC, dI)) (ci := 8) (v := .ref d4) (C := RX8) (T := TX8) (N := 10) hx hb hts hinX8 hown hK hP 0 rfl rfl 3 (by decide) (hts (.fieldLink RX8 33 "CensusDesk" "book" "LCensusDesk$Book;") (List.mem_of_getElem? (i := 1) rfl)) (fun _ h9 => h9) rfl dX8_sign_1 ?_
  refine lv_iload_n hx hb dX8_sign_4 rfl (lv_at hl 1 rfl) ?_
  refine lv_iload_n hx hb dX8_sign_5 rfl (lv_at hl 2 rfl) ?_
  have hPc := hP.sub (ws' := [(d4, .inr (0, [.ref b1, .ref b2, .ref b3, .ref b4, .int 0, .int 0, .int 0, .int 0, .int 0, .int 0]))]) [1] rfl
  have hDc := hD.sub (ws' := [(d4, .inr (0, [.ref b1, .ref b2, .ref b3, .ref b4, .int 0, .int 0, .int 0, .int 0, .int 0, .int 0]))]) [1] (by decide) rfl
  have hKc := hK.sub (tys' := []) [] rfl
  have hFc := va_free (wc := [(d4, .inr (0, [.ref b1, .ref b2, .ref b3, .ref b4, .int 0, .int 0, .int 0, .int 0, .int 0, .int 0]))]) hD hS hA [1] rfl
  refine va_calli (va_runV (As := [.int i, .int w]) (rest := []) ⟨hx, hb, hml, hown, hts⟩ (c_X0_signOf l dC dI d4 b1 b2 b3 b4 i w _ ) (cwV 2 hts gX8_sign_X0_signOf rfl rfl rfl (by decide +kernel) ⟨Nat.le_of_ble_eq_true rfl, Nat.le_of_ble_eq_true rfl⟩) (kPreV hPc hKc hDc hN (va_recv hKc hPc (ci := 0) (q0 := 0) rfl rfl)) rfl rfl hl.1 rfl (lv_room (Nat.le_of_ble_eq_true rfl)) dX8_sign_6 ⟨(by decide +kernel), (by decide +kernel)⟩) hS (fun q _ h => hFc q h) hFc (fun r_1 u t H1 locs ht hvm hw hB hz1 hk1 hS => ?_)
  obtain ⟨hP, hD⟩ := kRest (wc := [(d4, .inr (0, [.ref b1, .ref b2, .ref b3, .ref b4, .int 0, .int 0, .int 0, .int 0, .int 0, .int 0]))]) (wr := [(d0, .inr (8, [.ref d1, .ref d2, .ref d3, .ref d4, .ref d5, .int 0, .int 0, .int 0, .int 0, .int 0]))]) hP hD [1] [0] rfl rfl (by decide) (by decide) hk1 hFc
  have hK := hK.sub (tys' := []) [] rfl
  generalize H1 = H at hP hS ⊢
  have hP : va_P (dC, dI) vwCl [(d0, .inr (8, [.ref d1, .ref d2, .ref d3, .ref d4, .ref d5, .int 0, .int 0, .int 0, .int 0, .int 0]))] H := hP
  have hD : va_D A [(d0, .inr (8, [.ref d1, .ref d2, .ref d3, .ref d4, .ref d5, .int 0, .int 0, .int 0, .int 0, .int 0]))] := hD
  try dsimp only at hw
  subst hw
  exact W.iret (v := 0) hx hb hr (fun t ht hW => ⟨⟨0, (), rfl, rfl, trivial⟩, hS.F ht⟩) hS.2.2 dX8_sign_9
set_option maxHeartbeats 1000000 in
set_option maxRecDepth 100000 in
theorem c_X8_named (l : Launch) (dC : Nat → ClassId) (dI : Nat → Nat → Nat) (d0 d1 d2 d3 d4 d5 : Nat) (b1 b2 b3 b4 : Nat) (kb : ClassId) (f : Nat → Int32) (wa wb wc wd : Int32) (sz : Nat)  : Met l yX8_named wsX8_named ({ frames := 2, cells := 0, slots := 0, locals := 51 }) (va_Pc [.ref d0, .int wa, .int wb, .int wc, .int wd] (kPre dC dI [(kb, .int)] [(d0, .inr (8, [.ref d1, .ref d2, .ref d3, .ref d4, .ref d5, .int 0, .int 0, .int 0, .int 0, .int 0])), (d4, .inr (0, [.ref b1, .ref b2, .ref b3, .ref b4, .int 0, .int 0, .int 0, .int 0, .int 0, .int 0])), (b4, .inl (kb, 16, .inl f))] sz)) (va_Qi (fun (r : Int32) (_ : Unit) => r = 0) (fun (_ : Unit) (_ : State) => True) (va_A [(d0, .inr (8, [.ref d1, .ref d2, .ref d3, .ref d4, .ref d5, .int 0, .int 0, .int 0, .int 0, .int 0])), (d4, .inr (0, [.ref b1, .ref b2, .ref b3, .ref b4, .int 0, .int 0, .int 0, .int 0, .int 0, .int 0])), (b4, .inl (kb, 16, .inl f))] sz)) 0 0 (va_A [(d0, .inr (8, [.ref d1, .ref d2, .ref d3, .ref d4, .ref d5, .int 0, .int 0, .int 0, .int 0, .int 0])), (d4, .inr (0, [.ref b1, .ref b2, .ref b3, .ref b4, .int 0, .int 0, .int 0, .int 0, .int 0, .int 0])), (b4, .inl (kb, 16, .inl f))] sz) := by
  refine Met.ofW (cc := cX8_named) (maxL := 5) (ret := (some .int)) (by decide) rfl ?_
  intro p e s m args below meth c s₁ B hml hv
  obtain ⟨rfl, hsz, hP, hK, hD0, hN⟩ := hv
  have hx := B.exec
  have hb := B.bytes
  have hr := B.returns
  have hts := atoms_spec (ws := wsX8_named) B.pre
  have hown : s.vm.findClass RX8 = some m.cls := findClass_of_methodNamed B.named
  have hlocks := B.notSynchronized
  subst hsz
  have hD := hD0.self (sz := s.heap.size)
  generalize hAe : va_A [(d0, .inr (8, [.ref d1, .ref d2, .ref d3, .ref d4, .ref d5, .int 0, .int 0, .int 0, .int 0, .int 0])), (d4, .inr (0, [.ref b1, .ref b2, .ref b3, .ref b4, .int 0, .int 0, .int 0, .int 0, .int 0, .int 0])), (b4, .inl (kb, 16, .inl f))] s.heap.size = A at hD ⊢
  have hA : ∀ q : Nat, s.heap.size ≤ q → A q := fun q h => by rw [← hAe]; exact Or.inr h
  have hS : va_S A s.heap s.heap [] := va_S.rf
  have hP : va_P (dC, dI) vwCl [(d0, .inr (8, [.ref d1, .ref d2, .ref d3, .ref d4, .ref d5, .int 0, .int 0, .int 0, .int 0, .int 0])), (d4, .inr (0, [.ref b1, .ref b2, .ref b3, .ref b4, .int 0, .int 0, .int 0, .int 0, .int 0, .int 0])), (b4, .inl (kb, 16, .inl f))] s.heap := hP
  have hinX8 : ∀ w ∈ wsX80, w ∈ wsX8_named := fun _ h => List.mem_cons_of_mem _ (List.mem_append_left _ (List.mem_append_right _ h))
  have hinX0 : ∀ w ∈ wsX00, w ∈ wsX8_named := fun _ h => List.mem_cons_of_mem _ (List.mem_append_right _ h)
  have hl := lv_entry ([.ref d0, .int wa, .int wb, .int wc, .int wd]) (n := 5) (Nat.le_of_ble_eq_true rfl)
  rw [lg_entry_eq]
  generalize (lg_sl ([.ref d0, .int wa, .int wb, .int wc, .int wd]) ++ List.replicate (5 - (lg_sl ([.ref d0, .int wa, .int wb, .int wc, .int wd])).length) Slot.unset).toArray = ls at hl ⊢
  have hl : lv_has ls 5 [(0, .ref d0), (1, .int wa), (2, .int wb), (3, .int wc), (4, .int wd)] := hl
  refine lv_aload_n hx hb dX8_named_0 rfl (lv_at hl 0 rfl) ?_
  refine va_get (D := (dC, dI)) (ci := 8) (v := .ref d4) (C := RX8) (T := TX8) (N := 10) hx hb hts hinX8 hown hK hP 0 rfl rfl 3 (by decide) (hts (.fieldLink RX8 33 "CensusDesk" "book" "LCensusDesk$Book;") (List.mem_of_getElem? (i := 1) rfl)) (fun _ h9 => h9) rfl dX8_named_1 ?_
  refine lv_iload_n hx hb dX8_named_4 rfl (lv_at hl 1 rfl) ?_
  refine lv_iload_n hx hb dX8_named_5 rfl (lv_at hl 2 rfl) ?_
  refine lv_iload_n hx hb dX8_named_6 rfl (lv_at hl 3 rfl) ?_
  refine lv_iload hx hb dX8_named_7 (lv_at hl 4 rfl) ?_
  have hPc := hP.sub (ws' := [(d4, .inr (0, [.ref b1, .ref b2, .ref b3, .ref b4, .int 0, .int 0, .int 0, .int 0, .int 0, .int 0])), (b4, .inl (kb, 16, .inl f))]) [1, 2] rfl
  have hDc := hD.sub (ws' := [(d4, .inr (0, [.ref b1, .ref b2, .ref b3, .ref b4, .int 0, .int 0, .int 0, .int 0, .int 0, .int 0])), (b4, .inl (kb, 16, .inl f))]) [1, 2] (by decide) rfl
  have hKc := hK.sub (tys' := [(kb, .int)]) [0] rfl
  have hFc := va_free (wc := [(d4, .inr (0, [.ref b1, .ref b2, .ref b3, .ref b4, .int 0, .int 0, .int 0, .int 0, .int 0, .int 0])), (b4, .inl (kb, 16, .inl f))]) hD hS hA [1, 2] rfl
  refine va_calli (va_runV (As := [.int wa, .int wb, .int wc, .int wd]) (rest := []) ⟨hx, hb, hml, hown, hts⟩ (c_X0_countNamed l dC dI d4 b1 b2 b3 b4 kb f wa wb wc wd _ ) (cwV 4 hts gX8_named_X0_countNamed rfl rfl rfl (by decide +kernel) ⟨Nat.le_of_ble_eq_true rfl, Nat.le_of_ble_eq_true rfl⟩) (kPreV hPc hKc hDc hN (va_recv hKc hPc (ci := 0) (q0 := 0) rfl rfl)) rfl rfl hl.1 rfl (lv_room (Nat.le_of_ble_eq_true rfl)) dX8_named_9 ⟨(by decide +kernel), (by decide +kernel)⟩) hS (fun q _ h => hFc q h) hFc (fun r_1 u t H1 locs ht hvm hw hB hz1 hk1 hS => ?_)
  obtain ⟨hP, hD⟩ := kRest (wc := [(d4, .inr (0, [.ref b1, .ref b2, .ref b3, .ref b4, .int 0, .int 0, .int 0, .int 0, .int 0, .int 0])), (b4, .inl (kb, 16, .inl f))]) (wr := [(d0, .inr (8, [.ref d1, .ref d2, .ref d3, .ref d4, .ref d5, .int 0, .int 0, .int 0, .int 0, .int 0]))]) hP hD [1, 2] [0] rfl rfl (by decide) (by decide) hk1 hFc
  have hK := hK.sub (tys' := []) [] rfl
  generalize H1 = H at hP hS ⊢
  have hP : va_P (dC, dI) vwCl [(d0, .inr (8, [.ref d1, .ref d2, .ref d3, .ref d4, .ref d5, .int 0, .int 0, .int 0, .int 0, .int 0]))] H := hP
  have hD : va_D A [(d0, .inr (8, [.ref d1, .ref d2, .ref d3, .ref d4, .ref d5, .int 0, .int 0, .int 0, .int 0, .int 0]))] := hD
  try dsimp only at hw
  subst hw
  exact W.iret (v := 0) hx hb hr (fun t ht hW => ⟨⟨0, (), rfl, rfl, trivial⟩, hS.F ht⟩) hS.2.2 dX8_named_12
set_option maxHeartbeats 1000000 in
set_option maxRecDepth 100000 in
theorem c_X8_audit (l : Launch) (dC : Nat → ClassId) (dI : Nat → Nat → Nat) (d0 d1 d2 d3 d4 d5 : Nat) (b1 b2 b3 b4 : Nat) (sz : Nat)  : Met l yX8_audit wsX8_audit ({ frames := 1, cells := 0, slots := 0, locals := 24 }) (va_Pc [.ref d0] (kPre dC dI [] [(d0, .inr (8, [.ref d1, .ref d2, .ref d3, .ref d4, .ref d5, .int 0, .int 0, .int 0, .int 0, .int 0])), (d4, .inr (0, [.ref b1, .ref b2, .ref b3, .ref b4, .int 0, .int 0, .int 0, .int 0, .int 0, .int 0]))] sz)) (va_Qi (fun (r : Int32) (_ : Unit) => r = 0) (fun (_ : Unit) (_ : State) => True) (va_A [(d0, .inr (8, [.ref d1, .ref d2, .ref d3, .ref d4, .ref d5, .int 0, .int 0, .int 0, .int 0, .int 0])), (d4, .inr (0, [.ref b1, .ref b2, .ref b3, .ref b4, .int 0, .int 0, .int 0, .int 0, .int 0, .int 0]))] sz)) 0 0 (va_A [(d0, .inr (8, [.ref d1, .ref d2, .ref d3, .ref d4, .ref d5, .int 0, .int 0, .int 0, .int 0, .int 0])), (d4, .inr (0, [.ref b1, .ref b2, .ref b3, .ref b4, .int 0, .int 0, .int 0, .int 0, .int 0, .int 0]))] sz) := by
  refine Met.ofW (cc := cX8_audit) (maxL := 3) (ret := (some .int)) (by decide) rfl ?_
  intro p e s m args below meth c s₁ B hml hv
  obtain ⟨rfl, hsz, hP, hK, hD0, hN⟩ := hv
  have hx := B.exec
  have hb := B.bytes
  have hr := B.returns
  have hts := atoms_spec (ws := wsX8_audit) B.pre
  have hown : s.vm.findClass RX8 = some m.cls := findClass_of_methodNamed B.named
  have hlocks := B.notSynchronized
  subst hsz
  have hD := hD0.self (sz := s.heap.size)
  generalize hAe : va_A [(d0, .inr (8, [.ref d1, .ref d2, .ref d3, .ref d4, .ref d5, .int 0, .int 0, .int 0, .int 0, .int 0])), (d4, .inr (0, [.ref b1, .ref b2, .ref b3, .ref b4, .int 0, .int 0, .int 0, .int 0, .int 0, .int 0]))] s.heap.size = A at hD ⊢
  have hA : ∀ q : Nat, s.heap.size ≤ q → A q := fun q h => by rw [← hAe]; exact Or.inr h
  have hS : va_S A s.heap s.heap [] := va_S.rf
  have hP : va_P (dC, dI) vwCl [(d0, .inr (8, [.ref d1, .ref d2, .ref d3, .ref d4, .ref d5, .int 0, .int 0, .int 0, .int 0, .int 0])), (d4, .inr (0, [.ref b1, .ref b2, .ref b3, .ref b4, .int 0, .int 0, .int 0, .int 0, .int 0, .int 0]))] s.heap := hP
  have hinX8 : ∀ w ∈ wsX80, w ∈ wsX8_audit := fun _ h => List.mem_cons_of_mem _ (List.mem_append_left _ (List.mem_append_right _ h))
  have hinX0 : ∀ w ∈ wsX00, w ∈ wsX8_audit := fun _ h => List.mem_cons_of_mem _ (List.mem_append_right _ h)
  have hl := lv_entry ([.ref d0]) (n := 3) (Nat.le_of_ble_eq_true rfl)
  rw [lg_entry_eq]
  generalize (lg_sl ([.ref d0]) ++ List.replicate (3 - (lg_sl ([.ref d0])).length) Slot.unset).toArray = ls at hl ⊢
  have hl : lv_has ls 3 [(0, .ref d0)] := hl
  refine lv_aload_n hx hb dX8_audit_0 rfl (lv_at hl 0 rfl) ?_
  refine va_get (D := (dC, dI)) (ci := 8) (v := .ref d4) (C := RX8) (T := TX8) (N := 10) hx hb hts hinX8 hown hK hP 0 rfl rfl 3 (by decide) (hts (.fieldLink RX8 33 "CensusDesk" "book" "LCensusDesk$Book;") (List.mem_of_getElem? (i := 1) rfl)) (fun _ h9 => h9) rfl dX8_audit_1 ?_
  have hPc := hP.sub (ws' := [(d4, .inr (0, [.ref b1, .ref b2, .ref b3, .ref b4, .int 0, .int 0, .int 0, .int 0, .int 0, .int 0]))]) [1] rfl
  have hDc := hD.sub (ws' := [(d4, .inr (0, [.ref b1, .ref b2, .ref b3, .ref b4, .int 0, .int 0, .int 0, .int 0, .int 0, .int 0]))]) [1] (by decide) rfl
  have hKc := hK.sub (tys' := []) [] rfl
  have hFc := va_free (wc := [(d4, .inr (0, [.ref b1, .ref b2, .ref b3, .ref b4, .int 0, .int 0, .int 0, .int 0, .int 0, .int 0]))]) hD hS hA [1] rfl
  refine va_calli (va_runV (As := []) (rest := []) ⟨hx, hb, hml, hown, hts⟩ (c_X0_disagreements l dC dI d4 b1 b2 b3 b4 _ ) (cwV 0 hts gX8_audit_X0_disagreements rfl rfl rfl (by decide +kernel) ⟨Nat.le_of_ble_eq_true rfl, Nat.le_of_ble_eq_true rfl⟩) (kPreV hPc hKc hDc hN (va_recv hKc hPc (ci := 0) (q0 := 0) rfl rfl)) rfl rfl hl.1 rfl (lv_room (Nat.le_of_ble_eq_true rfl)) dX8_audit_4 ⟨(by decide +kernel), (by decide +kernel)⟩) hS (fun q _ h => hFc q h) hFc (fun r_1 u t H1 locs ht hvm hw hB hz1 hk1 hS => ?_)
  obtain ⟨hP, hD⟩ := kRest (wc := [(d4, .inr (0, [.ref b1, .ref b2, .ref b3, .ref b4, .int 0, .int 0, .int 0, .int 0, .int 0, .int 0]))]) (wr := [(d0, .inr (8, [.ref d1, .ref d2, .ref d3, .ref d4, .ref d5, .int 0, .int 0, .int 0, .int 0, .int 0]))]) hP hD [1] [0] rfl rfl (by decide) (by decide) hk1 hFc
  have hK := hK.sub (tys' := []) [] rfl
  generalize H1 = H at hP hS ⊢
  have hP : va_P (dC, dI) vwCl [(d0, .inr (8, [.ref d1, .ref d2, .ref d3, .ref d4, .ref d5, .int 0, .int 0, .int 0, .int 0, .int 0]))] H := hP
  have hD : va_D A [(d0, .inr (8, [.ref d1, .ref d2, .ref d3, .ref d4, .ref d5, .int 0, .int 0, .int 0, .int 0, .int 0]))] := hD
  try dsimp only at hw
  subst hw
  refine lv_istore_n (lv' := [(1, .int 0), (0, .ref d0)]) hx hb dX8_audit_7 rfl hl (by decide) rfl (fun ls hl => ?_)
  refine lv_aload_n hx hb dX8_audit_8 rfl (lv_at hl 1 rfl) ?_
  refine va_get (D := (dC, dI)) (ci := 8) (v := .int 0) (C := RX8) (T := TX8) (N := 10) hx hb hts hinX8 hown hK hP 0 rfl rfl 7 (by decide) (hts (.fieldLink RX8 140 "CensusDesk" "booked" "I") (List.mem_of_getElem? (i := 2) rfl)) (fun _ h9 => h9) rfl dX8_audit_9 ?_
  refine lv_aload_n hx hb dX8_audit_12 rfl (lv_at hl 1 rfl) ?_
  refine va_get (D := (dC, dI)) (ci := 8) (v := .int 0) (C := RX8) (T := TX8) (N := 10) hx hb hts hinX8 hown hK hP 0 rfl rfl 8 (by decide) (hts (.fieldLink RX8 87 "CensusDesk" "refused" "I") (List.mem_of_getElem? (i := 3) rfl)) (fun _ h9 => h9) rfl dX8_audit_13 ?_
  refine lv_iadd hx hb dX8_audit_16 ?_
  refine k_top (v := 0) (by decide) ?_
  refine lv_aload_n hx hb dX8_audit_17 rfl (lv_at hl 1 rfl) ?_
  refine va_get (D := (dC, dI)) (ci := 8) (v := .int 0) (C := RX8) (T := TX8) (N := 10) hx hb hts hinX8 hown hK hP 0 rfl rfl 9 (by decide) (hts (.fieldLink RX8 143 "CensusDesk" "withoutRoom" "I") (List.mem_of_getElem? (i := 4) rfl)) (fun _ h9 => h9) rfl dX8_audit_18 ?_
  refine lv_iadd hx hb dX8_audit_21 ?_
  refine k_top (v := 0) (by decide) ?_
  refine lv_aload_n hx hb dX8_audit_22 rfl (lv_at hl 1 rfl) ?_
  refine va_get (D := (dC, dI)) (ci := 8) (v := .int 0) (C := RX8) (T := TX8) (N := 10) hx hb hts hinX8 hown hK hP 0 rfl rfl 5 (by decide) (hts (.fieldLink RX8 50 "CensusDesk" "held" "Z") (List.mem_of_getElem? (i := 5) rfl)) (fun _ h9 => h9) rfl dX8_audit_23 ?_
  refine lv_if_eq (tgt := 33) hx hb dX8_audit_26 (by decide) (fun c_2 => ?_) (fun c_2 => absurd c_2 (by decide))
  refine lv_iconst (v := 0) hx hb dX8_audit_33 (by decide) ?_
  refine lv_iadd hx hb dX8_audit_34 ?_
  refine k_top (v := 0) (by decide) ?_
  refine lv_istore_n (lv' := [(2, .int 0), (1, .int 0), (0, .ref d0)]) hx hb dX8_audit_35 rfl hl (by decide) rfl (fun ls hl => ?_)
  refine lv_iload_n hx hb dX8_audit_36 rfl (lv_at hl 0 rfl) ?_
  refine lv_aload_n hx hb dX8_audit_37 rfl (lv_at hl 2 rfl) ?_
  refine va_get (D := (dC, dI)) (ci := 8) (v := .int 0) (C := RX8) (T := TX8) (N := 10) hx hb hts hinX8 hown hK hP 0 rfl rfl 6 (by decide) (hts (.fieldLink RX8 70 "CensusDesk" "received" "I") (List.mem_of_getElem? (i := 6) rfl)) (fun _ h9 => h9) rfl dX8_audit_38 ?_
  refine lv_icmp_ne (tgt := 48) hx hb dX8_audit_41 (by decide) (fun c_3 => absurd c_3 (by decide)) (fun c_3 => ?_)
  refine lv_iload_n hx hb dX8_audit_44 rfl (lv_at hl 1 rfl) ?_
  refine lv_goto (tgt := 51) hx hb dX8_audit_45 (by decide) ?_
  exact W.iret (v := 0) hx hb hr (fun t ht hW => ⟨⟨0, (), rfl, rfl, trivial⟩, hS.F ht⟩) hS.2.2 dX8_audit_51
