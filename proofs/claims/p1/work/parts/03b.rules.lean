set_option maxHeartbeats 1000000 in
set_option maxRecDepth 100000 in
theorem c_X5_init (l : Launch) (dC : Nat → ClassId) (dI : Nat → Nat → Nat) (h0 : Nat) (sz : Nat)  : Met l yX5_init wsX5_init ({ frames := 1, cells := 2, slots := 60, locals := 24 }) (va_Pc [.ref h0] (kPre dC dI [] [(h0, .inr (5, [.null, .null]))] sz)) (va_Qv (fun (_ : Unit) => True) (fun (_ : Unit) (t : State) => ∃ (qw : Nat) (kw : ClassId) (qn : Nat) (kn : ClassId) (fw : Nat → Int32), (∀ j, 1 ≤ j → j < 30 → fw j = -1) ∧ kB dC dI (va_A [(h0, .inr (5, [.null, .null]))] sz) [(kw, .int), (kn, .int)] [(h0, .inr (5, [.ref qw, .ref qn])), (qw, .inl (kw, 30, .inl fw)), (qn, .inl (kn, 30, .inl ((fun _ => 0))))] t) (va_A [(h0, .inr (5, [.null, .null]))] sz)) 2 60 (va_A [(h0, .inr (5, [.null, .null]))] sz) := by
  refine Met.ofW (cc := cX5_init) (maxL := 1) (ret := none) (by decide) rfl ?_
  intro p e s m args below meth c s₁ B hml hv
  obtain ⟨rfl, hsz, hP, hK, hD0, hN⟩ := hv
  have hx := B.exec
  have hb := B.bytes
  have hr := B.returns
  have hts := atoms_spec (ws := wsX5_init) B.pre
  have hown : s.vm.findClass RX5 = some m.cls := findClass_of_methodNamed B.named
  have hlocks := B.notSynchronized
  have hin : meth.name = "<init>" := (name_of_methodNamed B.named B.method).1
  have hAO := hN.2.2
  subst hsz
  have hD := hD0.self (sz := s.heap.size)
  generalize hAe : va_A [(h0, .inr (5, [.null, .null]))] s.heap.size = A at hD ⊢
  have hA : ∀ q : Nat, s.heap.size ≤ q → A q := fun q h => by rw [← hAe]; exact Or.inr h
  have hS : va_S A s.heap s.heap [] := va_S.rf
  have hP : va_P (dC, dI) vwCl [(h0, .inr (5, [.null, .null]))] s.heap := hP
  have hinX5 : ∀ w ∈ wsX50, w ∈ wsX5_init := fun _ h => List.mem_cons_of_mem _ (List.mem_append_right _ h)
  have hl := lv_entry ([.ref h0]) (n := 1) (Nat.le_of_ble_eq_true rfl)
  rw [lg_entry_eq]
  generalize (lg_sl ([.ref h0]) ++ List.replicate (1 - (lg_sl ([.ref h0])).length) Slot.unset).toArray = ls at hl ⊢
  have hl : lv_has ls 1 [(0, .ref h0)] := hl
  refine lv_aload_n hx hb dX5_init_0 rfl (lv_at hl 0 rfl) ?_
  refine W.objInit hx hb hown (hts (.methodLink RX5 3 objectInit) (List.mem_of_getElem? (i := 1) rfl)) (hts (.instanceMethod objectInit) (List.mem_of_getElem? (i := 2) rfl)) (hts (.code objectInit ⟨#[0xb1]⟩ 1 none) (List.mem_of_getElem? (i := 3) rfl)) rfl (by rw [hml]; exact hl.1) rfl dX5_init_1 (Nat.le_of_ble_eq_true rfl) (Nat.le_of_ble_eq_true rfl) ?_
  refine W.eq (g2 := F0 m 4 ls []) rfl ?_
  refine lv_aload_n hx hb dX5_init_4 rfl (lv_at hl 0 rfl) ?_
  refine lv_bipush (v := 30) hx hb dX5_init_5 (by decide) ?_
  refine va_newa (atype := .int) (a0 := (30, .inl (fun _ => 0))) (ty := .int) (N' := 30) hx hb (hts (.arrayClass .int) (List.mem_of_getElem? (i := 4) rfl)) rfl hK hP hD hS hA (fun c9 => k_cellI c9 30) (by decide +kernel) (by decide +kernel) (by decide +kernel) (by decide +kernel) (by decide +kernel) dX5_init_7 (fun q_1 k_2 H hK hP hD hS => ?_)
  have hP : va_P (dC, dI) vwCl [(h0, .inr (5, [.null, .null])), (q_1, .inl (k_2, 30, .inl ((fun _ => 0))))] H := hP
  have hD : va_D A [(h0, .inr (5, [.null, .null])), (q_1, .inl (k_2, 30, .inl ((fun _ => 0))))] := hD
  have hK : va_K (dC, dI) vwCl [(k_2, .int)] s := hK
  refine W.widen (k := 1) (n := 30) (by decide +kernel) (by decide +kernel) ?_
  refine va_putF (D := (dC, dI)) (ci := 5) (v := .ref q_1) (ty := .array .int) (C := RX5) (T := TX5) (N := 2) hx hb hts hinX5 tyX5 tyX5_ok nmX5 hown hK hP hD hS 0 rfl rfl 0 (by decide) (hts (.fieldLink RX5 9 "CensusDesk$Rules" "way" "[I") (List.mem_of_getElem? (i := 5) rfl)) (fun _ h9 => h9) rfl hin rfl (by decide +kernel) rfl rfl (Nat.le_of_ble_eq_true rfl) dX5_init_9 (fun H locs hP hD hS => ?_)
  have hP : va_P (dC, dI) vwCl [(h0, .inr (5, [.ref q_1, .null])), (q_1, .inl (k_2, 30, .inl ((fun _ => 0))))] H := hP
  have hD : va_D A [(h0, .inr (5, [.ref q_1, .null])), (q_1, .inl (k_2, 30, .inl ((fun _ => 0))))] := hD
  refine lv_aload_n hx hb dX5_init_12 rfl (lv_at hl 0 rfl) ?_
  refine lv_bipush (v := 30) hx hb dX5_init_13 (by decide) ?_
  refine va_newa (atype := .int) (a0 := (30, .inl (fun _ => 0))) (ty := .int) (N' := 30) hx hb (hts (.arrayClass .int) (List.mem_of_getElem? (i := 4) rfl)) rfl hK hP hD hS hA (fun c9 => k_cellI c9 30) (by decide +kernel) (by decide +kernel) (by decide +kernel) (by decide +kernel) (by decide +kernel) dX5_init_15 (fun q_3 k_4 H hK hP hD hS => ?_)
  have hP : va_P (dC, dI) vwCl [(h0, .inr (5, [.ref q_1, .null])), (q_1, .inl (k_2, 30, .inl ((fun _ => 0)))), (q_3, .inl (k_4, 30, .inl ((fun _ => 0))))] H := hP
  have hD : va_D A [(h0, .inr (5, [.ref q_1, .null])), (q_1, .inl (k_2, 30, .inl ((fun _ => 0)))), (q_3, .inl (k_4, 30, .inl ((fun _ => 0))))] := hD
  have hK : va_K (dC, dI) vwCl [(k_2, .int), (k_4, .int)] s := hK
  refine W.widen (k := 2) (n := 60) (by decide +kernel) (by decide +kernel) ?_
  refine va_putF (D := (dC, dI)) (ci := 5) (v := .ref q_3) (ty := .array .int) (C := RX5) (T := TX5) (N := 2) hx hb hts hinX5 tyX5 tyX5_ok nmX5 hown hK hP hD hS 0 rfl rfl 1 (by decide) (hts (.fieldLink RX5 15 "CensusDesk$Rules" "number" "[I") (List.mem_of_getElem? (i := 6) rfl)) (fun _ h9 => h9) rfl hin rfl (by decide +kernel) rfl rfl (Nat.le_of_ble_eq_true rfl) dX5_init_17 (fun H locs hP hD hS => ?_)
  have hP : va_P (dC, dI) vwCl [(h0, .inr (5, [.ref q_1, .ref q_3])), (q_1, .inl (k_2, 30, .inl ((fun _ => 0)))), (q_3, .inl (k_4, 30, .inl ((fun _ => 0))))] H := hP
  have hD : va_D A [(h0, .inr (5, [.ref q_1, .ref q_3])), (q_1, .inl (k_2, 30, .inl ((fun _ => 0)))), (q_3, .inl (k_4, 30, .inl ((fun _ => 0))))] := hD
  refine lv_aload_n hx hb dX5_init_20 rfl (lv_at hl 0 rfl) ?_
  refine va_get (D := (dC, dI)) (ci := 5) (v := .ref q_1) (C := RX5) (T := TX5) (N := 2) hx hb hts hinX5 hown hK hP 0 rfl rfl 0 (by decide) (hts (.fieldLink RX5 9 "CensusDesk$Rules" "way" "[I") (List.mem_of_getElem? (i := 5) rfl)) (fun _ h9 => h9) rfl dX5_init_21 ?_
  refine lv_iconst (v := (-1)) hx hb dX5_init_24 (by decide) ?_
  have hPc := hP.sub (ws' := [(q_1, .inl (k_2, 30, .inl ((fun _ => 0))))]) [1] rfl
  have hDc := hD.sub (ws' := [(q_1, .inl (k_2, 30, .inl ((fun _ => 0))))]) [1] (by decide) rfl
  have hKc := hK.sub (tys' := [(k_2, .int)]) [0] rfl
  have hFc := va_free (wc := [(q_1, .inl (k_2, 30, .inl ((fun _ => 0))))]) hD hS hA [1] rfl
  refine va_callv (va_runS (As := [.ref q_1, .int (-1)]) (rest := []) ⟨hx, hb, hml, hown, hts⟩ (c_fill l dC dI q_1 k_2 30 (fun _ => 0) (-1) _ (by decide)) (va_cwS 2 hts gX5_init_J7_fill_53178 rfl rfl rfl (by decide +kernel) ⟨Nat.le_of_ble_eq_true rfl, Nat.le_of_ble_eq_true rfl⟩) (kPreS hPc hKc hDc hN) rfl rfl hl.1 rfl (lv_room (Nat.le_of_ble_eq_true rfl)) dX5_init_25 ⟨(by decide +kernel), (by decide +kernel)⟩) hS (fun q _ h => hFc q h) hFc (fun u t H1 locs ht hvm hw hB hz1 hk1 hS => ?_)
  obtain ⟨f2_6, hf_7, hB⟩ := hB
  obtain ⟨hP, hD, hK⟩ := kJoin (wc := [(q_1, .inl (k_2, 30, .inl ((fun _ => 0))))]) (wr := [(h0, .inr (5, [.ref q_1, .ref q_3])), (q_3, .inl (k_4, 30, .inl ((fun _ => 0))))]) (w1 := [(q_1, .inl (k_2, 30, .inl f2_6))]) hP hD hK [1] [0, 2] rfl rfl (by decide) (by decide) hk1 hFc ht hvm hB
  have hK : va_K (dC, dI) vwCl [(k_2, .int), (k_4, .int), (k_2, .int)] s := hK
  have hK := hK.sub (tys' := [(k_4, .int), (k_2, .int)]) [1, 2] rfl
  generalize H1 = H at hP hS ⊢
  have hP : va_P (dC, dI) vwCl [(h0, .inr (5, [.ref q_1, .ref q_3])), (q_3, .inl (k_4, 30, .inl ((fun _ => 0)))), (q_1, .inl (k_2, 30, .inl f2_6))] H := hP
  have hD : va_D A [(h0, .inr (5, [.ref q_1, .ref q_3])), (q_3, .inl (k_4, 30, .inl ((fun _ => 0)))), (q_1, .inl (k_2, 30, .inl f2_6))] := hD
  try dsimp only at hw
  refine lv_aload_n hx hb dX5_init_28 rfl (lv_at hl 0 rfl) ?_
  refine va_get (D := (dC, dI)) (ci := 5) (v := .ref q_1) (C := RX5) (T := TX5) (N := 2) hx hb hts hinX5 hown hK hP 0 rfl rfl 0 (by decide) (hts (.fieldLink RX5 9 "CensusDesk$Rules" "way" "[I") (List.mem_of_getElem? (i := 5) rfl)) (fun _ h9 => h9) rfl dX5_init_29 ?_
  refine lv_iconst (v := 0) hx hb dX5_init_32 (by decide) ?_
  refine lv_iconst (v := 0) hx hb dX5_init_33 (by decide) ?_
  refine va_iast hx hb hK hP hD hS 2 1 rfl rfl (i := 0) (x := 0) (vp_in_nI (n := 0) (by decide) (by decide)) dX5_init_34 (fun H locs hP hD hS => ?_)
  obtain ⟨f_8, ef_8⟩ : ∃ z : Nat → Int32, z = upd f2_6 (Int32.toNatClampNeg 0) 0 := ⟨_, rfl⟩
  rw [← ef_8] at hP hD
  have hP : va_P (dC, dI) vwCl [(h0, .inr (5, [.ref q_1, .ref q_3])), (q_3, .inl (k_4, 30, .inl ((fun _ => 0)))), (q_1, .inl (k_2, 30, .inl f_8))] H := hP
  have hD : va_D A [(h0, .inr (5, [.ref q_1, .ref q_3])), (q_3, .inl (k_4, 30, .inl ((fun _ => 0)))), (q_1, .inl (k_2, 30, .inl f_8))] := hD
  have hP9 := hP.sub (ws' := [(h0, .inr (5, [.ref q_1, .ref q_3])), (q_1, .inl (k_2, 30, .inl f_8)), (q_3, .inl (k_4, 30, .inl ((fun _ => 0))))]) [0, 2, 1] rfl
  have hD9 := hD.sub (ws' := [(h0, .inr (5, [.ref q_1, .ref q_3])), (q_1, .inl (k_2, 30, .inl f_8)), (q_3, .inl (k_4, 30, .inl ((fun _ => 0))))]) [0, 2, 1] (by decide) rfl
  have hK9 := hK.sub (tys' := [(k_2, .int), (k_4, .int)]) [1, 0] rfl
  exact W.vret hx hb hr (fun t ht hW => ⟨⟨(), rfl, trivial, q_1, k_2, q_3, k_4, f_8, (fun j h1 h2 => by rw [ef_8, sb_cl0]; exact (pk_un (by omega)).trans (hf_7 j h2)), ⟨by rw [ht]; exact hP9, va_K.moved hW.alike hK9, hD9⟩⟩, hS.F ht⟩) hS.2.2 dX5_init_35
set_option maxHeartbeats 1000000 in
set_option maxRecDepth 100000 in
theorem c_X5_change (l : Launch) (dC : Nat → ClassId) (dI : Nat → Nat → Nat) (h0 h1 h2 : Nat) (k1 k2 : ClassId) (fw fn : Nat → Int32) (kd wy nu : Int32) (sz : Nat) (hw0 : ∀ j, 1 ≤ j → j < 30 → fw j = -1) : Met l yX5_change wsX5_change ({ frames := 0, cells := 0, slots := 0, locals := 0 }) (va_Pc [.ref h0, .int kd, .int wy, .int nu] (kPre dC dI [(k1, .int), (k2, .int)] [(h0, .inr (5, [.ref h1, .ref h2])), (h1, .inl (k1, 30, .inl fw)), (h2, .inl (k2, 30, .inl fn))] sz)) (va_Qi (fun (r : Int32) (_ : Unit) => kd < 1 ∨ 29 < kd ∨ r = -1) (fun (_ : Unit) (_ : State) => True) (va_A [(h0, .inr (5, [.ref h1, .ref h2])), (h1, .inl (k1, 30, .inl fw)), (h2, .inl (k2, 30, .inl fn))] sz)) 0 0 (va_A [(h0, .inr (5, [.ref h1, .ref h2])), (h1, .inl (k1, 30, .inl fw)), (h2, .inl (k2, 30, .inl fn))] sz) := by
  refine Met.ofW (cc := cX5_change) (maxL := 5) (ret := (some .int)) (by decide) rfl ?_
  intro p e s m args below meth c s₁ B hml hv
  obtain ⟨rfl, hsz, hP, hK, hD0, hN⟩ := hv
  have hx := B.exec
  have hb := B.bytes
  have hr := B.returns
  have hts := atoms_spec (ws := wsX5_change) B.pre
  have hown : s.vm.findClass RX5 = some m.cls := findClass_of_methodNamed B.named
  have hlocks := B.notSynchronized
  subst hsz
  have hD := hD0.self (sz := s.heap.size)
  generalize hAe : va_A [(h0, .inr (5, [.ref h1, .ref h2])), (h1, .inl (k1, 30, .inl fw)), (h2, .inl (k2, 30, .inl fn))] s.heap.size = A at hD ⊢
  have hA : ∀ q : Nat, s.heap.size ≤ q → A q := fun q h => by rw [← hAe]; exact Or.inr h
  have hS : va_S A s.heap s.heap [] := va_S.rf
  have hP : va_P (dC, dI) vwCl [(h0, .inr (5, [.ref h1, .ref h2])), (h1, .inl (k1, 30, .inl fw)), (h2, .inl (k2, 30, .inl fn))] s.heap := hP
  have hinX5 : ∀ w ∈ wsX50, w ∈ wsX5_change := fun _ h => List.mem_cons_of_mem _ (List.mem_append_right _ h)
  have hl := lv_entry ([.ref h0, .int kd, .int wy, .int nu]) (n := 5) (Nat.le_of_ble_eq_true rfl)
  rw [lg_entry_eq]
  generalize (lg_sl ([.ref h0, .int kd, .int wy, .int nu]) ++ List.replicate (5 - (lg_sl ([.ref h0, .int kd, .int wy, .int nu])).length) Slot.unset).toArray = ls at hl ⊢
  have hl : lv_has ls 5 [(0, .ref h0), (1, .int kd), (2, .int wy), (3, .int nu)] := hl
  refine lv_iload_n hx hb dX5_change_0 rfl (lv_at hl 1 rfl) ?_
  refine lv_iconst (v := 1) hx hb dX5_change_1 (by decide) ?_
  refine lv_icmp_lt (tgt := 11) hx hb dX5_change_2 (by decide) (fun c_1 => ?_) (fun c_1 => ?_)
  · refine lv_bipush (v := (-3)) hx hb dX5_change_11 (by decide) ?_
    exact W.iret (v := (-3)) hx hb hr (fun t ht hW => ⟨⟨(-3), (), rfl, (Or.inl c_1), trivial⟩, hS.F ht⟩) hS.2.2 dX5_change_13
  · refine lv_iload_n hx hb dX5_change_5 rfl (lv_at hl 1 rfl) ?_
    refine lv_bipush (v := 29) hx hb dX5_change_6 (by decide) ?_
    refine lv_icmp_le (tgt := 14) hx hb dX5_change_8 (by decide) (fun c_2 => ?_) (fun c_2 => ?_)
    · refine lv_aload_n hx hb dX5_change_14 rfl (lv_at hl 0 rfl) ?_
      refine va_get (D := (dC, dI)) (ci := 5) (v := .ref h1) (C := RX5) (T := TX5) (N := 2) hx hb hts hinX5 hown hK hP 0 rfl rfl 0 (by decide) (hts (.fieldLink RX5 9 "CensusDesk$Rules" "way" "[I") (List.mem_of_getElem? (i := 1) rfl)) (fun _ h9 => h9) rfl dX5_change_15 ?_
      refine lv_iload_n hx hb dX5_change_18 rfl (lv_at hl 1 rfl) ?_
      refine va_iald hx hb hK hP 1 0 rfl rfl (i := kd) (k_vin c_1 c_2 (by decide)) dX5_change_19 ?_
      refine lv_istore (lv' := [(4, .int (fw (Int32.toNatClampNeg kd))), (0, .ref h0), (1, .int kd), (2, .int wy), (3, .int nu)]) hx hb dX5_change_20 hl (by decide) rfl (fun ls hl => ?_)
      refine lv_aload_n hx hb dX5_change_22 rfl (lv_at hl 1 rfl) ?_
      refine va_get (D := (dC, dI)) (ci := 5) (v := .ref h1) (C := RX5) (T := TX5) (N := 2) hx hb hts hinX5 hown hK hP 0 rfl rfl 0 (by decide) (hts (.fieldLink RX5 9 "CensusDesk$Rules" "way" "[I") (List.mem_of_getElem? (i := 1) rfl)) (fun _ h9 => h9) rfl dX5_change_23 ?_
      refine lv_iload_n hx hb dX5_change_26 rfl (lv_at hl 2 rfl) ?_
      refine lv_iload_n hx hb dX5_change_27 rfl (lv_at hl 3 rfl) ?_
      refine va_iast hx hb hK hP hD hS 1 0 rfl rfl (i := kd) (x := wy) (k_vin c_1 c_2 (by decide)) dX5_change_28 (fun H locs hP hD hS => ?_)
      obtain ⟨f_3, ef_3⟩ : ∃ z : Nat → Int32, z = upd fw (Int32.toNatClampNeg kd) wy := ⟨_, rfl⟩
      rw [← ef_3] at hP hD
      have hP : va_P (dC, dI) vwCl [(h0, .inr (5, [.ref h1, .ref h2])), (h1, .inl (k1, 30, .inl f_3)), (h2, .inl (k2, 30, .inl fn))] H := hP
      have hD : va_D A [(h0, .inr (5, [.ref h1, .ref h2])), (h1, .inl (k1, 30, .inl f_3)), (h2, .inl (k2, 30, .inl fn))] := hD
      refine lv_aload_n hx hb dX5_change_29 rfl (lv_at hl 1 rfl) ?_
      refine va_get (D := (dC, dI)) (ci := 5) (v := .ref h2) (C := RX5) (T := TX5) (N := 2) hx hb hts hinX5 hown hK hP 0 rfl rfl 1 (by decide) (hts (.fieldLink RX5 15 "CensusDesk$Rules" "number" "[I") (List.mem_of_getElem? (i := 2) rfl)) (fun _ h9 => h9) rfl dX5_change_30 ?_
      refine lv_iload_n hx hb dX5_change_33 rfl (lv_at hl 2 rfl) ?_
      refine lv_iload_n hx hb dX5_change_34 rfl (lv_at hl 4 rfl) ?_
      refine va_iast hx hb hK hP hD hS 2 1 rfl rfl (i := kd) (x := nu) (k_vin c_1 c_2 (by decide)) dX5_change_35 (fun H locs hP hD hS => ?_)
      obtain ⟨f_4, ef_4⟩ : ∃ z : Nat → Int32, z = upd fn (Int32.toNatClampNeg kd) nu := ⟨_, rfl⟩
      rw [← ef_4] at hP hD
      have hP : va_P (dC, dI) vwCl [(h0, .inr (5, [.ref h1, .ref h2])), (h1, .inl (k1, 30, .inl f_3)), (h2, .inl (k2, 30, .inl f_4))] H := hP
      have hD : va_D A [(h0, .inr (5, [.ref h1, .ref h2])), (h1, .inl (k1, 30, .inl f_3)), (h2, .inl (k2, 30, .inl f_4))] := hD
      refine lv_iload hx hb dX5_change_36 (lv_at hl 0 rfl) ?_
      exact W.iret (v := (fw (Int32.toNatClampNeg kd))) hx hb hr (fun t ht hW => ⟨⟨(fw (Int32.toNatClampNeg kd)), (), rfl, (Or.inr (Or.inr (hw0 _ (k_cl (n := 30) c_1 c_2 (by decide)).1 (k_cl (n := 30) c_1 c_2 (by decide)).2))), trivial⟩, hS.F ht⟩) hS.2.2 dX5_change_38
    · refine lv_bipush (v := (-3)) hx hb dX5_change_11 (by decide) ?_
      exact W.iret (v := (-3)) hx hb hr (fun t ht hW => ⟨⟨(-3), (), rfl, (Or.inr (Or.inl (Int32.not_le.mp c_2))), trivial⟩, hS.F ht⟩) hS.2.2 dX5_change_13
set_option maxHeartbeats 1000000 in
set_option maxRecDepth 100000 in
theorem c_X5_isWithin (l : Launch) (dC : Nat → ClassId) (dI : Nat → Nat → Nat) (h0 h1 h2 g : Nat) (kd gr : Int32) (sz : Nat)  : Met l yX5_isWithin wsX5_isWithin ({ frames := 0, cells := 0, slots := 0, locals := 0 }) (va_Pc [.ref h0, .int kd, .int gr] (fun U => kPre dC dI [] [(h0, .inr (5, [.ref h1, .ref h2]))] sz U ∧ kSt g (va_A [(h0, .inr (5, [.ref h1, .ref h2]))] sz) U)) (va_Qi (fun (r : Int32) (_ : Unit) => True) (fun (_ : Unit) (t : State) => kB dC dI (va_A [(h0, .inr (5, [.ref h1, .ref h2]))] sz) [] [(h0, .inr (5, [.ref h1, .ref h2]))] t) (va_A [(h0, .inr (5, [.ref h1, .ref h2]))] sz)) 0 0 (va_A [(h0, .inr (5, [.ref h1, .ref h2]))] sz) := by
  refine Met.ofW (cc := cX5_isWithin) (maxL := 5) (ret := (some .boolean)) (by decide) rfl ?_
  intro p e s m args below meth c s₁ B hml hv
  obtain ⟨rfl, ⟨hsz, hP, hK, hD0, hN⟩, hZ, hT⟩ := hv
  have hx := B.exec
  have hb := B.bytes
  have hr := B.returns
  have hts := atoms_spec (ws := wsX5_isWithin) B.pre
  have hown : s.vm.findClass RX5 = some m.cls := findClass_of_methodNamed B.named
  have hlocks := B.notSynchronized
  subst hsz
  have hD := hD0.self (sz := s.heap.size)
  generalize hAe : va_A [(h0, .inr (5, [.ref h1, .ref h2]))] s.heap.size = A at hD hZ hT ⊢
  have hA : ∀ q : Nat, s.heap.size ≤ q → A q := fun q h => by rw [← hAe]; exact Or.inr h
  have hS : va_S A s.heap s.heap [] := va_S.rf
  have hP : va_P (dC, dI) vwCl [(h0, .inr (5, [.ref h1, .ref h2]))] s.heap := hP
  have hl := lv_entry ([.ref h0, .int kd, .int gr]) (n := 5) (Nat.le_of_ble_eq_true rfl)
  rw [lg_entry_eq]
  generalize (lg_sl ([.ref h0, .int kd, .int gr]) ++ List.replicate (5 - (lg_sl ([.ref h0, .int kd, .int gr])).length) Slot.unset).toArray = ls at hl ⊢
  have hl : lv_has ls 5 [(0, .ref h0), (1, .int kd), (2, .int gr)] := hl
  refine lv_iload_n hx hb dX5_isWithin_0 rfl (lv_at hl 1 rfl) ?_
  refine lv_istore_n (lv' := [(3, .int kd), (0, .ref h0), (1, .int kd), (2, .int gr)]) hx hb dX5_isWithin_1 rfl hl (by decide) rfl (fun ls hl => ?_)
  refine lv_iconst (v := 0) hx hb dX5_isWithin_2 (by decide) ?_
  refine lv_istore (lv' := [(4, .int 0), (3, .int kd), (0, .ref h0), (1, .int kd), (2, .int gr)]) hx hb dX5_isWithin_3 hl (by decide) rfl (fun ls hl => ?_)
  refine lv_iload hx hb dX5_isWithin_5 (lv_at hl 0 rfl) ?_
  refine lv_iconst (v := 5) hx hb dX5_isWithin_7 (by decide) ?_
  refine lv_icmp_ge (tgt := 43) hx hb dX5_isWithin_8 (by decide) (fun c_1 => absurd c_1 (by decide)) (fun c_1 => ?_)
  refine lv_iload_n hx hb dX5_isWithin_11 rfl (lv_at hl 1 rfl) ?_
  refine lv_iload_n hx hb dX5_isWithin_12 rfl (lv_at hl 4 rfl) ?_
  refine lv_icmp_ne (tgt := 18) hx hb dX5_isWithin_13 (by decide) (fun c_2 => ?_) (fun c_2 => ?_)
  · refine lv_iload_n hx hb dX5_isWithin_18 rfl (lv_at hl 1 rfl) ?_
    refine lv_iconst (v := 1) hx hb dX5_isWithin_19 (by decide) ?_
    refine lv_icmp_lt (tgt := 29) hx hb dX5_isWithin_20 (by decide) (fun c_3 => ?_) (fun c_3 => ?_)
    · refine lv_iconst (v := 0) hx hb dX5_isWithin_29 (by decide) ?_
      have hP9 := hP.sub (ws' := [(h0, .inr (5, [.ref h1, .ref h2]))]) [0] rfl
      have hD9 := hD.sub (ws' := [(h0, .inr (5, [.ref h1, .ref h2]))]) [0] (by decide) rfl
      have hK9 := hK.sub (tys' := []) [] rfl
      exact W.zret (v := 0) hx hb hr (by first | rfl | decide) (fun t ht hW => ⟨⟨0, (), rfl, trivial, ⟨by rw [ht]; exact hP9, va_K.moved hW.alike hK9, hD9⟩⟩, hS.F ht⟩) hS.2.2 dX5_isWithin_30
    · refine lv_iload_n hx hb dX5_isWithin_23 rfl (lv_at hl 1 rfl) ?_
      refine lv_bipush (v := 29) hx hb dX5_isWithin_24 (by decide) ?_
      refine lv_icmp_le (tgt := 31) hx hb dX5_isWithin_26 (by decide) (fun c_4 => ?_) (fun c_4 => ?_)
      · refine va_gets (C := RX5) (n := "GROUP_OF") (d := "[I") (v := .ref g) hx hb hZ hS hown (hts (.fieldLink RX5 24 "CensusDesk$Rules" "GROUP_OF" "[I") (List.mem_of_getElem? (i := 1) rfl)) (fun _ h9 => h9) dX5_isWithin_31 ?_
        refine lv_iload_n hx hb dX5_isWithin_34 rfl (lv_at hl 1 rfl) ?_
        refine va_ti (v := .int (gof (Int32.toNatClampNeg kd))) hx hb hT hS (i := kd) (k_vin c_3 c_4 (by decide)) rfl dX5_isWithin_35 ?_
        refine lv_topi (fun at_5 eat_5 => ?_)
        refine lv_istore_n (lv' := [(3, .int at_5), (4, .int 0), (0, .ref h0), (1, .int kd), (2, .int gr)]) hx hb dX5_isWithin_36 rfl hl (by decide) rfl (fun ls hl => ?_)
        refine lv_iinc (v := 1) (lv' := [(4, .int 1), (3, .int at_5), (0, .ref h0), (1, .int kd), (2, .int gr)]) hx hb dX5_isWithin_37 hl (k := 1) rfl (by decide) (by decide) rfl (fun ls hl => ?_)
        refine lv_goto (tgt := 5) hx hb dX5_isWithin_40 (by decide) ?_
        refine lv_iload hx hb dX5_isWithin_5 (lv_at hl 0 rfl) ?_
        refine lv_iconst (v := 5) hx hb dX5_isWithin_7 (by decide) ?_
        refine lv_icmp_ge (tgt := 43) hx hb dX5_isWithin_8 (by decide) (fun c_6 => absurd c_6 (by decide)) (fun c_6 => ?_)
        refine lv_iload_n hx hb dX5_isWithin_11 rfl (lv_at hl 1 rfl) ?_
        refine lv_iload_n hx hb dX5_isWithin_12 rfl (lv_at hl 4 rfl) ?_
        refine lv_icmp_ne (tgt := 18) hx hb dX5_isWithin_13 (by decide) (fun c_7 => ?_) (fun c_7 => ?_)
        · refine lv_iload_n hx hb dX5_isWithin_18 rfl (lv_at hl 1 rfl) ?_
          refine lv_iconst (v := 1) hx hb dX5_isWithin_19 (by decide) ?_
          refine lv_icmp_lt (tgt := 29) hx hb dX5_isWithin_20 (by decide) (fun c_8 => ?_) (fun c_8 => ?_)
          · refine lv_iconst (v := 0) hx hb dX5_isWithin_29 (by decide) ?_
            have hP9 := hP.sub (ws' := [(h0, .inr (5, [.ref h1, .ref h2]))]) [0] rfl
            have hD9 := hD.sub (ws' := [(h0, .inr (5, [.ref h1, .ref h2]))]) [0] (by decide) rfl
            have hK9 := hK.sub (tys' := []) [] rfl
            exact W.zret (v := 0) hx hb hr (by first | rfl | decide) (fun t ht hW => ⟨⟨0, (), rfl, trivial, ⟨by rw [ht]; exact hP9, va_K.moved hW.alike hK9, hD9⟩⟩, hS.F ht⟩) hS.2.2 dX5_isWithin_30
          · refine lv_iload_n hx hb dX5_isWithin_23 rfl (lv_at hl 1 rfl) ?_
            refine lv_bipush (v := 29) hx hb dX5_isWithin_24 (by decide) ?_
            refine lv_icmp_le (tgt := 31) hx hb dX5_isWithin_26 (by decide) (fun c_9 => ?_) (fun c_9 => ?_)
            · refine va_gets (C := RX5) (n := "GROUP_OF") (d := "[I") (v := .ref g) hx hb hZ hS hown (hts (.fieldLink RX5 24 "CensusDesk$Rules" "GROUP_OF" "[I") (List.mem_of_getElem? (i := 1) rfl)) (fun _ h9 => h9) dX5_isWithin_31 ?_
              refine lv_iload_n hx hb dX5_isWithin_34 rfl (lv_at hl 1 rfl) ?_
              refine va_ti (v := .int (gof (Int32.toNatClampNeg at_5))) hx hb hT hS (i := at_5) (k_vin c_8 c_9 (by decide)) rfl dX5_isWithin_35 ?_
              refine lv_topi (fun at_10 eat_10 => ?_)
              refine lv_istore_n (lv' := [(3, .int at_10), (4, .int 1), (0, .ref h0), (1, .int kd), (2, .int gr)]) hx hb dX5_isWithin_36 rfl hl (by decide) rfl (fun ls hl => ?_)
              refine lv_iinc (v := 2) (lv' := [(4, .int 2), (3, .int at_10), (0, .ref h0), (1, .int kd), (2, .int gr)]) hx hb dX5_isWithin_37 hl (k := 1) rfl (by decide) (by decide) rfl (fun ls hl => ?_)
              refine lv_goto (tgt := 5) hx hb dX5_isWithin_40 (by decide) ?_
              refine lv_iload hx hb dX5_isWithin_5 (lv_at hl 0 rfl) ?_
              refine lv_iconst (v := 5) hx hb dX5_isWithin_7 (by decide) ?_
              refine lv_icmp_ge (tgt := 43) hx hb dX5_isWithin_8 (by decide) (fun c_11 => absurd c_11 (by decide)) (fun c_11 => ?_)
              refine lv_iload_n hx hb dX5_isWithin_11 rfl (lv_at hl 1 rfl) ?_
              refine lv_iload_n hx hb dX5_isWithin_12 rfl (lv_at hl 4 rfl) ?_
              refine lv_icmp_ne (tgt := 18) hx hb dX5_isWithin_13 (by decide) (fun c_12 => ?_) (fun c_12 => ?_)
              · refine lv_iload_n hx hb dX5_isWithin_18 rfl (lv_at hl 1 rfl) ?_
                refine lv_iconst (v := 1) hx hb dX5_isWithin_19 (by decide) ?_
                refine lv_icmp_lt (tgt := 29) hx hb dX5_isWithin_20 (by decide) (fun c_13 => ?_) (fun c_13 => ?_)
                · refine lv_iconst (v := 0) hx hb dX5_isWithin_29 (by decide) ?_
                  have hP9 := hP.sub (ws' := [(h0, .inr (5, [.ref h1, .ref h2]))]) [0] rfl
                  have hD9 := hD.sub (ws' := [(h0, .inr (5, [.ref h1, .ref h2]))]) [0] (by decide) rfl
                  have hK9 := hK.sub (tys' := []) [] rfl
                  exact W.zret (v := 0) hx hb hr (by first | rfl | decide) (fun t ht hW => ⟨⟨0, (), rfl, trivial, ⟨by rw [ht]; exact hP9, va_K.moved hW.alike hK9, hD9⟩⟩, hS.F ht⟩) hS.2.2 dX5_isWithin_30
                · refine lv_iload_n hx hb dX5_isWithin_23 rfl (lv_at hl 1 rfl) ?_
                  refine lv_bipush (v := 29) hx hb dX5_isWithin_24 (by decide) ?_
                  refine lv_icmp_le (tgt := 31) hx hb dX5_isWithin_26 (by decide) (fun c_14 => ?_) (fun c_14 => ?_)
                  · refine va_gets (C := RX5) (n := "GROUP_OF") (d := "[I") (v := .ref g) hx hb hZ hS hown (hts (.fieldLink RX5 24 "CensusDesk$Rules" "GROUP_OF" "[I") (List.mem_of_getElem? (i := 1) rfl)) (fun _ h9 => h9) dX5_isWithin_31 ?_
                    refine lv_iload_n hx hb dX5_isWithin_34 rfl (lv_at hl 1 rfl) ?_
                    refine va_ti (v := .int (gof (Int32.toNatClampNeg at_10))) hx hb hT hS (i := at_10) (k_vin c_13 c_14 (by decide)) rfl dX5_isWithin_35 ?_
                    refine lv_topi (fun at_15 eat_15 => ?_)
                    refine lv_istore_n (lv' := [(3, .int at_15), (4, .int 2), (0, .ref h0), (1, .int kd), (2, .int gr)]) hx hb dX5_isWithin_36 rfl hl (by decide) rfl (fun ls hl => ?_)
                    refine lv_iinc (v := 3) (lv' := [(4, .int 3), (3, .int at_15), (0, .ref h0), (1, .int kd), (2, .int gr)]) hx hb dX5_isWithin_37 hl (k := 1) rfl (by decide) (by decide) rfl (fun ls hl => ?_)
                    refine lv_goto (tgt := 5) hx hb dX5_isWithin_40 (by decide) ?_
                    refine lv_iload hx hb dX5_isWithin_5 (lv_at hl 0 rfl) ?_
                    refine lv_iconst (v := 5) hx hb dX5_isWithin_7 (by decide) ?_
                    refine lv_icmp_ge (tgt := 43) hx hb dX5_isWithin_8 (by decide) (fun c_16 => absurd c_16 (by decide)) (fun c_16 => ?_)
                    refine lv_iload_n hx hb dX5_isWithin_11 rfl (lv_at hl 1 rfl) ?_
                    refine lv_iload_n hx hb dX5_isWithin_12 rfl (lv_at hl 4 rfl) ?_
                    refine lv_icmp_ne (tgt := 18) hx hb dX5_isWithin_13 (by decide) (fun c_17 => ?_) (fun c_17 => ?_)
                    · refine lv_iload_n hx hb dX5_isWithin_18 rfl (lv_at hl 1 rfl) ?_
                      refine lv_iconst (v := 1) hx hb dX5_isWithin_19 (by decide) ?_
                      refine lv_icmp_lt (tgt := 29) hx hb dX5_isWithin_20 (by decide) (fun c_18 => ?_) (fun c_18 => ?_)
                      · refine lv_iconst (v := 0) hx hb dX5_isWithin_29 (by decide) ?_
                        have hP9 := hP.sub (ws' := [(h0, .inr (5, [.ref h1, .ref h2]))]) [0] rfl
                        have hD9 := hD.sub (ws' := [(h0, .inr (5, [.ref h1, .ref h2]))]) [0] (by decide) rfl
                        have hK9 := hK.sub (tys' := []) [] rfl
                        exact W.zret (v := 0) hx hb hr (by first | rfl | decide) (fun t ht hW => ⟨⟨0, (), rfl, trivial, ⟨by rw [ht]; exact hP9, va_K.moved hW.alike hK9, hD9⟩⟩, hS.F ht⟩) hS.2.2 dX5_isWithin_30
                      · refine lv_iload_n hx hb dX5_isWithin_23 rfl (lv_at hl 1 rfl) ?_
                        refine lv_bipush (v := 29) hx hb dX5_isWithin_24 (by decide) ?_
                        refine lv_icmp_le (tgt := 31) hx hb dX5_isWithin_26 (by decide) (fun c_19 => ?_) (fun c_19 => ?_)
                        · refine va_gets (C := RX5) (n := "GROUP_OF") (d := "[I") (v := .ref g) hx hb hZ hS hown (hts (.fieldLink RX5 24 "CensusDesk$Rules" "GROUP_OF" "[I") (List.mem_of_getElem? (i := 1) rfl)) (fun _ h9 => h9) dX5_isWithin_31 ?_
                          refine lv_iload_n hx hb dX5_isWithin_34 rfl (lv_at hl 1 rfl) ?_
                          refine va_ti (v := .int (gof (Int32.toNatClampNeg at_15))) hx hb hT hS (i := at_15) (k_vin c_18 c_19 (by decide)) rfl dX5_isWithin_35 ?_
                          refine lv_topi (fun at_20 eat_20 => ?_)
                          refine lv_istore_n (lv' := [(3, .int at_20), (4, .int 3), (0, .ref h0), (1, .int kd), (2, .int gr)]) hx hb dX5_isWithin_36 rfl hl (by decide) rfl (fun ls hl => ?_)
                          refine lv_iinc (v := 4) (lv' := [(4, .int 4), (3, .int at_20), (0, .ref h0), (1, .int kd), (2, .int gr)]) hx hb dX5_isWithin_37 hl (k := 1) rfl (by decide) (by decide) rfl (fun ls hl => ?_)
                          refine lv_goto (tgt := 5) hx hb dX5_isWithin_40 (by decide) ?_
                          refine lv_iload hx hb dX5_isWithin_5 (lv_at hl 0 rfl) ?_
                          refine lv_iconst (v := 5) hx hb dX5_isWithin_7 (by decide) ?_
                          refine lv_icmp_ge (tgt := 43) hx hb dX5_isWithin_8 (by decide) (fun c_21 => absurd c_21 (by decide)) (fun c_21 => ?_)
                          refine lv_iload_n hx hb dX5_isWithin_11 rfl (lv_at hl 1 rfl) ?_
                          refine lv_iload_n hx hb dX5_isWithin_12 rfl (lv_at hl 4 rfl) ?_
                          refine lv_icmp_ne (tgt := 18) hx hb dX5_isWithin_13 (by decide) (fun c_22 => ?_) (fun c_22 => ?_)
                          · refine lv_iload_n hx hb dX5_isWithin_18 rfl (lv_at hl 1 rfl) ?_
                            refine lv_iconst (v := 1) hx hb dX5_isWithin_19 (by decide) ?_
                            refine lv_icmp_lt (tgt := 29) hx hb dX5_isWithin_20 (by decide) (fun c_23 => ?_) (fun c_23 => ?_)
                            · refine lv_iconst (v := 0) hx hb dX5_isWithin_29 (by decide) ?_
                              have hP9 := hP.sub (ws' := [(h0, .inr (5, [.ref h1, .ref h2]))]) [0] rfl
                              have hD9 := hD.sub (ws' := [(h0, .inr (5, [.ref h1, .ref h2]))]) [0] (by decide) rfl
                              have hK9 := hK.sub (tys' := []) [] rfl
                              exact W.zret (v := 0) hx hb hr (by first | rfl | decide) (fun t ht hW => ⟨⟨0, (), rfl, trivial, ⟨by rw [ht]; exact hP9, va_K.moved hW.alike hK9, hD9⟩⟩, hS.F ht⟩) hS.2.2 dX5_isWithin_30
                            · refine lv_iload_n hx hb dX5_isWithin_23 rfl (lv_at hl 1 rfl) ?_
                              refine lv_bipush (v := 29) hx hb dX5_isWithin_24 (by decide) ?_
                              refine lv_icmp_le (tgt := 31) hx hb dX5_isWithin_26 (by decide) (fun c_24 => ?_) (fun c_24 => ?_)
                              · refine va_gets (C := RX5) (n := "GROUP_OF") (d := "[I") (v := .ref g) hx hb hZ hS hown (hts (.fieldLink RX5 24 "CensusDesk$Rules" "GROUP_OF" "[I") (List.mem_of_getElem? (i := 1) rfl)) (fun _ h9 => h9) dX5_isWithin_31 ?_
                                refine lv_iload_n hx hb dX5_isWithin_34 rfl (lv_at hl 1 rfl) ?_
                                refine va_ti (v := .int (gof (Int32.toNatClampNeg at_20))) hx hb hT hS (i := at_20) (k_vin c_23 c_24 (by decide)) rfl dX5_isWithin_35 ?_
                                refine lv_topi (fun at_25 eat_25 => ?_)
                                refine lv_istore_n (lv' := [(3, .int at_25), (4, .int 4), (0, .ref h0), (1, .int kd), (2, .int gr)]) hx hb dX5_isWithin_36 rfl hl (by decide) rfl (fun ls hl => ?_)
                                refine lv_iinc (v := 5) (lv' := [(4, .int 5), (3, .int at_25), (0, .ref h0), (1, .int kd), (2, .int gr)]) hx hb dX5_isWithin_37 hl (k := 1) rfl (by decide) (by decide) rfl (fun ls hl => ?_)
                                refine lv_goto (tgt := 5) hx hb dX5_isWithin_40 (by decide) ?_
                                refine lv_iload hx hb dX5_isWithin_5 (lv_at hl 0 rfl) ?_
                                refine lv_iconst (v := 5) hx hb dX5_isWithin_7 (by decide) ?_
                                refine lv_icmp_ge (tgt := 43) hx hb dX5_isWithin_8 (by decide) (fun c_26 => ?_) (fun c_26 => absurd c_26 (by decide))
                                refine lv_iconst (v := 0) hx hb dX5_isWithin_43 (by decide) ?_
                                have hP9 := hP.sub (ws' := [(h0, .inr (5, [.ref h1, .ref h2]))]) [0] rfl
                                have hD9 := hD.sub (ws' := [(h0, .inr (5, [.ref h1, .ref h2]))]) [0] (by decide) rfl
                                have hK9 := hK.sub (tys' := []) [] rfl
                                exact W.zret (v := 0) hx hb hr (by first | rfl | decide) (fun t ht hW => ⟨⟨0, (), rfl, trivial, ⟨by rw [ht]; exact hP9, va_K.moved hW.alike hK9, hD9⟩⟩, hS.F ht⟩) hS.2.2 dX5_isWithin_44
                              · refine lv_iconst (v := 0) hx hb dX5_isWithin_29 (by decide) ?_
                                have hP9 := hP.sub (ws' := [(h0, .inr (5, [.ref h1, .ref h2]))]) [0] rfl
                                have hD9 := hD.sub (ws' := [(h0, .inr (5, [.ref h1, .ref h2]))]) [0] (by decide) rfl
                                have hK9 := hK.sub (tys' := []) [] rfl
                                exact W.zret (v := 0) hx hb hr (by first | rfl | decide) (fun t ht hW => ⟨⟨0, (), rfl, trivial, ⟨by rw [ht]; exact hP9, va_K.moved hW.alike hK9, hD9⟩⟩, hS.F ht⟩) hS.2.2 dX5_isWithin_30
                          · refine lv_iconst (v := 1) hx hb dX5_isWithin_16 (by decide) ?_
                            have hP9 := hP.sub (ws' := [(h0, .inr (5, [.ref h1, .ref h2]))]) [0] rfl
                            have hD9 := hD.sub (ws' := [(h0, .inr (5, [.ref h1, .ref h2]))]) [0] (by decide) rfl
                            have hK9 := hK.sub (tys' := []) [] rfl
                            exact W.zret (v := 1) hx hb hr (by first | rfl | decide) (fun t ht hW => ⟨⟨1, (), rfl, trivial, ⟨by rw [ht]; exact hP9, va_K.moved hW.alike hK9, hD9⟩⟩, hS.F ht⟩) hS.2.2 dX5_isWithin_17
                        · refine lv_iconst (v := 0) hx hb dX5_isWithin_29 (by decide) ?_
                          have hP9 := hP.sub (ws' := [(h0, .inr (5, [.ref h1, .ref h2]))]) [0] rfl
                          have hD9 := hD.sub (ws' := [(h0, .inr (5, [.ref h1, .ref h2]))]) [0] (by decide) rfl
                          have hK9 := hK.sub (tys' := []) [] rfl
                          exact W.zret (v := 0) hx hb hr (by first | rfl | decide) (fun t ht hW => ⟨⟨0, (), rfl, trivial, ⟨by rw [ht]; exact hP9, va_K.moved hW.alike hK9, hD9⟩⟩, hS.F ht⟩) hS.2.2 dX5_isWithin_30
                    · refine lv_iconst (v := 1) hx hb dX5_isWithin_16 (by decide) ?_
                      have hP9 := hP.sub (ws' := [(h0, .inr (5, [.ref h1, .ref h2]))]) [0] rfl
                      have hD9 := hD.sub (ws' := [(h0, .inr (5, [.ref h1, .ref h2]))]) [0] (by decide) rfl
                      have hK9 := hK.sub (tys' := []) [] rfl
                      exact W.zret (v := 1) hx hb hr (by first | rfl | decide) (fun t ht hW => ⟨⟨1, (), rfl, trivial, ⟨by rw [ht]; exact hP9, va_K.moved hW.alike hK9, hD9⟩⟩, hS.F ht⟩) hS.2.2 dX5_isWithin_17
                  · refine lv_iconst (v := 0) hx hb dX5_isWithin_29 (by decide) ?_
                    have hP9 := hP.sub (ws' := [(h0, .inr (5, [.ref h1, .ref h2]))]) [0] rfl
                    have hD9 := hD.sub (ws' := [(h0, .inr (5, [.ref h1, .ref h2]))]) [0] (by decide) rfl
                    have hK9 := hK.sub (tys' := []) [] rfl
                    exact W.zret (v := 0) hx hb hr (by first | rfl | decide) (fun t ht hW => ⟨⟨0, (), rfl, trivial, ⟨by rw [ht]; exact hP9, va_K.moved hW.alike hK9, hD9⟩⟩, hS.F ht⟩) hS.2.2 dX5_isWithin_30
              · refine lv_iconst (v := 1) hx hb dX5_isWithin_16 (by decide) ?_
                have hP9 := hP.sub (ws' := [(h0, .inr (5, [.ref h1, .ref h2]))]) [0] rfl
                have hD9 := hD.sub (ws' := [(h0, .inr (5, [.ref h1, .ref h2]))]) [0] (by decide) rfl
                have hK9 := hK.sub (tys' := []) [] rfl
                exact W.zret (v := 1) hx hb hr (by first | rfl | decide) (fun t ht hW => ⟨⟨1, (), rfl, trivial, ⟨by rw [ht]; exact hP9, va_K.moved hW.alike hK9, hD9⟩⟩, hS.F ht⟩) hS.2.2 dX5_isWithin_17
            · refine lv_iconst (v := 0) hx hb dX5_isWithin_29 (by decide) ?_
              have hP9 := hP.sub (ws' := [(h0, .inr (5, [.ref h1, .ref h2]))]) [0] rfl
              have hD9 := hD.sub (ws' := [(h0, .inr (5, [.ref h1, .ref h2]))]) [0] (by decide) rfl
              have hK9 := hK.sub (tys' := []) [] rfl
              exact W.zret (v := 0) hx hb hr (by first | rfl | decide) (fun t ht hW => ⟨⟨0, (), rfl, trivial, ⟨by rw [ht]; exact hP9, va_K.moved hW.alike hK9, hD9⟩⟩, hS.F ht⟩) hS.2.2 dX5_isWithin_30
        · refine lv_iconst (v := 1) hx hb dX5_isWithin_16 (by decide) ?_
          have hP9 := hP.sub (ws' := [(h0, .inr (5, [.ref h1, .ref h2]))]) [0] rfl
          have hD9 := hD.sub (ws' := [(h0, .inr (5, [.ref h1, .ref h2]))]) [0] (by decide) rfl
          have hK9 := hK.sub (tys' := []) [] rfl
          exact W.zret (v := 1) hx hb hr (by first | rfl | decide) (fun t ht hW => ⟨⟨1, (), rfl, trivial, ⟨by rw [ht]; exact hP9, va_K.moved hW.alike hK9, hD9⟩⟩, hS.F ht⟩) hS.2.2 dX5_isWithin_17
      · refine lv_iconst (v := 0) hx hb dX5_isWithin_29 (by decide) ?_
        have hP9 := hP.sub (ws' := [(h0, .inr (5, [.ref h1, .ref h2]))]) [0] rfl
        have hD9 := hD.sub (ws' := [(h0, .inr (5, [.ref h1, .ref h2]))]) [0] (by decide) rfl
        have hK9 := hK.sub (tys' := []) [] rfl
        exact W.zret (v := 0) hx hb hr (by first | rfl | decide) (fun t ht hW => ⟨⟨0, (), rfl, trivial, ⟨by rw [ht]; exact hP9, va_K.moved hW.alike hK9, hD9⟩⟩, hS.F ht⟩) hS.2.2 dX5_isWithin_30
  · refine lv_iconst (v := 1) hx hb dX5_isWithin_16 (by decide) ?_
    have hP9 := hP.sub (ws' := [(h0, .inr (5, [.ref h1, .ref h2]))]) [0] rfl
    have hD9 := hD.sub (ws' := [(h0, .inr (5, [.ref h1, .ref h2]))]) [0] (by decide) rfl
    have hK9 := hK.sub (tys' := []) [] rfl
    exact W.zret (v := 1) hx hb hr (by first | rfl | decide) (fun t ht hW => ⟨⟨1, (), rfl, trivial, ⟨by rw [ht]; exact hP9, va_K.moved hW.alike hK9, hD9⟩⟩, hS.F ht⟩) hS.2.2 dX5_isWithin_17
