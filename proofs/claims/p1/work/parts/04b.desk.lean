set_option maxHeartbeats 1000000 in
set_option maxRecDepth 100000 in
theorem c_X8_init (l : Launch) (dC : Nat → ClassId) (dI : Nat → Nat → Nat) (d0 : Nat) (sz : Nat)  : Met l yX8_init wsX8_init ({ frames := 3, cells := 45, slots := 30561, locals := 68 }) (va_Pc [.ref d0] (kPre dC dI [] [(d0, .inr (8, [.null, .null, .null, .null, .null, .int 0, .int 0, .int 0, .int 0, .int 0]))] sz)) (va_Qv (fun (_ : Unit) => True) (fun (_ : Unit) (t : State) => ∃ (d1 : Nat) (d2 : Nat) (d3 : Nat) (d4 : Nat) (d5 : Nat) (t1 : Nat) (w1 : Nat) (w2 : Nat) (l1 : Nat) (l2 : Nat) (l3 : Nat) (l4 : Nat) (b1 : Nat) (b2 : Nat) (b3 : Nat) (b4 : Nat) (e5 : Nat) (e6 : Nat) (e7 : Nat) (e8 : Nat) (a1 : Nat) (a2 : Nat) (a3 : Nat) (a4 : Nat) (a5 : Nat) (a6 : Nat) (kt : ClassId) (kw : ClassId) (kn : ClassId) (k2 : ClassId) (k3 : ClassId) (k4 : ClassId) (kb : ClassId) (fw : Nat → Int32), (∀ j, 1 ≤ j → j < 30 → fw j = -1) ∧ kB dC dI (va_A [(d0, .inr (8, [.null, .null, .null, .null, .null, .int 0, .int 0, .int 0, .int 0, .int 0]))] sz) [(kt, .byte), (kw, .int), (kn, .int), (k2, .int), (k3, .int), (k4, .int), (kb, .int)] [(d0, .inr (8, [.ref d1, .ref d2, .ref d3, .ref d4, .ref d5, .int 0, .int 0, .int 0, .int 0, .int 0])), (d1, .inr (7, [.ref t1, .int 0])), (t1, .inl (kt, 4000, .inl ((fun _ => 0)))), (d2, .inr (5, [.ref w1, .ref w2])), (w1, .inl (kw, 30, .inl fw)), (w2, .inl (kn, 30, .inl ((fun _ => 0)))), (d3, .inr (1, [.ref l1, .ref l2, .ref l3, .ref l4, .int 0])), (l2, .inl (k2, 22, .inl ((fun _ => 0)))), (l3, .inl (k3, 5, .inl ((fun _ => 0)))), (l4, .inl (k4, 5, .inl ((fun _ => 0)))), (d4, .inr (0, [.ref b1, .ref b2, .ref b3, .ref b4, .int 0, .int 0, .int 0, .int 0, .int 0, .int 0])), (b4, .inl (kb, 16, .inl ((fun _ => 0)))), (d5, .inr (4, [.ref d1, .ref d2, .ref d3, .ref d4, .ref e5, .ref e6, .ref e7, .ref e8, .int 0, .int 0, .int 0, .int 0, .int 0, .int 0, .int 0, .int 0, .int 0, .int 0, .int 0])), (e7, .inr (2, [.ref a1, .ref a2, .ref a3, .ref a4, .ref a5, .ref a6, .int 0, .int 0, .int 0, .int 0, .int 0, .int 0, .int 0]))] t) (va_A [(d0, .inr (8, [.null, .null, .null, .null, .null, .int 0, .int 0, .int 0, .int 0, .int 0]))] sz)) 45 30561 (va_A [(d0, .inr (8, [.null, .null, .null, .null, .null, .int 0, .int 0, .int 0, .int 0, .int 0]))] sz) := by
  refine Met.ofW (cc := cX8_init) (maxL := 1) (ret := none) (by decide) rfl ?_
  intro p e s m args below meth c s₁ B hml hv
  obtain ⟨rfl, hsz, hP, hK, hD0, hN⟩ := hv
  have hx := B.exec
  have hb := B.bytes
  have hr := B.returns
  have hts := atoms_spec (ws := wsX8_init) B.pre
  have hown : s.vm.findClass RX8 = some m.cls := findClass_of_methodNamed B.named
  have hlocks := B.notSynchronized
  have hin : meth.name = "<init>" := (name_of_methodNamed B.named B.method).1
  have hAO := hN.2.2
  subst hsz
  have hD := hD0.self (sz := s.heap.size)
  generalize hAe : va_A [(d0, .inr (8, [.null, .null, .null, .null, .null, .int 0, .int 0, .int 0, .int 0, .int 0]))] s.heap.size = A at hD ⊢
  have hA : ∀ q : Nat, s.heap.size ≤ q → A q := fun q h => by rw [← hAe]; exact Or.inr h
  have hS : va_S A s.heap s.heap [] := va_S.rf
  have hP : va_P (dC, dI) vwCl [(d0, .inr (8, [.null, .null, .null, .null, .null, .int 0, .int 0, .int 0, .int 0, .int 0]))] s.heap := hP
  have hinX7 : ∀ w ∈ wsX70, w ∈ wsX8_init := fun _ h => List.mem_cons_of_mem _ (List.mem_append_left _ (List.mem_append_left _ (List.mem_append_left _ (List.mem_append_left _ (List.mem_append_left _ (List.mem_append_left _ (List.mem_append_left _ (List.mem_append_left _ (List.mem_append_right _ h)))))))))
  have hinX8 : ∀ w ∈ wsX80, w ∈ wsX8_init := fun _ h => List.mem_cons_of_mem _ (List.mem_append_left _ (List.mem_append_left _ (List.mem_append_left _ (List.mem_append_left _ (List.mem_append_left _ (List.mem_append_left _ (List.mem_append_left _ (List.mem_append_right _ h))))))))
  have hinX5 : ∀ w ∈ wsX50, w ∈ wsX8_init := fun _ h => List.mem_cons_of_mem _ (List.mem_append_left _ (List.mem_append_left _ (List.mem_append_left _ (List.mem_append_left _ (List.mem_append_left _ (List.mem_append_left _ (List.mem_append_right _ h)))))))
  have hinX1 : ∀ w ∈ wsX10, w ∈ wsX8_init := fun _ h => List.mem_cons_of_mem _ (List.mem_append_left _ (List.mem_append_left _ (List.mem_append_left _ (List.mem_append_left _ (List.mem_append_left _ (List.mem_append_right _ h))))))
  have hinX0 : ∀ w ∈ wsX00, w ∈ wsX8_init := fun _ h => List.mem_cons_of_mem _ (List.mem_append_left _ (List.mem_append_left _ (List.mem_append_left _ (List.mem_append_left _ (List.mem_append_right _ h)))))
  have hinX4 : ∀ w ∈ wsX40, w ∈ wsX8_init := fun _ h => List.mem_cons_of_mem _ (List.mem_append_left _ (List.mem_append_left _ (List.mem_append_left _ (List.mem_append_right _ h))))
  have hinX3 : ∀ w ∈ wsX30, w ∈ wsX8_init := fun _ h => List.mem_cons_of_mem _ (List.mem_append_left _ (List.mem_append_left _ (List.mem_append_right _ h)))
  have hinX6 : ∀ w ∈ wsX60, w ∈ wsX8_init := fun _ h => List.mem_cons_of_mem _ (List.mem_append_left _ (List.mem_append_right _ h))
  have hinX2 : ∀ w ∈ wsX20, w ∈ wsX8_init := fun _ h => List.mem_cons_of_mem _ (List.mem_append_right _ h)
  have hl := lv_entry ([.ref d0]) (n := 1) (Nat.le_of_ble_eq_true rfl)
  rw [lg_entry_eq]
  generalize (lg_sl ([.ref d0]) ++ List.replicate (1 - (lg_sl ([.ref d0])).length) Slot.unset).toArray = ls at hl ⊢
  have hl : lv_has ls 1 [(0, .ref d0)] := hl
  refine lv_aload_n hx hb dX8_init_0 rfl (lv_at hl 0 rfl) ?_
  refine W.objInit hx hb hown (hts (.methodLink RX8 1 objectInit) (List.mem_of_getElem? (i := 1) rfl)) (hts (.instanceMethod objectInit) (List.mem_of_getElem? (i := 2) rfl)) (hts (.code objectInit ⟨#[0xb1]⟩ 1 none) (List.mem_of_getElem? (i := 3) rfl)) rfl (by rw [hml]; exact hl.1) rfl dX8_init_1 (Nat.le_of_ble_eq_true rfl) (Nat.le_of_ble_eq_true rfl) ?_
  refine W.eq (g2 := F0 m 4 ls []) rfl ?_
  refine lv_aload_n hx hb dX8_init_4 rfl (lv_at hl 0 rfl) ?_
  refine va_new (ci := 7) (fs := [.null, .int 0]) (C := RX7) (T := TX7) (N := 2) hx hb hts hinX7 tyX7 tyX7_ok hown (hts (.classLink RX8 7 RX7) (List.mem_of_getElem? (i := 4) rfl)) (hts (.instantiable RX7 2) (List.mem_of_getElem? (i := 5) rfl)) (hts (.initialized RX7) (List.mem_of_getElem? (i := 6) rfl)) hK hP hD hS hA rfl defX7 (by decide +kernel) (by decide +kernel) dX8_init_5 (fun q_1 H hP hD hS => ?_)
  have hP : va_P (dC, dI) vwCl [(d0, .inr (8, [.null, .null, .null, .null, .null, .int 0, .int 0, .int 0, .int 0, .int 0])), (q_1, .inr (7, [.null, .int 0]))] H := hP
  have hD : va_D A [(d0, .inr (8, [.null, .null, .null, .null, .null, .int 0, .int 0, .int 0, .int 0, .int 0])), (q_1, .inr (7, [.null, .int 0]))] := hD
  refine W.widen (k := 1) (n := 2) (by decide +kernel) (by decide +kernel) ?_
  refine lv_dup hx hb dX8_init_8 rfl ?_
  have hPc := hP.sub (ws' := [(q_1, .inr (7, [.null, .int 0]))]) [1] rfl
  have hDc := hD.sub (ws' := [(q_1, .inr (7, [.null, .int 0]))]) [1] (by decide) rfl
  have hKc := hK.sub (tys' := []) [] rfl
  have hFc := va_free (wc := [(q_1, .inr (7, [.null, .int 0]))]) hD hS hA [1] rfl
  refine va_callv (va_runIN (As := []) (rest := [.ref q_1, .ref d0]) ⟨hx, hb, hml, hown, hts⟩ (c_X7_init l dC dI q_1 _ ) ⟨va_cnB 0 hts gX8_init_X7_init_n9 rfl rfl rfl (hN.2.1 ("CensusDesk", 9, ⟨"CensusDesk$Tape", "<init>", "()V"⟩) (List.mem_of_getElem? (i := 0) rfl)) (hts (.initialized RX7) (List.mem_of_getElem? (i := 6) rfl)) (by decide +kernel) ⟨Nat.le_of_ble_eq_true rfl, Nat.le_of_ble_eq_true rfl⟩, rfl, (hts (.instanceMethod yX7_init) (List.mem_of_getElem? (i := 24) rfl))⟩ (kPreS hPc hKc hDc hN) rfl rfl hl.1 rfl (lv_room (Nat.le_of_ble_eq_true rfl)) dX8_init_9 ⟨(by decide +kernel), (by decide +kernel)⟩) hS (fun q _ h => hFc q h) hFc (fun u t H1 locs ht hvm hw hB hz1 hk1 hS => ?_)
  obtain ⟨qb_3, cB_4, hB⟩ := hB
  obtain ⟨hP, hD, hK⟩ := kJoin (wc := [(q_1, .inr (7, [.null, .int 0]))]) (wr := [(d0, .inr (8, [.null, .null, .null, .null, .null, .int 0, .int 0, .int 0, .int 0, .int 0]))]) (w1 := [(q_1, .inr (7, [.ref qb_3, .int 0])), (qb_3, .inl (cB_4, 4000, .inl ((fun _ => 0))))]) hP hD hK [1] [0] rfl rfl (by decide) (by decide) hk1 hFc ht hvm hB
  have hK : va_K (dC, dI) vwCl [(cB_4, .byte)] s := hK
  generalize H1 = H at hP hS ⊢
  have hP : va_P (dC, dI) vwCl [(d0, .inr (8, [.null, .null, .null, .null, .null, .int 0, .int 0, .int 0, .int 0, .int 0])), (q_1, .inr (7, [.ref qb_3, .int 0])), (qb_3, .inl (cB_4, 4000, .inl ((fun _ => 0))))] H := hP
  have hD : va_D A [(d0, .inr (8, [.null, .null, .null, .null, .null, .int 0, .int 0, .int 0, .int 0, .int 0])), (q_1, .inr (7, [.ref qb_3, .int 0])), (qb_3, .inl (cB_4, 4000, .inl ((fun _ => 0))))] := hD
  try dsimp only at hw
  refine W.widen (k := 2) (n := 4002) (by decide +kernel) (by decide +kernel) ?_
  refine va_putF (D := (dC, dI)) (ci := 8) (v := .ref q_1) (ty := .object "CensusDesk$Tape") (C := RX8) (T := TX8) (N := 10) hx hb hts hinX8 tyX8 tyX8_ok nmX8 hown hK hP hD hS 0 rfl rfl 0 (by decide) (hts (.fieldLink RX8 10 "CensusDesk" "tape" "LCensusDesk$Tape;") (List.mem_of_getElem? (i := 7) rfl)) (fun _ h9 => h9) rfl hin rfl (by decide +kernel) rfl rfl (Nat.le_of_ble_eq_true rfl) dX8_init_12 (fun H locs hP hD hS => ?_)
  have hP : va_P (dC, dI) vwCl [(d0, .inr (8, [.ref q_1, .null, .null, .null, .null, .int 0, .int 0, .int 0, .int 0, .int 0])), (q_1, .inr (7, [.ref qb_3, .int 0])), (qb_3, .inl (cB_4, 4000, .inl ((fun _ => 0))))] H := hP
  have hD : va_D A [(d0, .inr (8, [.ref q_1, .null, .null, .null, .null, .int 0, .int 0, .int 0, .int 0, .int 0])), (q_1, .inr (7, [.ref qb_3, .int 0])), (qb_3, .inl (cB_4, 4000, .inl ((fun _ => 0))))] := hD
  refine lv_aload_n hx hb dX8_init_15 rfl (lv_at hl 0 rfl) ?_
  refine va_new (ci := 5) (fs := [.null, .null]) (C := RX5) (T := TX5) (N := 2) hx hb hts hinX5 tyX5 tyX5_ok hown (hts (.classLink RX8 16 RX5) (List.mem_of_getElem? (i := 8) rfl)) (hts (.instantiable RX5 2) (List.mem_of_getElem? (i := 9) rfl)) (hts (.initialized RX5) (List.mem_of_getElem? (i := 10) rfl)) hK hP hD hS hA rfl defX5 (by decide +kernel) (by decide +kernel) dX8_init_16 (fun q_5 H hP hD hS => ?_)
  have hP : va_P (dC, dI) vwCl [(d0, .inr (8, [.ref q_1, .null, .null, .null, .null, .int 0, .int 0, .int 0, .int 0, .int 0])), (q_1, .inr (7, [.ref qb_3, .int 0])), (qb_3, .inl (cB_4, 4000, .inl ((fun _ => 0)))), (q_5, .inr (5, [.null, .null]))] H := hP
  have hD : va_D A [(d0, .inr (8, [.ref q_1, .null, .null, .null, .null, .int 0, .int 0, .int 0, .int 0, .int 0])), (q_1, .inr (7, [.ref qb_3, .int 0])), (qb_3, .inl (cB_4, 4000, .inl ((fun _ => 0)))), (q_5, .inr (5, [.null, .null]))] := hD
  refine W.widen (k := 3) (n := 4004) (by decide +kernel) (by decide +kernel) ?_
  refine lv_dup hx hb dX8_init_19 rfl ?_
  have hPc := hP.sub (ws' := [(q_5, .inr (5, [.null, .null]))]) [3] rfl
  have hDc := hD.sub (ws' := [(q_5, .inr (5, [.null, .null]))]) [3] (by decide) rfl
  have hKc := hK.sub (tys' := []) [] rfl
  have hFc := va_free (wc := [(q_5, .inr (5, [.null, .null]))]) hD hS hA [3] rfl
  refine va_callv (va_runI (As := []) (rest := [.ref q_5, .ref d0]) ⟨hx, hb, hml, hown, hts⟩ (c_X5_init l dC dI q_5 _ ) (cwI 0 hts gX8_init_X5_init rfl rfl rfl (hts (.initialized RX5) (List.mem_of_getElem? (i := 10) rfl)) (hts (.methodLink RX8 18 yX5_init) (List.mem_of_getElem? (i := 29) rfl)) (hts (.instanceMethod yX5_init) (List.mem_of_getElem? (i := 30) rfl)) rfl (by decide +kernel) ⟨Nat.le_of_ble_eq_true rfl, Nat.le_of_ble_eq_true rfl⟩) (kPreS hPc hKc hDc hN) rfl rfl hl.1 rfl (lv_room (Nat.le_of_ble_eq_true rfl)) dX8_init_20 ⟨(by decide +kernel), (by decide +kernel)⟩) hS (fun q _ h => hFc q h) hFc (fun u t H1 locs ht hvm hw hB hz1 hk1 hS => ?_)
  obtain ⟨qw_7, kw_8, qn_9, kn_10, fw_11, hf_12, hB⟩ := hB
  obtain ⟨hP, hD, hK⟩ := kJoin (wc := [(q_5, .inr (5, [.null, .null]))]) (wr := [(d0, .inr (8, [.ref q_1, .null, .null, .null, .null, .int 0, .int 0, .int 0, .int 0, .int 0])), (q_1, .inr (7, [.ref qb_3, .int 0])), (qb_3, .inl (cB_4, 4000, .inl ((fun _ => 0))))]) (w1 := [(q_5, .inr (5, [.ref qw_7, .ref qn_9])), (qw_7, .inl (kw_8, 30, .inl fw_11)), (qn_9, .inl (kn_10, 30, .inl ((fun _ => 0))))]) hP hD hK [3] [0, 1, 2] rfl rfl (by decide) (by decide) hk1 hFc ht hvm hB
  have hK : va_K (dC, dI) vwCl [(cB_4, .byte), (kw_8, .int), (kn_10, .int)] s := hK
  generalize H1 = H at hP hS ⊢
  have hP : va_P (dC, dI) vwCl [(d0, .inr (8, [.ref q_1, .null, .null, .null, .null, .int 0, .int 0, .int 0, .int 0, .int 0])), (q_1, .inr (7, [.ref qb_3, .int 0])), (qb_3, .inl (cB_4, 4000, .inl ((fun _ => 0)))), (q_5, .inr (5, [.ref qw_7, .ref qn_9])), (qw_7, .inl (kw_8, 30, .inl fw_11)), (qn_9, .inl (kn_10, 30, .inl ((fun _ => 0))))] H := hP
  have hD : va_D A [(d0, .inr (8, [.ref q_1, .null, .null, .null, .null, .int 0, .int 0, .int 0, .int 0, .int 0])), (q_1, .inr (7, [.ref qb_3, .int 0])), (qb_3, .inl (cB_4, 4000, .inl ((fun _ => 0)))), (q_5, .inr (5, [.ref qw_7, .ref qn_9])), (qw_7, .inl (kw_8, 30, .inl fw_11)), (qn_9, .inl (kn_10, 30, .inl ((fun _ => 0))))] := hD
  try dsimp only at hw
  refine W.widen (k := 5) (n := 4064) (by decide +kernel) (by decide +kernel) ?_
  refine va_putF (D := (dC, dI)) (ci := 8) (v := .ref q_5) (ty := .object "CensusDesk$Rules") (C := RX8) (T := TX8) (N := 10) hx hb hts hinX8 tyX8 tyX8_ok nmX8 hown hK hP hD hS 0 rfl rfl 1 (by decide) (hts (.fieldLink RX8 19 "CensusDesk" "rules" "LCensusDesk$Rules;") (List.mem_of_getElem? (i := 11) rfl)) (fun _ h9 => h9) rfl hin rfl (by decide +kernel) rfl rfl (Nat.le_of_ble_eq_true rfl) dX8_init_23 (fun H locs hP hD hS => ?_)
  have hP : va_P (dC, dI) vwCl [(d0, .inr (8, [.ref q_1, .ref q_5, .null, .null, .null, .int 0, .int 0, .int 0, .int 0, .int 0])), (q_1, .inr (7, [.ref qb_3, .int 0])), (qb_3, .inl (cB_4, 4000, .inl ((fun _ => 0)))), (q_5, .inr (5, [.ref qw_7, .ref qn_9])), (qw_7, .inl (kw_8, 30, .inl fw_11)), (qn_9, .inl (kn_10, 30, .inl ((fun _ => 0))))] H := hP
  have hD : va_D A [(d0, .inr (8, [.ref q_1, .ref q_5, .null, .null, .null, .int 0, .int 0, .int 0, .int 0, .int 0])), (q_1, .inr (7, [.ref qb_3, .int 0])), (qb_3, .inl (cB_4, 4000, .inl ((fun _ => 0)))), (q_5, .inr (5, [.ref qw_7, .ref qn_9])), (qw_7, .inl (kw_8, 30, .inl fw_11)), (qn_9, .inl (kn_10, 30, .inl ((fun _ => 0))))] := hD
  refine lv_aload_n hx hb dX8_init_26 rfl (lv_at hl 0 rfl) ?_
  refine va_new (ci := 1) (fs := [.null, .null, .null, .null, .int 0]) (C := RX1) (T := TX1) (N := 5) hx hb hts hinX1 tyX1 tyX1_ok hown (hts (.classLink RX8 23 RX1) (List.mem_of_getElem? (i := 12) rfl)) (hts (.instantiable RX1 5) (List.mem_of_getElem? (i := 13) rfl)) (hts (.initialized RX1) (List.mem_of_getElem? (i := 14) rfl)) hK hP hD hS hA rfl defX1 (by decide +kernel) (by decide +kernel) dX8_init_27 (fun q_13 H hP hD hS => ?_)
  have hP : va_P (dC, dI) vwCl [(d0, .inr (8, [.ref q_1, .ref q_5, .null, .null, .null, .int 0, .int 0, .int 0, .int 0, .int 0])), (q_1, .inr (7, [.ref qb_3, .int 0])), (qb_3, .inl (cB_4, 4000, .inl ((fun _ => 0)))), (q_5, .inr (5, [.ref qw_7, .ref qn_9])), (qw_7, .inl (kw_8, 30, .inl fw_11)), (qn_9, .inl (kn_10, 30, .inl ((fun _ => 0)))), (q_13, .inr (1, [.null, .null, .null, .null, .int 0]))] H := hP
  have hD : va_D A [(d0, .inr (8, [.ref q_1, .ref q_5, .null, .null, .null, .int 0, .int 0, .int 0, .int 0, .int 0])), (q_1, .inr (7, [.ref qb_3, .int 0])), (qb_3, .inl (cB_4, 4000, .inl ((fun _ => 0)))), (q_5, .inr (5, [.ref qw_7, .ref qn_9])), (qw_7, .inl (kw_8, 30, .inl fw_11)), (qn_9, .inl (kn_10, 30, .inl ((fun _ => 0)))), (q_13, .inr (1, [.null, .null, .null, .null, .int 0]))] := hD
  refine W.widen (k := 6) (n := 4069) (by decide +kernel) (by decide +kernel) ?_
  refine lv_dup hx hb dX8_init_30 rfl ?_
  have hPc := hP.sub (ws' := [(q_13, .inr (1, [.null, .null, .null, .null, .int 0]))]) [6] rfl
  have hDc := hD.sub (ws' := [(q_13, .inr (1, [.null, .null, .null, .null, .int 0]))]) [6] (by decide) rfl
  have hKc := hK.sub (tys' := []) [] rfl
  have hFc := va_free (wc := [(q_13, .inr (1, [.null, .null, .null, .null, .int 0]))]) hD hS hA [6] rfl
  refine va_callv (va_runIN (As := []) (rest := [.ref q_13, .ref d0]) ⟨hx, hb, hml, hown, hts⟩ (c_X1_init l dC dI q_13 _ ) ⟨va_cnB 0 hts gX8_init_X1_init_n25 rfl rfl rfl (hN.2.1 ("CensusDesk", 25, ⟨"CensusDesk$Failures", "<init>", "()V"⟩) (List.mem_of_getElem? (i := 1) rfl)) (hts (.initialized RX1) (List.mem_of_getElem? (i := 14) rfl)) (by decide +kernel) ⟨Nat.le_of_ble_eq_true rfl, Nat.le_of_ble_eq_true rfl⟩, rfl, (hts (.instanceMethod yX1_init) (List.mem_of_getElem? (i := 40) rfl))⟩ (kPreS hPc hKc hDc hN) rfl rfl hl.1 rfl (lv_room (Nat.le_of_ble_eq_true rfl)) dX8_init_31 ⟨(by decide +kernel), (by decide +kernel)⟩) hS (fun q _ h => hFc q h) hFc (fun u t H1 locs ht hvm hw hB hz1 hk1 hS => ?_)
  obtain ⟨qf_15, qk_16, kk_17, qi_18, ki_19, qo_20, ko_21, hB⟩ := hB
  obtain ⟨hP, hD, hK⟩ := kJoin (wc := [(q_13, .inr (1, [.null, .null, .null, .null, .int 0]))]) (wr := [(d0, .inr (8, [.ref q_1, .ref q_5, .null, .null, .null, .int 0, .int 0, .int 0, .int 0, .int 0])), (q_1, .inr (7, [.ref qb_3, .int 0])), (qb_3, .inl (cB_4, 4000, .inl ((fun _ => 0)))), (q_5, .inr (5, [.ref qw_7, .ref qn_9])), (qw_7, .inl (kw_8, 30, .inl fw_11)), (qn_9, .inl (kn_10, 30, .inl ((fun _ => 0))))]) (w1 := [(q_13, .inr (1, [.ref qf_15, .ref qk_16, .ref qi_18, .ref qo_20, .int 0])), (qk_16, .inl (kk_17, 22, .inl ((fun _ => 0)))), (qi_18, .inl (ki_19, 5, .inl ((fun _ => 0)))), (qo_20, .inl (ko_21, 5, .inl ((fun _ => 0))))]) hP hD hK [6] [0, 1, 2, 3, 4, 5] rfl rfl (by decide) (by decide) hk1 hFc ht hvm hB
  have hK : va_K (dC, dI) vwCl [(cB_4, .byte), (kw_8, .int), (kn_10, .int), (kk_17, .int), (ki_19, .int), (ko_21, .int)] s := hK
  generalize H1 = H at hP hS ⊢
  have hP : va_P (dC, dI) vwCl [(d0, .inr (8, [.ref q_1, .ref q_5, .null, .null, .null, .int 0, .int 0, .int 0, .int 0, .int 0])), (q_1, .inr (7, [.ref qb_3, .int 0])), (qb_3, .inl (cB_4, 4000, .inl ((fun _ => 0)))), (q_5, .inr (5, [.ref qw_7, .ref qn_9])), (qw_7, .inl (kw_8, 30, .inl fw_11)), (qn_9, .inl (kn_10, 30, .inl ((fun _ => 0)))), (q_13, .inr (1, [.ref qf_15, .ref qk_16, .ref qi_18, .ref qo_20, .int 0])), (qk_16, .inl (kk_17, 22, .inl ((fun _ => 0)))), (qi_18, .inl (ki_19, 5, .inl ((fun _ => 0)))), (qo_20, .inl (ko_21, 5, .inl ((fun _ => 0))))] H := hP
  have hD : va_D A [(d0, .inr (8, [.ref q_1, .ref q_5, .null, .null, .null, .int 0, .int 0, .int 0, .int 0, .int 0])), (q_1, .inr (7, [.ref qb_3, .int 0])), (qb_3, .inl (cB_4, 4000, .inl ((fun _ => 0)))), (q_5, .inr (5, [.ref qw_7, .ref qn_9])), (qw_7, .inl (kw_8, 30, .inl fw_11)), (qn_9, .inl (kn_10, 30, .inl ((fun _ => 0)))), (q_13, .inr (1, [.ref qf_15, .ref qk_16, .ref qi_18, .ref qo_20, .int 0])), (qk_16, .inl (kk_17, 22, .inl ((fun _ => 0)))), (qi_18, .inl (ki_19, 5, .inl ((fun _ => 0)))), (qo_20, .inl (ko_21, 5, .inl ((fun _ => 0))))] := hD
  try dsimp only at hw
  refine W.widen (k := 15) (n := 5606) (by decide +kernel) (by decide +kernel) ?_
  refine va_putF (D := (dC, dI)) (ci := 8) (v := .ref q_13) (ty := .object "CensusDesk$Failures") (C := RX8) (T := TX8) (N := 10) hx hb hts hinX8 tyX8 tyX8_ok nmX8 hown hK hP hD hS 0 rfl rfl 2 (by decide) (hts (.fieldLink RX8 26 "CensusDesk" "log" "LCensusDesk$Failures;") (List.mem_of_getElem? (i := 15) rfl)) (fun _ h9 => h9) rfl hin rfl (by decide +kernel) rfl rfl (Nat.le_of_ble_eq_true rfl) dX8_init_34 (fun H locs hP hD hS => ?_)
  have hP : va_P (dC, dI) vwCl [(d0, .inr (8, [.ref q_1, .ref q_5, .ref q_13, .null, .null, .int 0, .int 0, .int 0, .int 0, .int 0])), (q_1, .inr (7, [.ref qb_3, .int 0])), (qb_3, .inl (cB_4, 4000, .inl ((fun _ => 0)))), (q_5, .inr (5, [.ref qw_7, .ref qn_9])), (qw_7, .inl (kw_8, 30, .inl fw_11)), (qn_9, .inl (kn_10, 30, .inl ((fun _ => 0)))), (q_13, .inr (1, [.ref qf_15, .ref qk_16, .ref qi_18, .ref qo_20, .int 0])), (qk_16, .inl (kk_17, 22, .inl ((fun _ => 0)))), (qi_18, .inl (ki_19, 5, .inl ((fun _ => 0)))), (qo_20, .inl (ko_21, 5, .inl ((fun _ => 0))))] H := hP
  have hD : va_D A [(d0, .inr (8, [.ref q_1, .ref q_5, .ref q_13, .null, .null, .int 0, .int 0, .int 0, .int 0, .int 0])), (q_1, .inr (7, [.ref qb_3, .int 0])), (qb_3, .inl (cB_4, 4000, .inl ((fun _ => 0)))), (q_5, .inr (5, [.ref qw_7, .ref qn_9])), (qw_7, .inl (kw_8, 30, .inl fw_11)), (qn_9, .inl (kn_10, 30, .inl ((fun _ => 0)))), (q_13, .inr (1, [.ref qf_15, .ref qk_16, .ref qi_18, .ref qo_20, .int 0])), (qk_16, .inl (kk_17, 22, .inl ((fun _ => 0)))), (qi_18, .inl (ki_19, 5, .inl ((fun _ => 0)))), (qo_20, .inl (ko_21, 5, .inl ((fun _ => 0))))] := hD
  refine lv_aload_n hx hb dX8_init_37 rfl (lv_at hl 0 rfl) ?_
  refine va_new (ci := 0) (fs := [.null, .null, .null, .null, .int 0, .int 0, .int 0, .int 0, .int 0, .int 0]) (C := RX0) (T := TX0) (N := 10) hx hb hts hinX0 tyX0 tyX0_ok hown (hts (.classLink RX8 30 RX0) (List.mem_of_getElem? (i := 16) rfl)) (hts (.instantiable RX0 10) (List.mem_of_getElem? (i := 17) rfl)) (hts (.initialized RX0) (List.mem_of_getElem? (i := 18) rfl)) hK hP hD hS hA rfl defX0 (by decide +kernel) (by decide +kernel) dX8_init_38 (fun q_22 H hP hD hS => ?_)
  have hP : va_P (dC, dI) vwCl [(d0, .inr (8, [.ref q_1, .ref q_5, .ref q_13, .null, .null, .int 0, .int 0, .int 0, .int 0, .int 0])), (q_1, .inr (7, [.ref qb_3, .int 0])), (qb_3, .inl (cB_4, 4000, .inl ((fun _ => 0)))), (q_5, .inr (5, [.ref qw_7, .ref qn_9])), (qw_7, .inl (kw_8, 30, .inl fw_11)), (qn_9, .inl (kn_10, 30, .inl ((fun _ => 0)))), (q_13, .inr (1, [.ref qf_15, .ref qk_16, .ref qi_18, .ref qo_20, .int 0])), (qk_16, .inl (kk_17, 22, .inl ((fun _ => 0)))), (qi_18, .inl (ki_19, 5, .inl ((fun _ => 0)))), (qo_20, .inl (ko_21, 5, .inl ((fun _ => 0)))), (q_22, .inr (0, [.null, .null, .null, .null, .int 0, .int 0, .int 0, .int 0, .int 0, .int 0]))] H := hP
  have hD : va_D A [(d0, .inr (8, [.ref q_1, .ref q_5, .ref q_13, .null, .null, .int 0, .int 0, .int 0, .int 0, .int 0])), (q_1, .inr (7, [.ref qb_3, .int 0])), (qb_3, .inl (cB_4, 4000, .inl ((fun _ => 0)))), (q_5, .inr (5, [.ref qw_7, .ref qn_9])), (qw_7, .inl (kw_8, 30, .inl fw_11)), (qn_9, .inl (kn_10, 30, .inl ((fun _ => 0)))), (q_13, .inr (1, [.ref qf_15, .ref qk_16, .ref qi_18, .ref qo_20, .int 0])), (qk_16, .inl (kk_17, 22, .inl ((fun _ => 0)))), (qi_18, .inl (ki_19, 5, .inl ((fun _ => 0)))), (qo_20, .inl (ko_21, 5, .inl ((fun _ => 0)))), (q_22, .inr (0, [.null, .null, .null, .null, .int 0, .int 0, .int 0, .int 0, .int 0, .int 0]))] := hD
  refine W.widen (k := 16) (n := 5616) (by decide +kernel) (by decide +kernel) ?_
  refine lv_dup hx hb dX8_init_41 rfl ?_
  have hPc := hP.sub (ws' := [(q_22, .inr (0, [.null, .null, .null, .null, .int 0, .int 0, .int 0, .int 0, .int 0, .int 0]))]) [10] rfl
  have hDc := hD.sub (ws' := [(q_22, .inr (0, [.null, .null, .null, .null, .int 0, .int 0, .int 0, .int 0, .int 0, .int 0]))]) [10] (by decide) rfl
  have hKc := hK.sub (tys' := []) [] rfl
  have hFc := va_free (wc := [(q_22, .inr (0, [.null, .null, .null, .null, .int 0, .int 0, .int 0, .int 0, .int 0, .int 0]))]) hD hS hA [10] rfl
  refine va_callv (va_runIN (As := []) (rest := [.ref q_22, .ref d0]) ⟨hx, hb, hml, hown, hts⟩ (c_X0_init l dC dI q_22 _ ) ⟨va_cnB 0 hts gX8_init_X0_init_n32 rfl rfl rfl (hN.2.1 ("CensusDesk", 32, ⟨"CensusDesk$Book", "<init>", "()V"⟩) (List.mem_of_getElem? (i := 2) rfl)) (hts (.initialized RX0) (List.mem_of_getElem? (i := 18) rfl)) (by decide +kernel) ⟨Nat.le_of_ble_eq_true rfl, Nat.le_of_ble_eq_true rfl⟩, rfl, (hts (.instanceMethod yX0_init) (List.mem_of_getElem? (i := 48) rfl))⟩ (kPreS hPc hKc hDc hN) rfl rfl hl.1 rfl (lv_room (Nat.le_of_ble_eq_true rfl)) dX8_init_42 ⟨(by decide +kernel), (by decide +kernel)⟩) hS (fun q _ h => hFc q h) hFc (fun u t H1 locs ht hvm hw hB hz1 hk1 hS => ?_)
  obtain ⟨b1_24, b2_25, b3_26, qs_27, ks_28, hB⟩ := hB
  obtain ⟨hP, hD, hK⟩ := kJoin (wc := [(q_22, .inr (0, [.null, .null, .null, .null, .int 0, .int 0, .int 0, .int 0, .int 0, .int 0]))]) (wr := [(d0, .inr (8, [.ref q_1, .ref q_5, .ref q_13, .null, .null, .int 0, .int 0, .int 0, .int 0, .int 0])), (q_1, .inr (7, [.ref qb_3, .int 0])), (qb_3, .inl (cB_4, 4000, .inl ((fun _ => 0)))), (q_5, .inr (5, [.ref qw_7, .ref qn_9])), (qw_7, .inl (kw_8, 30, .inl fw_11)), (qn_9, .inl (kn_10, 30, .inl ((fun _ => 0)))), (q_13, .inr (1, [.ref qf_15, .ref qk_16, .ref qi_18, .ref qo_20, .int 0])), (qk_16, .inl (kk_17, 22, .inl ((fun _ => 0)))), (qi_18, .inl (ki_19, 5, .inl ((fun _ => 0)))), (qo_20, .inl (ko_21, 5, .inl ((fun _ => 0))))]) (w1 := [(q_22, .inr (0, [.ref b1_24, .ref b2_25, .ref b3_26, .ref qs_27, .int 0, .int 0, .int 0, .int 0, .int 0, .int 0])), (qs_27, .inl (ks_28, 16, .inl ((fun _ => 0))))]) hP hD hK [10] [0, 1, 2, 3, 4, 5, 6, 7, 8, 9] rfl rfl (by decide) (by decide) hk1 hFc ht hvm hB
  have hK : va_K (dC, dI) vwCl [(cB_4, .byte), (kw_8, .int), (kn_10, .int), (kk_17, .int), (ki_19, .int), (ko_21, .int), (ks_28, .int)] s := hK
  generalize H1 = H at hP hS ⊢
  have hP : va_P (dC, dI) vwCl [(d0, .inr (8, [.ref q_1, .ref q_5, .ref q_13, .null, .null, .int 0, .int 0, .int 0, .int 0, .int 0])), (q_1, .inr (7, [.ref qb_3, .int 0])), (qb_3, .inl (cB_4, 4000, .inl ((fun _ => 0)))), (q_5, .inr (5, [.ref qw_7, .ref qn_9])), (qw_7, .inl (kw_8, 30, .inl fw_11)), (qn_9, .inl (kn_10, 30, .inl ((fun _ => 0)))), (q_13, .inr (1, [.ref qf_15, .ref qk_16, .ref qi_18, .ref qo_20, .int 0])), (qk_16, .inl (kk_17, 22, .inl ((fun _ => 0)))), (qi_18, .inl (ki_19, 5, .inl ((fun _ => 0)))), (qo_20, .inl (ko_21, 5, .inl ((fun _ => 0)))), (q_22, .inr (0, [.ref b1_24, .ref b2_25, .ref b3_26, .ref qs_27, .int 0, .int 0, .int 0, .int 0, .int 0, .int 0])), (qs_27, .inl (ks_28, 16, .inl ((fun _ => 0))))] H := hP
  have hD : va_D A [(d0, .inr (8, [.ref q_1, .ref q_5, .ref q_13, .null, .null, .int 0, .int 0, .int 0, .int 0, .int 0])), (q_1, .inr (7, [.ref qb_3, .int 0])), (qb_3, .inl (cB_4, 4000, .inl ((fun _ => 0)))), (q_5, .inr (5, [.ref qw_7, .ref qn_9])), (qw_7, .inl (kw_8, 30, .inl fw_11)), (qn_9, .inl (kn_10, 30, .inl ((fun _ => 0)))), (q_13, .inr (1, [.ref qf_15, .ref qk_16, .ref qi_18, .ref qo_20, .int 0])), (qk_16, .inl (kk_17, 22, .inl ((fun _ => 0)))), (qi_18, .inl (ki_19, 5, .inl ((fun _ => 0)))), (qo_20, .inl (ko_21, 5, .inl ((fun _ => 0)))), (q_22, .inr (0, [.ref b1_24, .ref b2_25, .ref b3_26, .ref qs_27, .int 0, .int 0, .int 0, .int 0, .int 0, .int 0])), (qs_27, .inl (ks_28, 16, .inl ((fun _ => 0))))] := hD
  try dsimp only at hw
  refine W.widen (k := 30) (n := 16442) (by decide +kernel) (by decide +kernel) ?_
  refine va_putF (D := (dC, dI)) (ci := 8) (v := .ref q_22) (ty := .object "CensusDesk$Book") (C := RX8) (T := TX8) (N := 10) hx hb hts hinX8 tyX8 tyX8_ok nmX8 hown hK hP hD hS 0 rfl rfl 3 (by decide) (hts (.fieldLink RX8 33 "CensusDesk" "book" "LCensusDesk$Book;") (List.mem_of_getElem? (i := 19) rfl)) (fun _ h9 => h9) rfl hin rfl (by decide +kernel) rfl rfl (Nat.le_of_ble_eq_true rfl) dX8_init_45 (fun H locs hP hD hS => ?_)
  have hP : va_P (dC, dI) vwCl [(d0, .inr (8, [.ref q_1, .ref q_5, .ref q_13, .ref q_22, .null, .int 0, .int 0, .int 0, .int 0, .int 0])), (q_1, .inr (7, [.ref qb_3, .int 0])), (qb_3, .inl (cB_4, 4000, .inl ((fun _ => 0)))), (q_5, .inr (5, [.ref qw_7, .ref qn_9])), (qw_7, .inl (kw_8, 30, .inl fw_11)), (qn_9, .inl (kn_10, 30, .inl ((fun _ => 0)))), (q_13, .inr (1, [.ref qf_15, .ref qk_16, .ref qi_18, .ref qo_20, .int 0])), (qk_16, .inl (kk_17, 22, .inl ((fun _ => 0)))), (qi_18, .inl (ki_19, 5, .inl ((fun _ => 0)))), (qo_20, .inl (ko_21, 5, .inl ((fun _ => 0)))), (q_22, .inr (0, [.ref b1_24, .ref b2_25, .ref b3_26, .ref qs_27, .int 0, .int 0, .int 0, .int 0, .int 0, .int 0])), (qs_27, .inl (ks_28, 16, .inl ((fun _ => 0))))] H := hP
  have hD : va_D A [(d0, .inr (8, [.ref q_1, .ref q_5, .ref q_13, .ref q_22, .null, .int 0, .int 0, .int 0, .int 0, .int 0])), (q_1, .inr (7, [.ref qb_3, .int 0])), (qb_3, .inl (cB_4, 4000, .inl ((fun _ => 0)))), (q_5, .inr (5, [.ref qw_7, .ref qn_9])), (qw_7, .inl (kw_8, 30, .inl fw_11)), (qn_9, .inl (kn_10, 30, .inl ((fun _ => 0)))), (q_13, .inr (1, [.ref qf_15, .ref qk_16, .ref qi_18, .ref qo_20, .int 0])), (qk_16, .inl (kk_17, 22, .inl ((fun _ => 0)))), (qi_18, .inl (ki_19, 5, .inl ((fun _ => 0)))), (qo_20, .inl (ko_21, 5, .inl ((fun _ => 0)))), (q_22, .inr (0, [.ref b1_24, .ref b2_25, .ref b3_26, .ref qs_27, .int 0, .int 0, .int 0, .int 0, .int 0, .int 0])), (qs_27, .inl (ks_28, 16, .inl ((fun _ => 0))))] := hD
  refine lv_aload_n hx hb dX8_init_48 rfl (lv_at hl 0 rfl) ?_
  refine va_new (ci := 4) (fs := [.null, .null, .null, .null, .null, .null, .null, .null, .int 0, .int 0, .int 0, .int 0, .int 0, .int 0, .int 0, .int 0, .int 0, .int 0, .int 0]) (C := RX4) (T := TX4) (N := 19) hx hb hts hinX4 tyX4 tyX4_ok hown (hts (.classLink RX8 37 RX4) (List.mem_of_getElem? (i := 20) rfl)) (hts (.instantiable RX4 19) (List.mem_of_getElem? (i := 21) rfl)) (hts (.initialized RX4) (List.mem_of_getElem? (i := 22) rfl)) hK hP hD hS hA rfl defX4 (by decide +kernel) (by decide +kernel) dX8_init_49 (fun q_29 H hP hD hS => ?_)
  have hP : va_P (dC, dI) vwCl [(d0, .inr (8, [.ref q_1, .ref q_5, .ref q_13, .ref q_22, .null, .int 0, .int 0, .int 0, .int 0, .int 0])), (q_1, .inr (7, [.ref qb_3, .int 0])), (qb_3, .inl (cB_4, 4000, .inl ((fun _ => 0)))), (q_5, .inr (5, [.ref qw_7, .ref qn_9])), (qw_7, .inl (kw_8, 30, .inl fw_11)), (qn_9, .inl (kn_10, 30, .inl ((fun _ => 0)))), (q_13, .inr (1, [.ref qf_15, .ref qk_16, .ref qi_18, .ref qo_20, .int 0])), (qk_16, .inl (kk_17, 22, .inl ((fun _ => 0)))), (qi_18, .inl (ki_19, 5, .inl ((fun _ => 0)))), (qo_20, .inl (ko_21, 5, .inl ((fun _ => 0)))), (q_22, .inr (0, [.ref b1_24, .ref b2_25, .ref b3_26, .ref qs_27, .int 0, .int 0, .int 0, .int 0, .int 0, .int 0])), (qs_27, .inl (ks_28, 16, .inl ((fun _ => 0)))), (q_29, .inr (4, [.null, .null, .null, .null, .null, .null, .null, .null, .int 0, .int 0, .int 0, .int 0, .int 0, .int 0, .int 0, .int 0, .int 0, .int 0, .int 0]))] H := hP
  have hD : va_D A [(d0, .inr (8, [.ref q_1, .ref q_5, .ref q_13, .ref q_22, .null, .int 0, .int 0, .int 0, .int 0, .int 0])), (q_1, .inr (7, [.ref qb_3, .int 0])), (qb_3, .inl (cB_4, 4000, .inl ((fun _ => 0)))), (q_5, .inr (5, [.ref qw_7, .ref qn_9])), (qw_7, .inl (kw_8, 30, .inl fw_11)), (qn_9, .inl (kn_10, 30, .inl ((fun _ => 0)))), (q_13, .inr (1, [.ref qf_15, .ref qk_16, .ref qi_18, .ref qo_20, .int 0])), (qk_16, .inl (kk_17, 22, .inl ((fun _ => 0)))), (qi_18, .inl (ki_19, 5, .inl ((fun _ => 0)))), (qo_20, .inl (ko_21, 5, .inl ((fun _ => 0)))), (q_22, .inr (0, [.ref b1_24, .ref b2_25, .ref b3_26, .ref qs_27, .int 0, .int 0, .int 0, .int 0, .int 0, .int 0])), (qs_27, .inl (ks_28, 16, .inl ((fun _ => 0)))), (q_29, .inr (4, [.null, .null, .null, .null, .null, .null, .null, .null, .int 0, .int 0, .int 0, .int 0, .int 0, .int 0, .int 0, .int 0, .int 0, .int 0, .int 0]))] := hD
  refine W.widen (k := 31) (n := 16461) (by decide +kernel) (by decide +kernel) ?_
  refine lv_dup hx hb dX8_init_52 rfl ?_
  refine lv_aload_n hx hb dX8_init_53 rfl (lv_at hl 0 rfl) ?_
  refine va_get (D := (dC, dI)) (ci := 8) (v := .ref q_1) (C := RX8) (T := TX8) (N := 10) hx hb hts hinX8 hown hK hP 0 rfl rfl 0 (by decide) (hts (.fieldLink RX8 10 "CensusDesk" "tape" "LCensusDesk$Tape;") (List.mem_of_getElem? (i := 7) rfl)) (fun _ h9 => h9) rfl dX8_init_54 ?_
  refine lv_aload_n hx hb dX8_init_57 rfl (lv_at hl 0 rfl) ?_
  refine va_get (D := (dC, dI)) (ci := 8) (v := .ref q_5) (C := RX8) (T := TX8) (N := 10) hx hb hts hinX8 hown hK hP 0 rfl rfl 1 (by decide) (hts (.fieldLink RX8 19 "CensusDesk" "rules" "LCensusDesk$Rules;") (List.mem_of_getElem? (i := 11) rfl)) (fun _ h9 => h9) rfl dX8_init_58 ?_
  refine lv_aload_n hx hb dX8_init_61 rfl (lv_at hl 0 rfl) ?_
  refine va_get (D := (dC, dI)) (ci := 8) (v := .ref q_13) (C := RX8) (T := TX8) (N := 10) hx hb hts hinX8 hown hK hP 0 rfl rfl 2 (by decide) (hts (.fieldLink RX8 26 "CensusDesk" "log" "LCensusDesk$Failures;") (List.mem_of_getElem? (i := 15) rfl)) (fun _ h9 => h9) rfl dX8_init_62 ?_
  refine lv_aload_n hx hb dX8_init_65 rfl (lv_at hl 0 rfl) ?_
  refine va_get (D := (dC, dI)) (ci := 8) (v := .ref q_22) (C := RX8) (T := TX8) (N := 10) hx hb hts hinX8 hown hK hP 0 rfl rfl 3 (by decide) (hts (.fieldLink RX8 33 "CensusDesk" "book" "LCensusDesk$Book;") (List.mem_of_getElem? (i := 19) rfl)) (fun _ h9 => h9) rfl dX8_init_66 ?_
  have hPc := hP.sub (ws' := [(q_29, .inr (4, [.null, .null, .null, .null, .null, .null, .null, .null, .int 0, .int 0, .int 0, .int 0, .int 0, .int 0, .int 0, .int 0, .int 0, .int 0, .int 0]))]) [12] rfl
  have hDc := hD.sub (ws' := [(q_29, .inr (4, [.null, .null, .null, .null, .null, .null, .null, .null, .int 0, .int 0, .int 0, .int 0, .int 0, .int 0, .int 0, .int 0, .int 0, .int 0, .int 0]))]) [12] (by decide) rfl
  have hKc := hK.sub (tys' := []) [] rfl
  have hFc := va_free (wc := [(q_29, .inr (4, [.null, .null, .null, .null, .null, .null, .null, .null, .int 0, .int 0, .int 0, .int 0, .int 0, .int 0, .int 0, .int 0, .int 0, .int 0, .int 0]))]) hD hS hA [12] rfl
  refine va_callv (va_runI (As := [.ref q_1, .ref q_5, .ref q_13, .ref q_22]) (rest := [.ref q_29, .ref d0]) ⟨hx, hb, hml, hown, hts⟩ (c_X4_init l dC dI q_29 q_1 q_5 q_13 q_22 _ ) (cwI 4 hts gX8_init_X4_init rfl rfl rfl (hts (.initialized RX4) (List.mem_of_getElem? (i := 22) rfl)) (hts (.methodLink RX8 39 yX4_init) (List.mem_of_getElem? (i := 56) rfl)) (hts (.instanceMethod yX4_init) (List.mem_of_getElem? (i := 57) rfl)) rfl (by decide +kernel) ⟨Nat.le_of_ble_eq_true rfl, Nat.le_of_ble_eq_true rfl⟩) (kPreS hPc hKc hDc hN) rfl rfl hl.1 rfl (lv_room (Nat.le_of_ble_eq_true rfl)) dX8_init_69 ⟨(by decide +kernel), (by decide +kernel)⟩) hS (fun q _ h => hFc q h) hFc (fun u t H1 locs ht hvm hw hB hz1 hk1 hS => ?_)
  obtain ⟨h5_31, h6_32, h7_33, h8_34, a1_35, a2_36, a3_37, a4_38, a5_39, a6_40, hB⟩ := hB
  obtain ⟨hP, hD, hK⟩ := kJoin (wc := [(q_29, .inr (4, [.null, .null, .null, .null, .null, .null, .null, .null, .int 0, .int 0, .int 0, .int 0, .int 0, .int 0, .int 0, .int 0, .int 0, .int 0, .int 0]))]) (wr := [(d0, .inr (8, [.ref q_1, .ref q_5, .ref q_13, .ref q_22, .null, .int 0, .int 0, .int 0, .int 0, .int 0])), (q_1, .inr (7, [.ref qb_3, .int 0])), (qb_3, .inl (cB_4, 4000, .inl ((fun _ => 0)))), (q_5, .inr (5, [.ref qw_7, .ref qn_9])), (qw_7, .inl (kw_8, 30, .inl fw_11)), (qn_9, .inl (kn_10, 30, .inl ((fun _ => 0)))), (q_13, .inr (1, [.ref qf_15, .ref qk_16, .ref qi_18, .ref qo_20, .int 0])), (qk_16, .inl (kk_17, 22, .inl ((fun _ => 0)))), (qi_18, .inl (ki_19, 5, .inl ((fun _ => 0)))), (qo_20, .inl (ko_21, 5, .inl ((fun _ => 0)))), (q_22, .inr (0, [.ref b1_24, .ref b2_25, .ref b3_26, .ref qs_27, .int 0, .int 0, .int 0, .int 0, .int 0, .int 0])), (qs_27, .inl (ks_28, 16, .inl ((fun _ => 0))))]) (w1 := [(q_29, .inr (4, [.ref q_1, .ref q_5, .ref q_13, .ref q_22, .ref h5_31, .ref h6_32, .ref h7_33, .ref h8_34, .int 0, .int 0, .int 0, .int 0, .int 0, .int 0, .int 0, .int 0, .int 0, .int 0, .int 0])), (h7_33, .inr (2, [.ref a1_35, .ref a2_36, .ref a3_37, .ref a4_38, .ref a5_39, .ref a6_40, .int 0, .int 0, .int 0, .int 0, .int 0, .int 0, .int 0]))]) hP hD hK [12] [0, 1, 2, 3, 4, 5, 6, 7, 8, 9, 10, 11] rfl rfl (by decide) (by decide) hk1 hFc ht hvm hB
  have hK : va_K (dC, dI) vwCl [(cB_4, .byte), (kw_8, .int), (kn_10, .int), (kk_17, .int), (ki_19, .int), (ko_21, .int), (ks_28, .int)] s := hK
  generalize H1 = H at hP hS ⊢
  have hP : va_P (dC, dI) vwCl [(d0, .inr (8, [.ref q_1, .ref q_5, .ref q_13, .ref q_22, .null, .int 0, .int 0, .int 0, .int 0, .int 0])), (q_1, .inr (7, [.ref qb_3, .int 0])), (qb_3, .inl (cB_4, 4000, .inl ((fun _ => 0)))), (q_5, .inr (5, [.ref qw_7, .ref qn_9])), (qw_7, .inl (kw_8, 30, .inl fw_11)), (qn_9, .inl (kn_10, 30, .inl ((fun _ => 0)))), (q_13, .inr (1, [.ref qf_15, .ref qk_16, .ref qi_18, .ref qo_20, .int 0])), (qk_16, .inl (kk_17, 22, .inl ((fun _ => 0)))), (qi_18, .inl (ki_19, 5, .inl ((fun _ => 0)))), (qo_20, .inl (ko_21, 5, .inl ((fun _ => 0)))), (q_22, .inr (0, [.ref b1_24, .ref b2_25, .ref b3_26, .ref qs_27, .int 0, .int 0, .int 0, .int 0, .int 0, .int 0])), (qs_27, .inl (ks_28, 16, .inl ((fun _ => 0)))), (q_29, .inr (4, [.ref q_1, .ref q_5, .ref q_13, .ref q_22, .ref h5_31, .ref h6_32, .ref h7_33, .ref h8_34, .int 0, .int 0, .int 0, .int 0, .int 0, .int 0, .int 0, .int 0, .int 0, .int 0, .int 0])), (h7_33, .inr (2, [.ref a1_35, .ref a2_36, .ref a3_37, .ref a4_38, .ref a5_39, .ref a6_40, .int 0, .int 0, .int 0, .int 0, .int 0, .int 0, .int 0]))] H := hP
  have hD : va_D A [(d0, .inr (8, [.ref q_1, .ref q_5, .ref q_13, .ref q_22, .null, .int 0, .int 0, .int 0, .int 0, .int 0])), (q_1, .inr (7, [.ref qb_3, .int 0])), (qb_3, .inl (cB_4, 4000, .inl ((fun _ => 0)))), (q_5, .inr (5, [.ref qw_7, .ref qn_9])), (qw_7, .inl (kw_8, 30, .inl fw_11)), (qn_9, .inl (kn_10, 30, .inl ((fun _ => 0)))), (q_13, .inr (1, [.ref qf_15, .ref qk_16, .ref qi_18, .ref qo_20, .int 0])), (qk_16, .inl (kk_17, 22, .inl ((fun _ => 0)))), (qi_18, .inl (ki_19, 5, .inl ((fun _ => 0)))), (qo_20, .inl (ko_21, 5, .inl ((fun _ => 0)))), (q_22, .inr (0, [.ref b1_24, .ref b2_25, .ref b3_26, .ref qs_27, .int 0, .int 0, .int 0, .int 0, .int 0, .int 0])), (qs_27, .inl (ks_28, 16, .inl ((fun _ => 0)))), (q_29, .inr (4, [.ref q_1, .ref q_5, .ref q_13, .ref q_22, .ref h5_31, .ref h6_32, .ref h7_33, .ref h8_34, .int 0, .int 0, .int 0, .int 0, .int 0, .int 0, .int 0, .int 0, .int 0, .int 0, .int 0])), (h7_33, .inr (2, [.ref a1_35, .ref a2_36, .ref a3_37, .ref a4_38, .ref a5_39, .ref a6_40, .int 0, .int 0, .int 0, .int 0, .int 0, .int 0, .int 0]))] := hD
  try dsimp only at hw
  refine W.widen (k := 45) (n := 30561) (by decide +kernel) (by decide +kernel) ?_
  refine va_putF (D := (dC, dI)) (ci := 8) (v := .ref q_29) (ty := .object "CensusDesk$Reader") (C := RX8) (T := TX8) (N := 10) hx hb hts hinX8 tyX8 tyX8_ok nmX8 hown hK hP hD hS 0 rfl rfl 4 (by decide) (hts (.fieldLink RX8 42 "CensusDesk" "reader" "LCensusDesk$Reader;") (List.mem_of_getElem? (i := 23) rfl)) (fun _ h9 => h9) rfl hin rfl (by decide +kernel) rfl rfl (Nat.le_of_ble_eq_true rfl) dX8_init_72 (fun H locs hP hD hS => ?_)
  have hP : va_P (dC, dI) vwCl [(d0, .inr (8, [.ref q_1, .ref q_5, .ref q_13, .ref q_22, .ref q_29, .int 0, .int 0, .int 0, .int 0, .int 0])), (q_1, .inr (7, [.ref qb_3, .int 0])), (qb_3, .inl (cB_4, 4000, .inl ((fun _ => 0)))), (q_5, .inr (5, [.ref qw_7, .ref qn_9])), (qw_7, .inl (kw_8, 30, .inl fw_11)), (qn_9, .inl (kn_10, 30, .inl ((fun _ => 0)))), (q_13, .inr (1, [.ref qf_15, .ref qk_16, .ref qi_18, .ref qo_20, .int 0])), (qk_16, .inl (kk_17, 22, .inl ((fun _ => 0)))), (qi_18, .inl (ki_19, 5, .inl ((fun _ => 0)))), (qo_20, .inl (ko_21, 5, .inl ((fun _ => 0)))), (q_22, .inr (0, [.ref b1_24, .ref b2_25, .ref b3_26, .ref qs_27, .int 0, .int 0, .int 0, .int 0, .int 0, .int 0])), (qs_27, .inl (ks_28, 16, .inl ((fun _ => 0)))), (q_29, .inr (4, [.ref q_1, .ref q_5, .ref q_13, .ref q_22, .ref h5_31, .ref h6_32, .ref h7_33, .ref h8_34, .int 0, .int 0, .int 0, .int 0, .int 0, .int 0, .int 0, .int 0, .int 0, .int 0, .int 0])), (h7_33, .inr (2, [.ref a1_35, .ref a2_36, .ref a3_37, .ref a4_38, .ref a5_39, .ref a6_40, .int 0, .int 0, .int 0, .int 0, .int 0, .int 0, .int 0]))] H := hP
  have hD : va_D A [(d0, .inr (8, [.ref q_1, .ref q_5, .ref q_13, .ref q_22, .ref q_29, .int 0, .int 0, .int 0, .int 0, .int 0])), (q_1, .inr (7, [.ref qb_3, .int 0])), (qb_3, .inl (cB_4, 4000, .inl ((fun _ => 0)))), (q_5, .inr (5, [.ref qw_7, .ref qn_9])), (qw_7, .inl (kw_8, 30, .inl fw_11)), (qn_9, .inl (kn_10, 30, .inl ((fun _ => 0)))), (q_13, .inr (1, [.ref qf_15, .ref qk_16, .ref qi_18, .ref qo_20, .int 0])), (qk_16, .inl (kk_17, 22, .inl ((fun _ => 0)))), (qi_18, .inl (ki_19, 5, .inl ((fun _ => 0)))), (qo_20, .inl (ko_21, 5, .inl ((fun _ => 0)))), (q_22, .inr (0, [.ref b1_24, .ref b2_25, .ref b3_26, .ref qs_27, .int 0, .int 0, .int 0, .int 0, .int 0, .int 0])), (qs_27, .inl (ks_28, 16, .inl ((fun _ => 0)))), (q_29, .inr (4, [.ref q_1, .ref q_5, .ref q_13, .ref q_22, .ref h5_31, .ref h6_32, .ref h7_33, .ref h8_34, .int 0, .int 0, .int 0, .int 0, .int 0, .int 0, .int 0, .int 0, .int 0, .int 0, .int 0])), (h7_33, .inr (2, [.ref a1_35, .ref a2_36, .ref a3_37, .ref a4_38, .ref a5_39, .ref a6_40, .int 0, .int 0, .int 0, .int 0, .int 0, .int 0, .int 0]))] := hD
  have hP9 := hP.sub (ws' := [(d0, .inr (8, [.ref q_1, .ref q_5, .ref q_13, .ref q_22, .ref q_29, .int 0, .int 0, .int 0, .int 0, .int 0])), (q_1, .inr (7, [.ref qb_3, .int 0])), (qb_3, .inl (cB_4, 4000, .inl ((fun _ => 0)))), (q_5, .inr (5, [.ref qw_7, .ref qn_9])), (qw_7, .inl (kw_8, 30, .inl fw_11)), (qn_9, .inl (kn_10, 30, .inl ((fun _ => 0)))), (q_13, .inr (1, [.ref qf_15, .ref qk_16, .ref qi_18, .ref qo_20, .int 0])), (qk_16, .inl (kk_17, 22, .inl ((fun _ => 0)))), (qi_18, .inl (ki_19, 5, .inl ((fun _ => 0)))), (qo_20, .inl (ko_21, 5, .inl ((fun _ => 0)))), (q_22, .inr (0, [.ref b1_24, .ref b2_25, .ref b3_26, .ref qs_27, .int 0, .int 0, .int 0, .int 0, .int 0, .int 0])), (qs_27, .inl (ks_28, 16, .inl ((fun _ => 0)))), (q_29, .inr (4, [.ref q_1, .ref q_5, .ref q_13, .ref q_22, .ref h5_31, .ref h6_32, .ref h7_33, .ref h8_34, .int 0, .int 0, .int 0, .int 0, .int 0, .int 0, .int 0, .int 0, .int 0, .int 0, .int 0])), (h7_33, .inr (2, [.ref a1_35, .ref a2_36, .ref a3_37, .ref a4_38, .ref a5_39, .ref a6_40, .int 0, .int 0, .int 0, .int 0, .int 0, .int 0, .int 0]))]) [0, 1, 2, 3, 4, 5, 6, 7, 8, 9, 10, 11, 12, 13] rfl
  have hD9 := hD.sub (ws' := [(d0, .inr (8, [.ref q_1, .ref q_5, .ref q_13, .ref q_22, .ref q_29, .int 0, .int 0, .int 0, .int 0, .int 0])), (q_1, .inr (7, [.ref qb_3, .int 0])), (qb_3, .inl (cB_4, 4000, .inl ((fun _ => 0)))), (q_5, .inr (5, [.ref qw_7, .ref qn_9])), (qw_7, .inl (kw_8, 30, .inl fw_11)), (qn_9, .inl (kn_10, 30, .inl ((fun _ => 0)))), (q_13, .inr (1, [.ref qf_15, .ref qk_16, .ref qi_18, .ref qo_20, .int 0])), (qk_16, .inl (kk_17, 22, .inl ((fun _ => 0)))), (qi_18, .inl (ki_19, 5, .inl ((fun _ => 0)))), (qo_20, .inl (ko_21, 5, .inl ((fun _ => 0)))), (q_22, .inr (0, [.ref b1_24, .ref b2_25, .ref b3_26, .ref qs_27, .int 0, .int 0, .int 0, .int 0, .int 0, .int 0])), (qs_27, .inl (ks_28, 16, .inl ((fun _ => 0)))), (q_29, .inr (4, [.ref q_1, .ref q_5, .ref q_13, .ref q_22, .ref h5_31, .ref h6_32, .ref h7_33, .ref h8_34, .int 0, .int 0, .int 0, .int 0, .int 0, .int 0, .int 0, .int 0, .int 0, .int 0, .int 0])), (h7_33, .inr (2, [.ref a1_35, .ref a2_36, .ref a3_37, .ref a4_38, .ref a5_39, .ref a6_40, .int 0, .int 0, .int 0, .int 0, .int 0, .int 0, .int 0]))]) [0, 1, 2, 3, 4, 5, 6, 7, 8, 9, 10, 11, 12, 13] (by decide) rfl
  have hK9 := hK.sub (tys' := [(cB_4, .byte), (kw_8, .int), (kn_10, .int), (kk_17, .int), (ki_19, .int), (ko_21, .int), (ks_28, .int)]) [0, 1, 2, 3, 4, 5, 6] rfl
  exact W.vret hx hb hr (fun t ht hW => ⟨⟨(), rfl, trivial, q_1, q_5, q_13, q_22, q_29, qb_3, qw_7, qn_9, qf_15, qk_16, qi_18, qo_20, b1_24, b2_25, b3_26, qs_27, h5_31, h6_32, h7_33, h8_34, a1_35, a2_36, a3_37, a4_38, a5_39, a6_40, cB_4, kw_8, kn_10, kk_17, ki_19, ko_21, ks_28, fw_11, hf_12, ⟨by rw [ht]; exact hP9, va_K.moved hW.alike hK9, hD9⟩⟩, hS.F ht⟩) hS.2.2 dX8_init_75
set_option maxHeartbeats 1000000 in
set_option maxRecDepth 100000 in
theorem c_X8_feed (l : Launch) (dC : Nat → ClassId) (dI : Nat → Nat → Nat) (d0 d1 d2 d3 d4 d5 : Nat) (t1 : Nat) (kt : ClassId) (f : Nat → Int32) (wa wb wc wd we : Int32) (sz : Nat)  : Met l yX8_feed wsX8_feed ({ frames := 1, cells := 0, slots := 0, locals := 22 }) (va_Pc [.ref d0, .int wa, .int wb, .int wc, .int wd, .int we] (kPre dC dI [(kt, .byte)] [(d0, .inr (8, [.ref d1, .ref d2, .ref d3, .ref d4, .ref d5, .int 0, .int 0, .int 0, .int 0, .int 0])), (d1, .inr (7, [.ref t1, .int 0])), (t1, .inl (kt, 4000, .inl f))] sz)) (va_Qi (fun (r : Int32) (_ : Unit) => r = 20) (fun (_ : Unit) (_ : State) => True) (va_A [(d0, .inr (8, [.ref d1, .ref d2, .ref d3, .ref d4, .ref d5, .int 0, .int 0, .int 0, .int 0, .int 0])), (d1, .inr (7, [.ref t1, .int 0])), (t1, .inl (kt, 4000, .inl f))] sz)) 0 0 (va_A [(d0, .inr (8, [.ref d1, .ref d2, .ref d3, .ref d4, .ref d5, .int 0, .int 0, .int 0, .int 0, .int 0])), (d1, .inr (7, [.ref t1, .int 0])), (t1, .inl (kt, 4000, .inl f))] sz) := by
  refine Met.ofW (cc := cX8_feed) (maxL := 6) (ret := (some .int)) (by decide) rfl ?_
  intro p e s m args below meth c s₁ B hml hv
  obtain ⟨rfl, hsz, hP, hK, hD0, hN⟩ := hv
  have hx := B.exec
  have hb := B.bytes
  have hr := B.returns
  have hts := atoms_spec (ws := wsX8_feed) B.pre
  have hown : s.vm.findClass RX8 = some m.cls := findClass_of_methodNamed B.named
  have hlocks := B.notSynchronized
  subst hsz
  have hD := hD0.self (sz := s.heap.size)
  generalize hAe : va_A [(d0, .inr (8, [.ref d1, .ref d2, .ref d3, .ref d4, .ref d5, .int 0, .int 0, .int 0, .int 0, .int 0])), (d1, .inr (7, [.ref t1, .int 0])), (t1, .inl (kt, 4000, .inl f))] s.heap.size = A at hD ⊢
  have hA : ∀ q : Nat, s.heap.size ≤ q → A q := fun q h => by rw [← hAe]; exact Or.inr h
  have hS : va_S A s.heap s.heap [] := va_S.rf
  have hP : va_P (dC, dI) vwCl [(d0, .inr (8, [.ref d1, .ref d2, .ref d3, .ref d4, .ref d5, .int 0, .int 0, .int 0, .int 0, .int 0])), (d1, .inr (7, [.ref t1, .int 0])), (t1, .inl (kt, 4000, .inl f))] s.heap := hP
  have hinX8 : ∀ w ∈ wsX80, w ∈ wsX8_feed := fun _ h => List.mem_cons_of_mem _ (List.mem_append_left _ (List.mem_append_right _ h))
  have hinX7 : ∀ w ∈ wsX70, w ∈ wsX8_feed := fun _ h => List.mem_cons_of_mem _ (List.mem_append_right _ h)
  have hl := lv_entry ([.ref d0, .int wa, .int wb, .int wc, .int wd, .int we]) (n := 6) (Nat.le_of_ble_eq_true rfl)
  rw [lg_entry_eq]
  generalize (lg_sl ([.ref d0, .int wa, .int wb, .int wc, .int wd, .int we]) ++ List.replicate (6 - (lg_sl ([.ref d0, .int wa, .int wb, .int wc, .int wd, .int we])).length) Slot.unset).toArray = ls at hl ⊢
  have hl : lv_has ls 6 [(0, .ref d0), (1, .int wa), (2, .int wb), (3, .int wc), (4, .int wd), (5, .int we)] := hl
  refine lv_aload_n hx hb dX8_feed_0 rfl (lv_at hl 0 rfl) ?_
  refine va_get (D := (dC, dI)) (ci := 8) (v := .ref d1) (C := RX8) (T := TX8) (N := 10) hx hb hts hinX8 hown hK hP 0 rfl rfl 0 (by decide) (hts (.fieldLink RX8 10 "CensusDesk" "tape" "LCensusDesk$Tape;") (List.mem_of_getElem? (i := 1) rfl)) (fun _ h9 => h9) rfl dX8_feed_1 ?_
  refine lv_bipush (v := 20) hx hb dX8_feed_4 (by decide) ?_
  have hPc := hP.sub (ws' := [(d1, .inr (7, [.ref t1, .int 0]))]) [1] rfl
  have hDc := hD.sub (ws' := [(d1, .inr (7, [.ref t1, .int 0]))]) [1] (by decide) rfl
  have hKc := hK.sub (tys' := []) [] rfl
  have hFc := va_free (wc := [(d1, .inr (7, [.ref t1, .int 0]))]) hD hS hA [1] rfl
  refine va_calli (va_runV (As := [.int 20]) (rest := []) ⟨hx, hb, hml, hown, hts⟩ (c_X7_hasRoomFor l dC dI d1 t1 0 20 _ ) (cwV 1 hts gX8_feed_X7_hasRoomFor rfl rfl rfl (by decide +kernel) ⟨Nat.le_of_ble_eq_true rfl, Nat.le_of_ble_eq_true rfl⟩) (kPreV hPc hKc hDc hN (va_recv hKc hPc (ci := 7) (q0 := 0) rfl rfl)) rfl rfl hl.1 rfl (lv_room (Nat.le_of_ble_eq_true rfl)) dX8_feed_6 ⟨(by decide +kernel), (by decide +kernel)⟩) hS (fun q _ h => hFc q h) hFc (fun r_1 u t H1 locs ht hvm hw hB hz1 hk1 hS => ?_)
  obtain ⟨hP, hD, hK⟩ := kJoin (wc := [(d1, .inr (7, [.ref t1, .int 0]))]) (wr := [(d0, .inr (8, [.ref d1, .ref d2, .ref d3, .ref d4, .ref d5, .int 0, .int 0, .int 0, .int 0, .int 0])), (t1, .inl (kt, 4000, .inl f))]) (w1 := [(d1, .inr (7, [.ref t1, .int 0]))]) hP hD hK [1] [0, 2] rfl rfl (by decide) (by decide) hk1 hFc ht hvm hB
  have hK : va_K (dC, dI) vwCl [(kt, .byte)] s := hK
  generalize H1 = H at hP hS ⊢
  have hP : va_P (dC, dI) vwCl [(d0, .inr (8, [.ref d1, .ref d2, .ref d3, .ref d4, .ref d5, .int 0, .int 0, .int 0, .int 0, .int 0])), (t1, .inl (kt, 4000, .inl f)), (d1, .inr (7, [.ref t1, .int 0]))] H := hP
  have hD : va_D A [(d0, .inr (8, [.ref d1, .ref d2, .ref d3, .ref d4, .ref d5, .int 0, .int 0, .int 0, .int 0, .int 0])), (t1, .inl (kt, 4000, .inl f)), (d1, .inr (7, [.ref t1, .int 0]))] := hD
  try dsimp only at hw
  have hw : r_1 = 1 := hw.trans (by decide)
  subst hw
  refine lv_if_ne (tgt := 14) hx hb dX8_feed_9 (by decide) (fun c_2 => ?_) (fun c_2 => absurd c_2 (by decide))
  refine lv_aload_n hx hb dX8_feed_14 rfl (lv_at hl 0 rfl) ?_
  refine va_get (D := (dC, dI)) (ci := 8) (v := .int 0) (C := RX8) (T := TX8) (N := 10) hx hb hts hinX8 hown hK hP 0 rfl rfl 5 (by decide) (hts (.fieldLink RX8 50 "CensusDesk" "held" "Z") (List.mem_of_getElem? (i := 2) rfl)) (fun _ h9 => h9) rfl dX8_feed_15 ?_
  refine lv_if_eq (tgt := 24) hx hb dX8_feed_18 (by decide) (fun c_3 => ?_) (fun c_3 => absurd c_3 (by decide))
  refine lv_aload_n hx hb dX8_feed_24 rfl (lv_at hl 0 rfl) ?_
  refine va_get (D := (dC, dI)) (ci := 8) (v := .ref d1) (C := RX8) (T := TX8) (N := 10) hx hb hts hinX8 hown hK hP 0 rfl rfl 0 (by decide) (hts (.fieldLink RX8 10 "CensusDesk" "tape" "LCensusDesk$Tape;") (List.mem_of_getElem? (i := 1) rfl)) (fun _ h9 => h9) rfl dX8_feed_25 ?_
  refine lv_iload_n hx hb dX8_feed_28 rfl (lv_at hl 1 rfl) ?_
  have hPc := hP.sub (ws' := [(d1, .inr (7, [.ref t1, .int 0])), (t1, .inl (kt, 4000, .inl f))]) [2, 1] rfl
  have hDc := hD.sub (ws' := [(d1, .inr (7, [.ref t1, .int 0])), (t1, .inl (kt, 4000, .inl f))]) [2, 1] (by decide) rfl
  have hKc := hK.sub (tys' := [(kt, .byte)]) [0] rfl
  have hFc := va_free (wc := [(d1, .inr (7, [.ref t1, .int 0])), (t1, .inl (kt, 4000, .inl f))]) hD hS hA [2, 1] rfl
  refine va_callv (va_runV (As := [.int wa]) (rest := []) ⟨hx, hb, hml, hown, hts⟩ (c_X7_append l dC dI d1 t1 kt 0 f wa _ (by decide)) (cwV 1 hts gX8_feed_X7_append rfl rfl rfl (by decide +kernel) ⟨Nat.le_of_ble_eq_true rfl, Nat.le_of_ble_eq_true rfl⟩) (kPreV hPc hKc hDc hN (va_recv hKc hPc (ci := 7) (q0 := 0) rfl rfl)) rfl rfl hl.1 rfl (lv_room (Nat.le_of_ble_eq_true rfl)) dX8_feed_29 ⟨(by decide +kernel), (by decide +kernel)⟩) hS (fun q _ h => hFc q h) hFc (fun u t H1 locs ht hvm hw hB hz1 hk1 hS => ?_)
  obtain ⟨f2_5, hB⟩ := hB
  obtain ⟨hP, hD, hK⟩ := kJoin (wc := [(d1, .inr (7, [.ref t1, .int 0])), (t1, .inl (kt, 4000, .inl f))]) (wr := [(d0, .inr (8, [.ref d1, .ref d2, .ref d3, .ref d4, .ref d5, .int 0, .int 0, .int 0, .int 0, .int 0]))]) (w1 := [(d1, .inr (7, [.ref t1, .int (nI (0 + 4))])), (t1, .inl (kt, 4000, .inl f2_5))]) hP hD hK [2, 1] [0] rfl rfl (by decide) (by decide) hk1 hFc ht hvm hB
  have hK : va_K (dC, dI) vwCl [(kt, .byte), (kt, .byte)] s := hK
  have hK := hK.sub (tys' := [(kt, .byte)]) [1] rfl
  generalize H1 = H at hP hS ⊢
  have hP : va_P (dC, dI) vwCl [(d0, .inr (8, [.ref d1, .ref d2, .ref d3, .ref d4, .ref d5, .int 0, .int 0, .int 0, .int 0, .int 0])), (d1, .inr (7, [.ref t1, .int (nI (0 + 4))])), (t1, .inl (kt, 4000, .inl f2_5))] H := hP
  have hD : va_D A [(d0, .inr (8, [.ref d1, .ref d2, .ref d3, .ref d4, .ref d5, .int 0, .int 0, .int 0, .int 0, .int 0])), (d1, .inr (7, [.ref t1, .int (nI (0 + 4))])), (t1, .inl (kt, 4000, .inl f2_5))] := hD
  try dsimp only at hw
  refine lv_aload_n hx hb dX8_feed_32 rfl (lv_at hl 0 rfl) ?_
  refine va_get (D := (dC, dI)) (ci := 8) (v := .ref d1) (C := RX8) (T := TX8) (N := 10) hx hb hts hinX8 hown hK hP 0 rfl rfl 0 (by decide) (hts (.fieldLink RX8 10 "CensusDesk" "tape" "LCensusDesk$Tape;") (List.mem_of_getElem? (i := 1) rfl)) (fun _ h9 => h9) rfl dX8_feed_33 ?_
  refine lv_iload_n hx hb dX8_feed_36 rfl (lv_at hl 2 rfl) ?_
  have hPc := hP.sub (ws' := [(d1, .inr (7, [.ref t1, .int (nI (0 + 4))])), (t1, .inl (kt, 4000, .inl f2_5))]) [1, 2] rfl
  have hDc := hD.sub (ws' := [(d1, .inr (7, [.ref t1, .int (nI (0 + 4))])), (t1, .inl (kt, 4000, .inl f2_5))]) [1, 2] (by decide) rfl
  have hKc := hK.sub (tys' := [(kt, .byte)]) [0] rfl
  have hFc := va_free (wc := [(d1, .inr (7, [.ref t1, .int (nI (0 + 4))])), (t1, .inl (kt, 4000, .inl f2_5))]) hD hS hA [1, 2] rfl
  refine va_callv (va_runV (As := [.int wb]) (rest := []) ⟨hx, hb, hml, hown, hts⟩ (c_X7_append l dC dI d1 t1 kt (0 + 4) f2_5 wb _ (by decide)) (cwV 1 hts gX8_feed_X7_append rfl rfl rfl (by decide +kernel) ⟨Nat.le_of_ble_eq_true rfl, Nat.le_of_ble_eq_true rfl⟩) (kPreV hPc hKc hDc hN (va_recv hKc hPc (ci := 7) (q0 := 0) rfl rfl)) rfl rfl hl.1 rfl (lv_room (Nat.le_of_ble_eq_true rfl)) dX8_feed_37 ⟨(by decide +kernel), (by decide +kernel)⟩) hS (fun q _ h => hFc q h) hFc (fun u t H1 locs ht hvm hw hB hz1 hk1 hS => ?_)
  obtain ⟨f2_7, hB⟩ := hB
  obtain ⟨hP, hD, hK⟩ := kJoin (wc := [(d1, .inr (7, [.ref t1, .int (nI (0 + 4))])), (t1, .inl (kt, 4000, .inl f2_5))]) (wr := [(d0, .inr (8, [.ref d1, .ref d2, .ref d3, .ref d4, .ref d5, .int 0, .int 0, .int 0, .int 0, .int 0]))]) (w1 := [(d1, .inr (7, [.ref t1, .int (nI ((0 + 4) + 4))])), (t1, .inl (kt, 4000, .inl f2_7))]) hP hD hK [1, 2] [0] rfl rfl (by decide) (by decide) hk1 hFc ht hvm hB
  have hK : va_K (dC, dI) vwCl [(kt, .byte), (kt, .byte)] s := hK
  have hK := hK.sub (tys' := [(kt, .byte)]) [1] rfl
  generalize H1 = H at hP hS ⊢
  have hP : va_P (dC, dI) vwCl [(d0, .inr (8, [.ref d1, .ref d2, .ref d3, .ref d4, .ref d5, .int 0, .int 0, .int 0, .int 0, .int 0])), (d1, .inr (7, [.ref t1, .int (nI ((0 + 4) + 4))])), (t1, .inl (kt, 4000, .inl f2_7))] H := hP
  have hD : va_D A [(d0, .inr (8, [.ref d1, .ref d2, .ref d3, .ref d4, .ref d5, .int 0, .int 0, .int 0, .int 0, .int 0])), (d1, .inr (7, [.ref t1, .int (nI ((0 + 4) + 4))])), (t1, .inl (kt, 4000, .inl f2_7))] := hD
  try dsimp only at hw
  refine lv_aload_n hx hb dX8_feed_40 rfl (lv_at hl 0 rfl) ?_
  refine va_get (D := (dC, dI)) (ci := 8) (v := .ref d1) (C := RX8) (T := TX8) (N := 10) hx hb hts hinX8 hown hK hP 0 rfl rfl 0 (by decide) (hts (.fieldLink RX8 10 "CensusDesk" "tape" "LCensusDesk$Tape;") (List.mem_of_getElem? (i := 1) rfl)) (fun _ h9 => h9) rfl dX8_feed_41 ?_
  refine lv_iload_n hx hb dX8_feed_44 rfl (lv_at hl 3 rfl) ?_
  have hPc := hP.sub (ws' := [(d1, .inr (7, [.ref t1, .int (nI ((0 + 4) + 4))])), (t1, .inl (kt, 4000, .inl f2_7))]) [1, 2] rfl
  have hDc := hD.sub (ws' := [(d1, .inr (7, [.ref t1, .int (nI ((0 + 4) + 4))])), (t1, .inl (kt, 4000, .inl f2_7))]) [1, 2] (by decide) rfl
  have hKc := hK.sub (tys' := [(kt, .byte)]) [0] rfl
  have hFc := va_free (wc := [(d1, .inr (7, [.ref t1, .int (nI ((0 + 4) + 4))])), (t1, .inl (kt, 4000, .inl f2_7))]) hD hS hA [1, 2] rfl
  refine va_callv (va_runV (As := [.int wc]) (rest := []) ⟨hx, hb, hml, hown, hts⟩ (c_X7_append l dC dI d1 t1 kt ((0 + 4) + 4) f2_7 wc _ (by decide)) (cwV 1 hts gX8_feed_X7_append rfl rfl rfl (by decide +kernel) ⟨Nat.le_of_ble_eq_true rfl, Nat.le_of_ble_eq_true rfl⟩) (kPreV hPc hKc hDc hN (va_recv hKc hPc (ci := 7) (q0 := 0) rfl rfl)) rfl rfl hl.1 rfl (lv_room (Nat.le_of_ble_eq_true rfl)) dX8_feed_45 ⟨(by decide +kernel), (by decide +kernel)⟩) hS (fun q _ h => hFc q h) hFc (fun u t H1 locs ht hvm hw hB hz1 hk1 hS => ?_)
  obtain ⟨f2_9, hB⟩ := hB
  obtain ⟨hP, hD, hK⟩ := kJoin (wc := [(d1, .inr (7, [.ref t1, .int (nI ((0 + 4) + 4))])), (t1, .inl (kt, 4000, .inl f2_7))]) (wr := [(d0, .inr (8, [.ref d1, .ref d2, .ref d3, .ref d4, .ref d5, .int 0, .int 0, .int 0, .int 0, .int 0]))]) (w1 := [(d1, .inr (7, [.ref t1, .int (nI (((0 + 4) + 4) + 4))])), (t1, .inl (kt, 4000, .inl f2_9))]) hP hD hK [1, 2] [0] rfl rfl (by decide) (by decide) hk1 hFc ht hvm hB
  have hK : va_K (dC, dI) vwCl [(kt, .byte), (kt, .byte)] s := hK
  have hK := hK.sub (tys' := [(kt, .byte)]) [1] rfl
  generalize H1 = H at hP hS ⊢
  have hP : va_P (dC, dI) vwCl [(d0, .inr (8, [.ref d1, .ref d2, .ref d3, .ref d4, .ref d5, .int 0, .int 0, .int 0, .int 0, .int 0])), (d1, .inr (7, [.ref t1, .int (nI (((0 + 4) + 4) + 4))])), (t1, .inl (kt, 4000, .inl f2_9))] H := hP
  have hD : va_D A [(d0, .inr (8, [.ref d1, .ref d2, .ref d3, .ref d4, .ref d5, .int 0, .int 0, .int 0, .int 0, .int 0])), (d1, .inr (7, [.ref t1, .int (nI (((0 + 4) + 4) + 4))])), (t1, .inl (kt, 4000, .inl f2_9))] := hD
  try dsimp only at hw
  refine lv_aload_n hx hb dX8_feed_48 rfl (lv_at hl 0 rfl) ?_
  refine va_get (D := (dC, dI)) (ci := 8) (v := .ref d1) (C := RX8) (T := TX8) (N := 10) hx hb hts hinX8 hown hK hP 0 rfl rfl 0 (by decide) (hts (.fieldLink RX8 10 "CensusDesk" "tape" "LCensusDesk$Tape;") (List.mem_of_getElem? (i := 1) rfl)) (fun _ h9 => h9) rfl dX8_feed_49 ?_
  refine lv_iload hx hb dX8_feed_52 (lv_at hl 4 rfl) ?_
  have hPc := hP.sub (ws' := [(d1, .inr (7, [.ref t1, .int (nI (((0 + 4) + 4) + 4))])), (t1, .inl (kt, 4000, .inl f2_9))]) [1, 2] rfl
  have hDc := hD.sub (ws' := [(d1, .inr (7, [.ref t1, .int (nI (((0 + 4) + 4) + 4))])), (t1, .inl (kt, 4000, .inl f2_9))]) [1, 2] (by decide) rfl
  have hKc := hK.sub (tys' := [(kt, .byte)]) [0] rfl
  have hFc := va_free (wc := [(d1, .inr (7, [.ref t1, .int (nI (((0 + 4) + 4) + 4))])), (t1, .inl (kt, 4000, .inl f2_9))]) hD hS hA [1, 2] rfl
  refine va_callv (va_runV (As := [.int wd]) (rest := []) ⟨hx, hb, hml, hown, hts⟩ (c_X7_append l dC dI d1 t1 kt (((0 + 4) + 4) + 4) f2_9 wd _ (by decide)) (cwV 1 hts gX8_feed_X7_append rfl rfl rfl (by decide +kernel) ⟨Nat.le_of_ble_eq_true rfl, Nat.le_of_ble_eq_true rfl⟩) (kPreV hPc hKc hDc hN (va_recv hKc hPc (ci := 7) (q0 := 0) rfl rfl)) rfl rfl hl.1 rfl (lv_room (Nat.le_of_ble_eq_true rfl)) dX8_feed_54 ⟨(by decide +kernel), (by decide +kernel)⟩) hS (fun q _ h => hFc q h) hFc (fun u t H1 locs ht hvm hw hB hz1 hk1 hS => ?_)
  obtain ⟨f2_11, hB⟩ := hB
  obtain ⟨hP, hD, hK⟩ := kJoin (wc := [(d1, .inr (7, [.ref t1, .int (nI (((0 + 4) + 4) + 4))])), (t1, .inl (kt, 4000, .inl f2_9))]) (wr := [(d0, .inr (8, [.ref d1, .ref d2, .ref d3, .ref d4, .ref d5, .int 0, .int 0, .int 0, .int 0, .int 0]))]) (w1 := [(d1, .inr (7, [.ref t1, .int (nI ((((0 + 4) + 4) + 4) + 4))])), (t1, .inl (kt, 4000, .inl f2_11))]) hP hD hK [1, 2] [0] rfl rfl (by decide) (by decide) hk1 hFc ht hvm hB
  have hK : va_K (dC, dI) vwCl [(kt, .byte), (kt, .byte)] s := hK
  have hK := hK.sub (tys' := [(kt, .byte)]) [1] rfl
  generalize H1 = H at hP hS ⊢
  have hP : va_P (dC, dI) vwCl [(d0, .inr (8, [.ref d1, .ref d2, .ref d3, .ref d4, .ref d5, .int 0, .int 0, .int 0, .int 0, .int 0])), (d1, .inr (7, [.ref t1, .int (nI ((((0 + 4) + 4) + 4) + 4))])), (t1, .inl (kt, 4000, .inl f2_11))] H := hP
  have hD : va_D A [(d0, .inr (8, [.ref d1, .ref d2, .ref d3, .ref d4, .ref d5, .int 0, .int 0, .int 0, .int 0, .int 0])), (d1, .inr (7, [.ref t1, .int (nI ((((0 + 4) + 4) + 4) + 4))])), (t1, .inl (kt, 4000, .inl f2_11))] := hD
  try dsimp only at hw
  refine lv_aload_n hx hb dX8_feed_57 rfl (lv_at hl 0 rfl) ?_
  refine va_get (D := (dC, dI)) (ci := 8) (v := .ref d1) (C := RX8) (T := TX8) (N := 10) hx hb hts hinX8 hown hK hP 0 rfl rfl 0 (by decide) (hts (.fieldLink RX8 10 "CensusDesk" "tape" "LCensusDesk$Tape;") (List.mem_of_getElem? (i := 1) rfl)) (fun _ h9 => h9) rfl dX8_feed_58 ?_
  refine lv_iload hx hb dX8_feed_61 (lv_at hl 5 rfl) ?_
  have hPc := hP.sub (ws' := [(d1, .inr (7, [.ref t1, .int (nI ((((0 + 4) + 4) + 4) + 4))])), (t1, .inl (kt, 4000, .inl f2_11))]) [1, 2] rfl
  have hDc := hD.sub (ws' := [(d1, .inr (7, [.ref t1, .int (nI ((((0 + 4) + 4) + 4) + 4))])), (t1, .inl (kt, 4000, .inl f2_11))]) [1, 2] (by decide) rfl
  have hKc := hK.sub (tys' := [(kt, .byte)]) [0] rfl
  have hFc := va_free (wc := [(d1, .inr (7, [.ref t1, .int (nI ((((0 + 4) + 4) + 4) + 4))])), (t1, .inl (kt, 4000, .inl f2_11))]) hD hS hA [1, 2] rfl
  refine va_callv (va_runV (As := [.int we]) (rest := []) ⟨hx, hb, hml, hown, hts⟩ (c_X7_append l dC dI d1 t1 kt ((((0 + 4) + 4) + 4) + 4) f2_11 we _ (by decide)) (cwV 1 hts gX8_feed_X7_append rfl rfl rfl (by decide +kernel) ⟨Nat.le_of_ble_eq_true rfl, Nat.le_of_ble_eq_true rfl⟩) (kPreV hPc hKc hDc hN (va_recv hKc hPc (ci := 7) (q0 := 0) rfl rfl)) rfl rfl hl.1 rfl (lv_room (Nat.le_of_ble_eq_true rfl)) dX8_feed_63 ⟨(by decide +kernel), (by decide +kernel)⟩) hS (fun q _ h => hFc q h) hFc (fun u t H1 locs ht hvm hw hB hz1 hk1 hS => ?_)
  obtain ⟨f2_13, hB⟩ := hB
  obtain ⟨hP, hD, hK⟩ := kJoin (wc := [(d1, .inr (7, [.ref t1, .int (nI ((((0 + 4) + 4) + 4) + 4))])), (t1, .inl (kt, 4000, .inl f2_11))]) (wr := [(d0, .inr (8, [.ref d1, .ref d2, .ref d3, .ref d4, .ref d5, .int 0, .int 0, .int 0, .int 0, .int 0]))]) (w1 := [(d1, .inr (7, [.ref t1, .int (nI (((((0 + 4) + 4) + 4) + 4) + 4))])), (t1, .inl (kt, 4000, .inl f2_13))]) hP hD hK [1, 2] [0] rfl rfl (by decide) (by decide) hk1 hFc ht hvm hB
  have hK : va_K (dC, dI) vwCl [(kt, .byte), (kt, .byte)] s := hK
  have hK := hK.sub (tys' := [(kt, .byte)]) [1] rfl
  generalize H1 = H at hP hS ⊢
  have hP : va_P (dC, dI) vwCl [(d0, .inr (8, [.ref d1, .ref d2, .ref d3, .ref d4, .ref d5, .int 0, .int 0, .int 0, .int 0, .int 0])), (d1, .inr (7, [.ref t1, .int (nI (((((0 + 4) + 4) + 4) + 4) + 4))])), (t1, .inl (kt, 4000, .inl f2_13))] H := hP
  have hD : va_D A [(d0, .inr (8, [.ref d1, .ref d2, .ref d3, .ref d4, .ref d5, .int 0, .int 0, .int 0, .int 0, .int 0])), (d1, .inr (7, [.ref t1, .int (nI (((((0 + 4) + 4) + 4) + 4) + 4))])), (t1, .inl (kt, 4000, .inl f2_13))] := hD
  try dsimp only at hw
  refine lv_aload_n hx hb dX8_feed_66 rfl (lv_at hl 0 rfl) ?_
  refine va_get (D := (dC, dI)) (ci := 8) (v := .ref d1) (C := RX8) (T := TX8) (N := 10) hx hb hts hinX8 hown hK hP 0 rfl rfl 0 (by decide) (hts (.fieldLink RX8 10 "CensusDesk" "tape" "LCensusDesk$Tape;") (List.mem_of_getElem? (i := 1) rfl)) (fun _ h9 => h9) rfl dX8_feed_67 ?_
  refine va_getN (D := (dC, dI)) (ci := 7) (v := .int (nI (((((0 + 4) + 4) + 4) + 4) + 4))) (C := RX7) (T := TX7) (N := 2) hx hb hts hinX7 hown hK hP 1 rfl rfl 1 (by decide) (va_Nw.use rfl (hN.1 ("CensusDesk", 58, "CensusDesk$Tape", "length", "I") (List.mem_of_getElem? (i := 1) rfl))) (fun _ h9 => h9) rfl dX8_feed_70 ?_
  exact W.iret (v := (nI (((((0 + 4) + 4) + 4) + 4) + 4))) hx hb hr (fun t ht hW => ⟨⟨(nI (((((0 + 4) + 4) + 4) + 4) + 4)), (), rfl, (by decide), trivial⟩, hS.F ht⟩) hS.2.2 dX8_feed_73
set_option maxHeartbeats 1000000 in
set_option maxRecDepth 100000 in
theorem c_X8_end (l : Launch) (dC : Nat → ClassId) (dI : Nat → Nat → Nat) (d0 d1 d2 d3 d4 d5 : Nat) (t1 : Nat) (n : Int32) (sz : Nat)  : Met l yX8_end wsX8_end ({ frames := 1, cells := 0, slots := 0, locals := 21 }) (va_Pc [.ref d0, .int n] (kPre dC dI [] [(d0, .inr (8, [.ref d1, .ref d2, .ref d3, .ref d4, .ref d5, .int 0, .int 0, .int 0, .int 0, .int 0])), (d1, .inr (7, [.ref t1, .int 0]))] sz)) (va_Qi (fun (r : Int32) (_ : Unit) => r = fEnd n) (fun (_ : Unit) (_ : State) => True) (va_A [(d0, .inr (8, [.ref d1, .ref d2, .ref d3, .ref d4, .ref d5, .int 0, .int 0, .int 0, .int 0, .int 0])), (d1, .inr (7, [.ref t1, .int 0]))] sz)) 0 0 (va_A [(d0, .inr (8, [.ref d1, .ref d2, .ref d3, .ref d4, .ref d5, .int 0, .int 0, .int 0, .int 0, .int 0])), (d1, .inr (7, [.ref t1, .int 0]))] sz) := by
  refine Met.ofW (cc := cX8_end) (maxL := 2) (ret := (some .int)) (by decide) rfl ?_
  intro p e s m args below meth c s₁ B hml hv
  obtain ⟨rfl, hsz, hP, hK, hD0, hN⟩ := hv
  have hx := B.exec
  have hb := B.bytes
  have hr := B.returns
  have hts := atoms_spec (ws := wsX8_end) B.pre
  have hown : s.vm.findClass RX8 = some m.cls := findClass_of_methodNamed B.named
  have hlocks := B.notSynchronized
  subst hsz
  have hD := hD0.self (sz := s.heap.size)
  generalize hAe : va_A [(d0, .inr (8, [.ref d1, .ref d2, .ref d3, .ref d4, .ref d5, .int 0, .int 0, .int 0, .int 0, .int 0])), (d1, .inr (7, [.ref t1, .int 0]))] s.heap.size = A at hD ⊢
  have hA : ∀ q : Nat, s.heap.size ≤ q → A q := fun q h => by rw [← hAe]; exact Or.inr h
  have hS : va_S A s.heap s.heap [] := va_S.rf
  have hP : va_P (dC, dI) vwCl [(d0, .inr (8, [.ref d1, .ref d2, .ref d3, .ref d4, .ref d5, .int 0, .int 0, .int 0, .int 0, .int 0])), (d1, .inr (7, [.ref t1, .int 0]))] s.heap := hP
  have hinX8 : ∀ w ∈ wsX80, w ∈ wsX8_end := fun _ h => List.mem_cons_of_mem _ (List.mem_append_left _ (List.mem_append_right _ h))
  have hinX7 : ∀ w ∈ wsX70, w ∈ wsX8_end := fun _ h => List.mem_cons_of_mem _ (List.mem_append_right _ h)
  have hl := lv_entry ([.ref d0, .int n]) (n := 2) (Nat.le_of_ble_eq_true rfl)
  rw [lg_entry_eq]
  generalize (lg_sl ([.ref d0, .int n]) ++ List.replicate (2 - (lg_sl ([.ref d0, .int n])).length) Slot.unset).toArray = ls at hl ⊢
  have hl : lv_has ls 2 [(0, .ref d0), (1, .int n)] := hl
  refine lv_iload_n hx hb dX8_end_0 rfl (lv_at hl 1 rfl) ?_
  refine lv_if_lt (tgt := 15) hx hb dX8_end_1 (by decide) (fun c_1 => ?_) (fun c_1 => ?_)
  · refine lv_iconst (v := (-1)) hx hb dX8_end_15 (by decide) ?_
    exact W.iret (v := (-1)) hx hb hr (fun t ht hW => ⟨⟨(-1), (), rfl, (by unfold fEnd; rw [if_pos c_1]), trivial⟩, hS.F ht⟩) hS.2.2 dX8_end_16
  · refine lv_iload_n hx hb dX8_end_4 rfl (lv_at hl 1 rfl) ?_
    refine lv_aload_n hx hb dX8_end_5 rfl (lv_at hl 0 rfl) ?_
    refine va_get (D := (dC, dI)) (ci := 8) (v := .ref d1) (C := RX8) (T := TX8) (N := 10) hx hb hts hinX8 hown hK hP 0 rfl rfl 0 (by decide) (hts (.fieldLink RX8 10 "CensusDesk" "tape" "LCensusDesk$Tape;") (List.mem_of_getElem? (i := 1) rfl)) (fun _ h9 => h9) rfl dX8_end_6 ?_
    refine va_getN (D := (dC, dI)) (ci := 7) (v := .int 0) (C := RX7) (T := TX7) (N := 2) hx hb hts hinX7 hown hK hP 1 rfl rfl 1 (by decide) (va_Nw.use rfl (hN.1 ("CensusDesk", 58, "CensusDesk$Tape", "length", "I") (List.mem_of_getElem? (i := 1) rfl))) (fun _ h9 => h9) rfl dX8_end_9 ?_
    refine lv_icmp_le (tgt := 17) hx hb dX8_end_12 (by decide) (fun c_2 => ?_) (fun c_2 => ?_)
    · refine lv_aload_n hx hb dX8_end_17 rfl (lv_at hl 0 rfl) ?_
      refine va_get (D := (dC, dI)) (ci := 8) (v := .int 0) (C := RX8) (T := TX8) (N := 10) hx hb hts hinX8 hown hK hP 0 rfl rfl 5 (by decide) (hts (.fieldLink RX8 50 "CensusDesk" "held" "Z") (List.mem_of_getElem? (i := 2) rfl)) (fun _ h9 => h9) rfl dX8_end_18 ?_
      refine lv_if_eq (tgt := 27) hx hb dX8_end_21 (by decide) (fun c_3 => ?_) (fun c_3 => absurd c_3 (by decide))
      refine lv_aload_n hx hb dX8_end_27 rfl (lv_at hl 0 rfl) ?_
      refine va_get (D := (dC, dI)) (ci := 8) (v := .ref d1) (C := RX8) (T := TX8) (N := 10) hx hb hts hinX8 hown hK hP 0 rfl rfl 0 (by decide) (hts (.fieldLink RX8 10 "CensusDesk" "tape" "LCensusDesk$Tape;") (List.mem_of_getElem? (i := 1) rfl)) (fun _ h9 => h9) rfl dX8_end_28 ?_
      refine lv_iload_n hx hb dX8_end_31 rfl (lv_at hl 1 rfl) ?_
      have hPc := hP.sub (ws' := [(d1, .inr (7, [.ref t1, .int 0]))]) [1] rfl
      have hDc := hD.sub (ws' := [(d1, .inr (7, [.ref t1, .int 0]))]) [1] (by decide) rfl
      have hKc := hK.sub (tys' := []) [] rfl
      have hFc := va_free (wc := [(d1, .inr (7, [.ref t1, .int 0]))]) hD hS hA [1] rfl
      refine va_callv (va_runV (As := [.int n]) (rest := []) ⟨hx, hb, hml, hown, hts⟩ (c_X7_keepFirst l dC dI d1 t1 0 n _ ) (cwV 1 hts gX8_end_X7_keepFirst rfl rfl rfl (by decide +kernel) ⟨Nat.le_of_ble_eq_true rfl, Nat.le_of_ble_eq_true rfl⟩) (kPreV hPc hKc hDc hN (va_recv hKc hPc (ci := 7) (q0 := 0) rfl rfl)) rfl rfl hl.1 rfl (lv_room (Nat.le_of_ble_eq_true rfl)) dX8_end_32 ⟨(by decide +kernel), (by decide +kernel)⟩) hS (fun q _ h => hFc q h) hFc (fun u t H1 locs ht hvm hw hB hz1 hk1 hS => ?_)
      obtain ⟨hP, hD⟩ := kRest (wc := [(d1, .inr (7, [.ref t1, .int 0]))]) (wr := [(d0, .inr (8, [.ref d1, .ref d2, .ref d3, .ref d4, .ref d5, .int 0, .int 0, .int 0, .int 0, .int 0]))]) hP hD [1] [0] rfl rfl (by decide) (by decide) hk1 hFc
      have hK := hK.sub (tys' := []) [] rfl
      generalize H1 = H at hP hS ⊢
      have hP : va_P (dC, dI) vwCl [(d0, .inr (8, [.ref d1, .ref d2, .ref d3, .ref d4, .ref d5, .int 0, .int 0, .int 0, .int 0, .int 0]))] H := hP
      have hD : va_D A [(d0, .inr (8, [.ref d1, .ref d2, .ref d3, .ref d4, .ref d5, .int 0, .int 0, .int 0, .int 0, .int 0]))] := hD
      try dsimp only at hw
      refine lv_iload_n hx hb dX8_end_35 rfl (lv_at hl 1 rfl) ?_
      exact W.iret (v := n) hx hb hr (fun t ht hW => ⟨⟨n, (), rfl, (by unfold fEnd; rw [if_neg c_1, if_pos c_2]), trivial⟩, hS.F ht⟩) hS.2.2 dX8_end_36
    · refine lv_iconst (v := (-1)) hx hb dX8_end_15 (by decide) ?_
      exact W.iret (v := (-1)) hx hb hr (fun t ht hW => ⟨⟨(-1), (), rfl, (by unfold fEnd; rw [if_neg c_1, if_neg c_2]), trivial⟩, hS.F ht⟩) hS.2.2 dX8_end_16
set_option maxHeartbeats 1000000 in
set_option maxRecDepth 100000 in
theorem c_X8_rule (l : Launch) (dC : Nat → ClassId) (dI : Nat → Nat → Nat) (d0 d1 d2 d3 d4 d5 : Nat) (w1 w2 : Nat) (kw kn : ClassId) (fw fn : Nat → Int32) (kd wy nu : Int32) (sz : Nat) (hw0 : ∀ j, 1 ≤ j → j < 30 → fw j = -1) : Met l yX8_rule wsX8_rule ({ frames := 1, cells := 0, slots := 0, locals := 24 }) (va_Pc [.ref d0, .int kd, .int wy, .int nu] (kPre dC dI [(kw, .int), (kn, .int)] [(d0, .inr (8, [.ref d1, .ref d2, .ref d3, .ref d4, .ref d5, .int 0, .int 0, .int 0, .int 0, .int 0])), (d2, .inr (5, [.ref w1, .ref w2])), (w1, .inl (kw, 30, .inl fw)), (w2, .inl (kn, 30, .inl fn))] sz)) (va_Qi (fun (r : Int32) (_ : Unit) => r = fRule kd wy nu) (fun (_ : Unit) (_ : State) => True) (va_A [(d0, .inr (8, [.ref d1, .ref d2, .ref d3, .ref d4, .ref d5, .int 0, .int 0, .int 0, .int 0, .int 0])), (d2, .inr (5, [.ref w1, .ref w2])), (w1, .inl (kw, 30, .inl fw)), (w2, .inl (kn, 30, .inl fn))] sz)) 0 0 (va_A [(d0, .inr (8, [.ref d1, .ref d2, .ref d3, .ref d4, .ref d5, .int 0, .int 0, .int 0, .int 0, .int 0])), (d2, .inr (5, [.ref w1, .ref w2])), (w1, .inl (kw, 30, .inl fw)), (w2, .inl (kn, 30, .inl fn))] sz) := by
  refine Met.ofW (cc := cX8_rule) (maxL := 4) (ret := (some .int)) (by decide) rfl ?_
  intro p e s m args below meth c s₁ B hml hv
  obtain ⟨rfl, hsz, hP, hK, hD0, hN⟩ := hv
  have hx := B.exec
  have hb := B.bytes
  have hr := B.returns
  have hts := atoms_spec (ws := wsX8_rule) B.pre
  have hown : s.vm.findClass RX8 = some m.cls := findClass_of_methodNamed B.named
  have hlocks := B.notSynchronized
  subst hsz
  have hD := hD0.self (sz := s.heap.size)
  generalize hAe : va_A [(d0, .inr (8, [.ref d1, .ref d2, .ref d3, .ref d4, .ref d5, .int 0, .int 0, .int 0, .int 0, .int 0])), (d2, .inr (5, [.ref w1, .ref w2])), (w1, .inl (kw, 30, .inl fw)), (w2, .inl (kn, 30, .inl fn))] s.heap.size = A at hD ⊢
  have hA : ∀ q : Nat, s.heap.size ≤ q → A q := fun q h => by rw [← hAe]; exact Or.inr h
  have hS : va_S A s.heap s.heap [] := va_S.rf
  have hP : va_P (dC, dI) vwCl [(d0, .inr (8, [.ref d1, .ref d2, .ref d3, .ref d4, .ref d5, .int 0, .int 0, .int 0, .int 0, .int 0])), (d2, .inr (5, [.ref w1, .ref w2])), (w1, .inl (kw, 30, .inl fw)), (w2, .inl (kn, 30, .inl fn))] s.heap := hP
  have hinX8 : ∀ w ∈ wsX80, w ∈ wsX8_rule := fun _ h => List.mem_cons_of_mem _ (List.mem_append_left _ (List.mem_append_right _ h))
  have hinX5 : ∀ w ∈ wsX50, w ∈ wsX8_rule := fun _ h => List.mem_cons_of_mem _ (List.mem_append_right _ h)
  have hl := lv_entry ([.ref d0, .int kd, .int wy, .int nu]) (n := 4) (Nat.le_of_ble_eq_true rfl)
  rw [lg_entry_eq]
  generalize (lg_sl ([.ref d0, .int kd, .int wy, .int nu]) ++ List.replicate (4 - (lg_sl ([.ref d0, .int kd, .int wy, .int nu])).length) Slot.unset).toArray = ls at hl ⊢
  have hl : lv_has ls 4 [(0, .ref d0), (1, .int kd), (2, .int wy), (3, .int nu)] := hl
  refine lv_iload_n hx hb dX8_rule_0 rfl (lv_at hl 1 rfl) ?_
  refine lv_iconst (v := 1) hx hb dX8_rule_1 (by decide) ?_
  refine lv_icmp_lt (tgt := 11) hx hb dX8_rule_2 (by decide) (fun c_1 => ?_) (fun c_1 => ?_)
  · refine lv_bipush (v := (-3)) hx hb dX8_rule_11 (by decide) ?_
    exact W.iret (v := (-3)) hx hb hr (fun t ht hW => ⟨⟨(-3), (), rfl, (by unfold fRule; rw [if_pos c_1]), trivial⟩, hS.F ht⟩) hS.2.2 dX8_rule_13
  · refine lv_iload_n hx hb dX8_rule_5 rfl (lv_at hl 1 rfl) ?_
    refine lv_bipush (v := 29) hx hb dX8_rule_6 (by decide) ?_
    refine lv_icmp_le (tgt := 14) hx hb dX8_rule_8 (by decide) (fun c_2 => ?_) (fun c_2 => ?_)
    · refine lv_iload_n hx hb dX8_rule_14 rfl (lv_at hl 2 rfl) ?_
      refine lv_iconst (v := (-1)) hx hb dX8_rule_15 (by decide) ?_
      refine lv_icmp_lt (tgt := 24) hx hb dX8_rule_16 (by decide) (fun c_3 => ?_) (fun c_3 => ?_)
      · refine lv_bipush (v := (-3)) hx hb dX8_rule_24 (by decide) ?_
        exact W.iret (v := (-3)) hx hb hr (fun t ht hW => ⟨⟨(-3), (), rfl, (by unfold fRule; rw [if_neg c_1, if_pos c_2, if_pos c_3]), trivial⟩, hS.F ht⟩) hS.2.2 dX8_rule_26
      · refine lv_iload_n hx hb dX8_rule_19 rfl (lv_at hl 2 rfl) ?_
        refine lv_iconst (v := 4) hx hb dX8_rule_20 (by decide) ?_
        refine lv_icmp_le (tgt := 27) hx hb dX8_rule_21 (by decide) (fun c_4 => ?_) (fun c_4 => ?_)
        · refine lv_iload_n hx hb dX8_rule_27 rfl (lv_at hl 3 rfl) ?_
          refine lv_iconst (v := (-1)) hx hb dX8_rule_28 (by decide) ?_
          refine lv_icmp_lt (tgt := 38) hx hb dX8_rule_29 (by decide) (fun c_5 => ?_) (fun c_5 => ?_)
          · refine lv_bipush (v := (-3)) hx hb dX8_rule_38 (by decide) ?_
            exact W.iret (v := (-3)) hx hb hr (fun t ht hW => ⟨⟨(-3), (), rfl, (by unfold fRule; rw [if_neg c_1, if_pos c_2, if_neg c_3, if_pos c_4, if_pos c_5]), trivial⟩, hS.F ht⟩) hS.2.2 dX8_rule_40
          · refine lv_iload_n hx hb dX8_rule_32 rfl (lv_at hl 3 rfl) ?_
            refine lv_ldc (v := 999999) hx hb hown (hts (.constant RX8 65 (999999)) (List.mem_of_getElem? (i := 1) rfl)) dX8_rule_33 ?_
            refine lv_icmp_le (tgt := 41) hx hb dX8_rule_35 (by decide) (fun c_6 => ?_) (fun c_6 => ?_)
            · refine lv_aload_n hx hb dX8_rule_41 rfl (lv_at hl 0 rfl) ?_
              refine va_get (D := (dC, dI)) (ci := 8) (v := .int 0) (C := RX8) (T := TX8) (N := 10) hx hb hts hinX8 hown hK hP 0 rfl rfl 5 (by decide) (hts (.fieldLink RX8 50 "CensusDesk" "held" "Z") (List.mem_of_getElem? (i := 2) rfl)) (fun _ h9 => h9) rfl dX8_rule_42 ?_
              refine lv_if_eq (tgt := 51) hx hb dX8_rule_45 (by decide) (fun c_7 => ?_) (fun c_7 => absurd c_7 (by decide))
              refine lv_aload_n hx hb dX8_rule_51 rfl (lv_at hl 0 rfl) ?_
              refine va_get (D := (dC, dI)) (ci := 8) (v := .ref d2) (C := RX8) (T := TX8) (N := 10) hx hb hts hinX8 hown hK hP 0 rfl rfl 1 (by decide) (hts (.fieldLink RX8 19 "CensusDesk" "rules" "LCensusDesk$Rules;") (List.mem_of_getElem? (i := 3) rfl)) (fun _ h9 => h9) rfl dX8_rule_52 ?_
              refine lv_iload_n hx hb dX8_rule_55 rfl (lv_at hl 1 rfl) ?_
              refine lv_iload_n hx hb dX8_rule_56 rfl (lv_at hl 2 rfl) ?_
              refine lv_iload_n hx hb dX8_rule_57 rfl (lv_at hl 3 rfl) ?_
              have hPc := hP.sub (ws' := [(d2, .inr (5, [.ref w1, .ref w2])), (w1, .inl (kw, 30, .inl fw)), (w2, .inl (kn, 30, .inl fn))]) [1, 2, 3] rfl
              have hDc := hD.sub (ws' := [(d2, .inr (5, [.ref w1, .ref w2])), (w1, .inl (kw, 30, .inl fw)), (w2, .inl (kn, 30, .inl fn))]) [1, 2, 3] (by decide) rfl
              have hKc := hK.sub (tys' := [(kw, .int), (kn, .int)]) [0, 1] rfl
              have hFc := va_free (wc := [(d2, .inr (5, [.ref w1, .ref w2])), (w1, .inl (kw, 30, .inl fw)), (w2, .inl (kn, 30, .inl fn))]) hD hS hA [1, 2, 3] rfl
              refine va_calli (va_runV (As := [.int kd, .int wy, .int nu]) (rest := []) ⟨hx, hb, hml, hown, hts⟩ (c_X5_change l dC dI d2 w1 w2 kw kn fw fn kd wy nu _ hw0) (cwV 3 hts gX8_rule_X5_change rfl rfl rfl (by decide +kernel) ⟨Nat.le_of_ble_eq_true rfl, Nat.le_of_ble_eq_true rfl⟩) (kPreV hPc hKc hDc hN (va_recv hKc hPc (ci := 5) (q0 := 0) rfl rfl)) rfl rfl hl.1 rfl (lv_room (Nat.le_of_ble_eq_true rfl)) dX8_rule_58 ⟨(by decide +kernel), (by decide +kernel)⟩) hS (fun q _ h => hFc q h) hFc (fun r_8 u t H1 locs ht hvm hw hB hz1 hk1 hS => ?_)
              obtain ⟨hP, hD⟩ := kRest (wc := [(d2, .inr (5, [.ref w1, .ref w2])), (w1, .inl (kw, 30, .inl fw)), (w2, .inl (kn, 30, .inl fn))]) (wr := [(d0, .inr (8, [.ref d1, .ref d2, .ref d3, .ref d4, .ref d5, .int 0, .int 0, .int 0, .int 0, .int 0]))]) hP hD [1, 2, 3] [0] rfl rfl (by decide) (by decide) hk1 hFc
              have hK := hK.sub (tys' := []) [] rfl
              generalize H1 = H at hP hS ⊢
              have hP : va_P (dC, dI) vwCl [(d0, .inr (8, [.ref d1, .ref d2, .ref d3, .ref d4, .ref d5, .int 0, .int 0, .int 0, .int 0, .int 0]))] H := hP
              have hD : va_D A [(d0, .inr (8, [.ref d1, .ref d2, .ref d3, .ref d4, .ref d5, .int 0, .int 0, .int 0, .int 0, .int 0]))] := hD
              try dsimp only at hw
              have hw : r_8 = -1 := by rcases hw with h | h | h; exact absurd h c_1; exact absurd h (Int32.not_lt.mpr c_2); exact h
              subst hw
              exact W.iret (v := (-1)) hx hb hr (fun t ht hW => ⟨⟨(-1), (), rfl, (by unfold fRule; rw [if_neg c_1, if_pos c_2, if_neg c_3, if_pos c_4, if_neg c_5, if_pos c_6]), trivial⟩, hS.F ht⟩) hS.2.2 dX8_rule_61
            · refine lv_bipush (v := (-3)) hx hb dX8_rule_38 (by decide) ?_
              exact W.iret (v := (-3)) hx hb hr (fun t ht hW => ⟨⟨(-3), (), rfl, (by unfold fRule; rw [if_neg c_1, if_pos c_2, if_neg c_3, if_pos c_4, if_neg c_5, if_neg c_6]), trivial⟩, hS.F ht⟩) hS.2.2 dX8_rule_40
        · refine lv_bipush (v := (-3)) hx hb dX8_rule_24 (by decide) ?_
          exact W.iret (v := (-3)) hx hb hr (fun t ht hW => ⟨⟨(-3), (), rfl, (by unfold fRule; rw [if_neg c_1, if_pos c_2, if_neg c_3, if_neg c_4]), trivial⟩, hS.F ht⟩) hS.2.2 dX8_rule_26
    · refine lv_bipush (v := (-3)) hx hb dX8_rule_11 (by decide) ?_
      exact W.iret (v := (-3)) hx hb hr (fun t ht hW => ⟨⟨(-3), (), rfl, (by unfold fRule; rw [if_neg c_1, if_neg c_2]), trivial⟩, hS.F ht⟩) hS.2.2 dX8_rule_13
set_option maxHeartbeats 1000000 in
set_option maxRecDepth 100000 in
theorem c_X8_conclude0 (l : Launch) (dC : Nat → ClassId) (dI : Nat → Nat → Nat) (d0 d1 d2 d3 d4 d5 : Nat) (b1 b2 b3 b4 : Nat) (e5 e6 e7 e8 : Nat) (rc : Int32) (sz : Nat)  : Met l yX8_conclude wsX8_conclude ({ frames := 1, cells := 0, slots := 0, locals := 24 }) (va_Pc [.ref d0, .int 0] (kPre dC dI [] [(d0, .inr (8, [.ref d1, .ref d2, .ref d3, .ref d4, .ref d5, .int 0, .int rc, .int 0, .int 0, .int 0])), (d4, .inr (0, [.ref b1, .ref b2, .ref b3, .ref b4, .int 0, .int 0, .int 0, .int 0, .int 0, .int 0])), (d5, .inr (4, [.ref d1, .ref d2, .ref d3, .ref d4, .ref e5, .ref e6, .ref e7, .ref e8, .int 0, .int 0, .int 0, .int 0, .int 0, .int (-1), .int 0, .int 0, .int 0, .int 0, .int 0]))] sz)) (va_Qi (fun (r : Int32) (_ : Unit) => r = 0) (fun (_ : Unit) (_ : State) => True) (va_A [(d0, .inr (8, [.ref d1, .ref d2, .ref d3, .ref d4, .ref d5, .int 0, .int rc, .int 0, .int 0, .int 0])), (d4, .inr (0, [.ref b1, .ref b2, .ref b3, .ref b4, .int 0, .int 0, .int 0, .int 0, .int 0, .int 0])), (d5, .inr (4, [.ref d1, .ref d2, .ref d3, .ref d4, .ref e5, .ref e6, .ref e7, .ref e8, .int 0, .int 0, .int 0, .int 0, .int 0, .int (-1), .int 0, .int 0, .int 0, .int 0, .int 0]))] sz)) 0 0 (va_A [(d0, .inr (8, [.ref d1, .ref d2, .ref d3, .ref d4, .ref d5, .int 0, .int rc, .int 0, .int 0, .int 0])), (d4, .inr (0, [.ref b1, .ref b2, .ref b3, .ref b4, .int 0, .int 0, .int 0, .int 0, .int 0, .int 0])), (d5, .inr (4, [.ref d1, .ref d2, .ref d3, .ref d4, .ref e5, .ref e6, .ref e7, .ref e8, .int 0, .int 0, .int 0, .int 0, .int 0, .int (-1), .int 0, .int 0, .int 0, .int 0, .int 0]))] sz) := by
  refine Met.ofW (cc := cX8_conclude) (maxL := 2) (ret := (some .int)) (by decide) rfl ?_
  intro p e s m args below meth c s₁ B hml hv
  obtain ⟨rfl, hsz, hP, hK, hD0, hN⟩ := hv
  have hx := B.exec
  have hb := B.bytes
  have hr := B.returns
  have hts := atoms_spec (ws := wsX8_conclude) B.pre
  have hown : s.vm.findClass RX8 = some m.cls := findClass_of_methodNamed B.named
  have hlocks := B.notSynchronized
  subst hsz
  have hD := hD0.self (sz := s.heap.size)
  generalize hAe : va_A [(d0, .inr (8, [.ref d1, .ref d2, .ref d3, .ref d4, .ref d5, .int 0, .int rc, .int 0, .int 0, .int 0])), (d4, .inr (0, [.ref b1, .ref b2, .ref b3, .ref b4, .int 0, .int 0, .int 0, .int 0, .int 0, .int 0])), (d5, .inr (4, [.ref d1, .ref d2, .ref d3, .ref d4, .ref e5, .ref e6, .ref e7, .ref e8, .int 0, .int 0, .int 0, .int 0, .int 0, .int (-1), .int 0, .int 0, .int 0, .int 0, .int 0]))] s.heap.size = A at hD ⊢
  have hA : ∀ q : Nat, s.heap.size ≤ q → A q := fun q h => by rw [← hAe]; exact Or.inr h
  have hS : va_S A s.heap s.heap [] := va_S.rf
  have hP : va_P (dC, dI) vwCl [(d0, .inr (8, [.ref d1, .ref d2, .ref d3, .ref d4, .ref d5, .int 0, .int rc, .int 0, .int 0, .int 0])), (d4, .inr (0, [.ref b1, .ref b2, .ref b3, .ref b4, .int 0, .int 0, .int 0, .int 0, .int 0, .int 0])), (d5, .inr (4, [.ref d1, .ref d2, .ref d3, .ref d4, .ref e5, .ref e6, .ref e7, .ref e8, .int 0, .int 0, .int 0, .int 0, .int 0, .int (-1), .int 0, .int 0, .int 0, .int 0, .int 0]))] s.heap := hP
  have hinX8 : ∀ w ∈ wsX80, w ∈ wsX8_conclude := fun _ h => List.mem_cons_of_mem _ (List.mem_append_left _ (List.mem_append_left _ (List.mem_append_right _ h)))
  have hinX4 : ∀ w ∈ wsX40, w ∈ wsX8_conclude := fun _ h => List.mem_cons_of_mem _ (List.mem_append_left _ (List.mem_append_right _ h))
  have hinX0 : ∀ w ∈ wsX00, w ∈ wsX8_conclude := fun _ h => List.mem_cons_of_mem _ (List.mem_append_right _ h)
  have hl := lv_entry ([.ref d0, .int 0]) (n := 2) (Nat.le_of_ble_eq_true rfl)
  rw [lg_entry_eq]
  generalize (lg_sl ([.ref d0, .int 0]) ++ List.replicate (2 - (lg_sl ([.ref d0, .int 0])).length) Slot.unset).toArray = ls at hl ⊢
  have hl : lv_has ls 2 [(0, .ref d0), (1, .int 0)] := hl
  refine lv_iload_n hx hb dX8_conclude_0 rfl (lv_at hl 1 rfl) ?_
  refine lv_iconst (v := 2) hx hb dX8_conclude_1 (by decide) ?_
  refine lv_icmp_ne (tgt := 12) hx hb dX8_conclude_2 (by decide) (fun c_1 => ?_) (fun c_1 => absurd c_1 (by decide))
  refine lv_iload_n hx hb dX8_conclude_12 rfl (lv_at hl 1 rfl) ?_
  refine lv_iconst (v := 1) hx hb dX8_conclude_13 (by decide) ?_
  refine lv_icmp_ne (tgt := 29) hx hb dX8_conclude_14 (by decide) (fun c_2 => ?_) (fun c_2 => absurd c_2 (by decide))
  refine lv_aload_n hx hb dX8_conclude_29 rfl (lv_at hl 0 rfl) ?_
  refine va_get (D := (dC, dI)) (ci := 8) (v := .ref d4) (C := RX8) (T := TX8) (N := 10) hx hb hts hinX8 hown hK hP 0 rfl rfl 3 (by decide) (hts (.fieldLink RX8 33 "CensusDesk" "book" "LCensusDesk$Book;") (List.mem_of_getElem? (i := 3) rfl)) (fun _ h9 => h9) rfl dX8_conclude_30 ?_
  refine lv_aload_n hx hb dX8_conclude_33 rfl (lv_at hl 0 rfl) ?_
  refine va_get (D := (dC, dI)) (ci := 8) (v := .ref d5) (C := RX8) (T := TX8) (N := 10) hx hb hts hinX8 hown hK hP 0 rfl rfl 4 (by decide) (hts (.fieldLink RX8 42 "CensusDesk" "reader" "LCensusDesk$Reader;") (List.mem_of_getElem? (i := 4) rfl)) (fun _ h9 => h9) rfl dX8_conclude_34 ?_
  refine va_getN (D := (dC, dI)) (ci := 4) (v := .int 0) (C := RX4) (T := TX4) (N := 19) hx hb hts hinX4 hown hK hP 2 rfl rfl 9 (by decide) (va_Nw.use rfl (hN.1 ("CensusDesk", 90, "CensusDesk$Reader", "taken", "I") (List.mem_of_getElem? (i := 29) rfl))) (fun _ h9 => h9) rfl dX8_conclude_37 ?_
  refine lv_aload_n hx hb dX8_conclude_40 rfl (lv_at hl 0 rfl) ?_
  refine va_get (D := (dC, dI)) (ci := 8) (v := .ref d5) (C := RX8) (T := TX8) (N := 10) hx hb hts hinX8 hown hK hP 0 rfl rfl 4 (by decide) (hts (.fieldLink RX8 42 "CensusDesk" "reader" "LCensusDesk$Reader;") (List.mem_of_getElem? (i := 4) rfl)) (fun _ h9 => h9) rfl dX8_conclude_41 ?_
  refine va_getN (D := (dC, dI)) (ci := 4) (v := .int 0) (C := RX4) (T := TX4) (N := 19) hx hb hts hinX4 hown hK hP 2 rfl rfl 11 (by decide) (va_Nw.use rfl (hN.1 ("CensusDesk", 116, "CensusDesk$Reader", "personsTaken", "I") (List.mem_of_getElem? (i := 31) rfl))) (fun _ h9 => h9) rfl dX8_conclude_44 ?_
  refine lv_aload_n hx hb dX8_conclude_47 rfl (lv_at hl 0 rfl) ?_
  refine va_get (D := (dC, dI)) (ci := 8) (v := .int rc) (C := RX8) (T := TX8) (N := 10) hx hb hts hinX8 hown hK hP 0 rfl rfl 6 (by decide) (hts (.fieldLink RX8 70 "CensusDesk" "received" "I") (List.mem_of_getElem? (i := 5) rfl)) (fun _ h9 => h9) rfl dX8_conclude_48 ?_
  refine lv_iconst (v := 1) hx hb dX8_conclude_51 (by decide) ?_
  refine lv_isub hx hb dX8_conclude_52 ?_
  have hPc := hP.sub (ws' := [(d4, .inr (0, [.ref b1, .ref b2, .ref b3, .ref b4, .int 0, .int 0, .int 0, .int 0, .int 0, .int 0]))]) [1] rfl
  have hDc := hD.sub (ws' := [(d4, .inr (0, [.ref b1, .ref b2, .ref b3, .ref b4, .int 0, .int 0, .int 0, .int 0, .int 0, .int 0]))]) [1] (by decide) rfl
  have hKc := hK.sub (tys' := []) [] rfl
  have hFc := va_free (wc := [(d4, .inr (0, [.ref b1, .ref b2, .ref b3, .ref b4, .int 0, .int 0, .int 0, .int 0, .int 0, .int 0]))]) hD hS hA [1] rfl
  refine va_calli (va_runV (As := [.int 0, .int 0, .int (rc - 1)]) (rest := []) ⟨hx, hb, hml, hown, hts⟩ (c_X0_enter l dC dI d4 b1 b2 b3 b4 (rc - 1) _ ) (cwV 3 hts gX8_conclude_X0_enter rfl rfl rfl (by decide +kernel) ⟨Nat.le_of_ble_eq_true rfl, Nat.le_of_ble_eq_true rfl⟩) (kPreV hPc hKc hDc hN (va_recv hKc hPc (ci := 0) (q0 := 0) rfl rfl)) rfl rfl hl.1 rfl (lv_room (Nat.le_of_ble_eq_true rfl)) dX8_conclude_53 ⟨(by decide +kernel), (by decide +kernel)⟩) hS (fun q _ h => hFc q h) hFc (fun r_3 u t H1 locs ht hvm hw hB hz1 hk1 hS => ?_)
  obtain ⟨hP, hD⟩ := kRest (wc := [(d4, .inr (0, [.ref b1, .ref b2, .ref b3, .ref b4, .int 0, .int 0, .int 0, .int 0, .int 0, .int 0]))]) (wr := [(d0, .inr (8, [.ref d1, .ref d2, .ref d3, .ref d4, .ref d5, .int 0, .int rc, .int 0, .int 0, .int 0])), (d5, .inr (4, [.ref d1, .ref d2, .ref d3, .ref d4, .ref e5, .ref e6, .ref e7, .ref e8, .int 0, .int 0, .int 0, .int 0, .int 0, .int (-1), .int 0, .int 0, .int 0, .int 0, .int 0]))]) hP hD [1] [0, 2] rfl rfl (by decide) (by decide) hk1 hFc
  have hK := hK.sub (tys' := []) [] rfl
  generalize H1 = H at hP hS ⊢
  have hP : va_P (dC, dI) vwCl [(d0, .inr (8, [.ref d1, .ref d2, .ref d3, .ref d4, .ref d5, .int 0, .int rc, .int 0, .int 0, .int 0])), (d5, .inr (4, [.ref d1, .ref d2, .ref d3, .ref d4, .ref e5, .ref e6, .ref e7, .ref e8, .int 0, .int 0, .int 0, .int 0, .int 0, .int (-1), .int 0, .int 0, .int 0, .int 0, .int 0]))] H := hP
  have hD : va_D A [(d0, .inr (8, [.ref d1, .ref d2, .ref d3, .ref d4, .ref d5, .int 0, .int rc, .int 0, .int 0, .int 0])), (d5, .inr (4, [.ref d1, .ref d2, .ref d3, .ref d4, .ref e5, .ref e6, .ref e7, .ref e8, .int 0, .int 0, .int 0, .int 0, .int 0, .int (-1), .int 0, .int 0, .int 0, .int 0, .int 0]))] := hD
  try dsimp only at hw
  subst hw
  refine lv_if_ne (tgt := 71) hx hb dX8_conclude_56 (by decide) (fun c_4 => ?_) (fun c_4 => absurd c_4 (by decide))
  refine lv_aload_n hx hb dX8_conclude_71 rfl (lv_at hl 0 rfl) ?_
  refine lv_dup hx hb dX8_conclude_72 rfl ?_
  refine va_get (D := (dC, dI)) (ci := 8) (v := .int 0) (C := RX8) (T := TX8) (N := 10) hx hb hts hinX8 hown hK hP 0 rfl rfl 7 (by decide) (hts (.fieldLink RX8 140 "CensusDesk" "booked" "I") (List.mem_of_getElem? (i := 7) rfl)) (fun _ h9 => h9) rfl dX8_conclude_73 ?_
  refine lv_iconst (v := 1) hx hb dX8_conclude_76 (by decide) ?_
  refine lv_iadd hx hb dX8_conclude_77 ?_
  refine k_top (v := 1) (by decide) ?_
  refine va_put (D := (dC, dI)) (ci := 8) (v := .int 1) (ty := .int) (C := RX8) (T := TX8) (N := 10) hx hb hts hinX8 tyX8 tyX8_ok nmX8 hown hK hP hD hS 0 rfl rfl 7 (by decide) (hts (.fieldLink RX8 140 "CensusDesk" "booked" "I") (List.mem_of_getElem? (i := 7) rfl)) (fun _ h9 => h9) rfl (by decide +kernel) rfl rfl (Nat.le_of_ble_eq_true rfl) dX8_conclude_78 (fun H locs hP hD hS => ?_)
  have hP : va_P (dC, dI) vwCl [(d0, .inr (8, [.ref d1, .ref d2, .ref d3, .ref d4, .ref d5, .int 0, .int rc, .int 1, .int 0, .int 0])), (d5, .inr (4, [.ref d1, .ref d2, .ref d3, .ref d4, .ref e5, .ref e6, .ref e7, .ref e8, .int 0, .int 0, .int 0, .int 0, .int 0, .int (-1), .int 0, .int 0, .int 0, .int 0, .int 0]))] H := hP
  have hD : va_D A [(d0, .inr (8, [.ref d1, .ref d2, .ref d3, .ref d4, .ref d5, .int 0, .int rc, .int 1, .int 0, .int 0])), (d5, .inr (4, [.ref d1, .ref d2, .ref d3, .ref d4, .ref e5, .ref e6, .ref e7, .ref e8, .int 0, .int 0, .int 0, .int 0, .int 0, .int (-1), .int 0, .int 0, .int 0, .int 0, .int 0]))] := hD
  refine lv_iconst (v := 0) hx hb dX8_conclude_81 (by decide) ?_
  exact W.iret (v := 0) hx hb hr (fun t ht hW => ⟨⟨0, (), rfl, rfl, trivial⟩, hS.F ht⟩) hS.2.2 dX8_conclude_82
set_option maxHeartbeats 1000000 in
set_option maxRecDepth 100000 in
theorem c_X8_receive (l : Launch) (dC : Nat → ClassId) (dI : Nat → Nat → Nat) (d0 d1 d2 d3 d4 d5 : Nat) (t1 : Nat) (l1 l2 l3 l4 : Nat) (b1 b2 b3 b4 : Nat) (e5 e6 e7 e8 : Nat) (a1 a2 a3 a4 a5 a6 : Nat) (k2 k3 k4 : ClassId) (sz : Nat)  : Met l yX8_receive wsX8_receive ({ frames := 3, cells := 0, slots := 0, locals := 63 }) (va_Pc [.ref d0] (kPre dC dI [(k2, .int), (k3, .int), (k4, .int)] [(d0, .inr (8, [.ref d1, .ref d2, .ref d3, .ref d4, .ref d5, .int 0, .int 0, .int 0, .int 0, .int 0])), (d1, .inr (7, [.ref t1, .int 0])), (d3, .inr (1, [.ref l1, .ref l2, .ref l3, .ref l4, .int 0])), (l2, .inl (k2, 22, .inl ((fun _ => 0)))), (l3, .inl (k3, 5, .inl ((fun _ => 0)))), (l4, .inl (k4, 5, .inl ((fun _ => 0)))), (d4, .inr (0, [.ref b1, .ref b2, .ref b3, .ref b4, .int 0, .int 0, .int 0, .int 0, .int 0, .int 0])), (d5, .inr (4, [.ref d1, .ref d2, .ref d3, .ref d4, .ref e5, .ref e6, .ref e7, .ref e8, .int 0, .int 0, .int 0, .int 0, .int 0, .int 0, .int 0, .int 0, .int 0, .int 0, .int 0])), (e7, .inr (2, [.ref a1, .ref a2, .ref a3, .ref a4, .ref a5, .ref a6, .int 0, .int 0, .int 0, .int 0, .int 0, .int 0, .int 0]))] sz)) (va_Qi (fun (r : Int32) (_ : Unit) => r = 0) (fun (_ : Unit) (_ : State) => True) (va_A [(d0, .inr (8, [.ref d1, .ref d2, .ref d3, .ref d4, .ref d5, .int 0, .int 0, .int 0, .int 0, .int 0])), (d1, .inr (7, [.ref t1, .int 0])), (d3, .inr (1, [.ref l1, .ref l2, .ref l3, .ref l4, .int 0])), (l2, .inl (k2, 22, .inl ((fun _ => 0)))), (l3, .inl (k3, 5, .inl ((fun _ => 0)))), (l4, .inl (k4, 5, .inl ((fun _ => 0)))), (d4, .inr (0, [.ref b1, .ref b2, .ref b3, .ref b4, .int 0, .int 0, .int 0, .int 0, .int 0, .int 0])), (d5, .inr (4, [.ref d1, .ref d2, .ref d3, .ref d4, .ref e5, .ref e6, .ref e7, .ref e8, .int 0, .int 0, .int 0, .int 0, .int 0, .int 0, .int 0, .int 0, .int 0, .int 0, .int 0])), (e7, .inr (2, [.ref a1, .ref a2, .ref a3, .ref a4, .ref a5, .ref a6, .int 0, .int 0, .int 0, .int 0, .int 0, .int 0, .int 0]))] sz)) 0 0 (va_A [(d0, .inr (8, [.ref d1, .ref d2, .ref d3, .ref d4, .ref d5, .int 0, .int 0, .int 0, .int 0, .int 0])), (d1, .inr (7, [.ref t1, .int 0])), (d3, .inr (1, [.ref l1, .ref l2, .ref l3, .ref l4, .int 0])), (l2, .inl (k2, 22, .inl ((fun _ => 0)))), (l3, .inl (k3, 5, .inl ((fun _ => 0)))), (l4, .inl (k4, 5, .inl ((fun _ => 0)))), (d4, .inr (0, [.ref b1, .ref b2, .ref b3, .ref b4, .int 0, .int 0, .int 0, .int 0, .int 0, .int 0])), (d5, .inr (4, [.ref d1, .ref d2, .ref d3, .ref d4, .ref e5, .ref e6, .ref e7, .ref e8, .int 0, .int 0, .int 0, .int 0, .int 0, .int 0, .int 0, .int 0, .int 0, .int 0, .int 0])), (e7, .inr (2, [.ref a1, .ref a2, .ref a3, .ref a4, .ref a5, .ref a6, .int 0, .int 0, .int 0, .int 0, .int 0, .int 0, .int 0]))] sz) := by
  refine Met.ofW (cc := cX8_receive) (maxL := 1) (ret := (some .int)) (by decide) rfl ?_
  intro p e s m args below meth c s₁ B hml hv
  obtain ⟨rfl, hsz, hP, hK, hD0, hN⟩ := hv
  have hx := B.exec
  have hb := B.bytes
  have hr := B.returns
  have hts := atoms_spec (ws := wsX8_receive) B.pre
  have hown : s.vm.findClass RX8 = some m.cls := findClass_of_methodNamed B.named
  have hlocks := B.notSynchronized
  subst hsz
  have hD := hD0.self (sz := s.heap.size)
  generalize hAe : va_A [(d0, .inr (8, [.ref d1, .ref d2, .ref d3, .ref d4, .ref d5, .int 0, .int 0, .int 0, .int 0, .int 0])), (d1, .inr (7, [.ref t1, .int 0])), (d3, .inr (1, [.ref l1, .ref l2, .ref l3, .ref l4, .int 0])), (l2, .inl (k2, 22, .inl ((fun _ => 0)))), (l3, .inl (k3, 5, .inl ((fun _ => 0)))), (l4, .inl (k4, 5, .inl ((fun _ => 0)))), (d4, .inr (0, [.ref b1, .ref b2, .ref b3, .ref b4, .int 0, .int 0, .int 0, .int 0, .int 0, .int 0])), (d5, .inr (4, [.ref d1, .ref d2, .ref d3, .ref d4, .ref e5, .ref e6, .ref e7, .ref e8, .int 0, .int 0, .int 0, .int 0, .int 0, .int 0, .int 0, .int 0, .int 0, .int 0, .int 0])), (e7, .inr (2, [.ref a1, .ref a2, .ref a3, .ref a4, .ref a5, .ref a6, .int 0, .int 0, .int 0, .int 0, .int 0, .int 0, .int 0]))] s.heap.size = A at hD ⊢
  have hA : ∀ q : Nat, s.heap.size ≤ q → A q := fun q h => by rw [← hAe]; exact Or.inr h
  have hS : va_S A s.heap s.heap [] := va_S.rf
  have hP : va_P (dC, dI) vwCl [(d0, .inr (8, [.ref d1, .ref d2, .ref d3, .ref d4, .ref d5, .int 0, .int 0, .int 0, .int 0, .int 0])), (d1, .inr (7, [.ref t1, .int 0])), (d3, .inr (1, [.ref l1, .ref l2, .ref l3, .ref l4, .int 0])), (l2, .inl (k2, 22, .inl ((fun _ => 0)))), (l3, .inl (k3, 5, .inl ((fun _ => 0)))), (l4, .inl (k4, 5, .inl ((fun _ => 0)))), (d4, .inr (0, [.ref b1, .ref b2, .ref b3, .ref b4, .int 0, .int 0, .int 0, .int 0, .int 0, .int 0])), (d5, .inr (4, [.ref d1, .ref d2, .ref d3, .ref d4, .ref e5, .ref e6, .ref e7, .ref e8, .int 0, .int 0, .int 0, .int 0, .int 0, .int 0, .int 0, .int 0, .int 0, .int 0, .int 0])), (e7, .inr (2, [.ref a1, .ref a2, .ref a3, .ref a4, .ref a5, .ref a6, .int 0, .int 0, .int 0, .int 0, .int 0, .int 0, .int 0]))] s.heap := hP
  have hinX8 : ∀ w ∈ wsX80, w ∈ wsX8_receive := fun _ h => List.mem_cons_of_mem _ (List.mem_append_left _ (List.mem_append_left _ (List.mem_append_left _ (List.mem_append_left _ (List.mem_append_left _ (List.mem_append_left _ (List.mem_append_left _ (List.mem_append_left _ (List.mem_append_right _ h)))))))))
  have hinX1 : ∀ w ∈ wsX10, w ∈ wsX8_receive := fun _ h => List.mem_cons_of_mem _ (List.mem_append_left _ (List.mem_append_left _ (List.mem_append_left _ (List.mem_append_left _ (List.mem_append_left _ (List.mem_append_left _ (List.mem_append_left _ (List.mem_append_right _ h))))))))
  have hinX4 : ∀ w ∈ wsX40, w ∈ wsX8_receive := fun _ h => List.mem_cons_of_mem _ (List.mem_append_left _ (List.mem_append_left _ (List.mem_append_left _ (List.mem_append_left _ (List.mem_append_left _ (List.mem_append_left _ (List.mem_append_right _ h)))))))
  have hinX2 : ∀ w ∈ wsX20, w ∈ wsX8_receive := fun _ h => List.mem_cons_of_mem _ (List.mem_append_left _ (List.mem_append_left _ (List.mem_append_left _ (List.mem_append_left _ (List.mem_append_left _ (List.mem_append_right _ h))))))
  have hinX7 : ∀ w ∈ wsX70, w ∈ wsX8_receive := fun _ h => List.mem_cons_of_mem _ (List.mem_append_left _ (List.mem_append_left _ (List.mem_append_left _ (List.mem_append_left _ (List.mem_append_right _ h)))))
  have hinX5 : ∀ w ∈ wsX50, w ∈ wsX8_receive := fun _ h => List.mem_cons_of_mem _ (List.mem_append_left _ (List.mem_append_left _ (List.mem_append_left _ (List.mem_append_right _ h))))
  have hinX0 : ∀ w ∈ wsX00, w ∈ wsX8_receive := fun _ h => List.mem_cons_of_mem _ (List.mem_append_left _ (List.mem_append_left _ (List.mem_append_right _ h)))
  have hinX3 : ∀ w ∈ wsX30, w ∈ wsX8_receive := fun _ h => List.mem_cons_of_mem _ (List.mem_append_left _ (List.mem_append_right _ h))
  have hinX6 : ∀ w ∈ wsX60, w ∈ wsX8_receive := fun _ h => List.mem_cons_of_mem _ (List.mem_append_right _ h)
  have hl := lv_entry ([.ref d0]) (n := 1) (Nat.le_of_ble_eq_true rfl)
  rw [lg_entry_eq]
  generalize (lg_sl ([.ref d0]) ++ List.replicate (1 - (lg_sl ([.ref d0])).length) Slot.unset).toArray = ls at hl ⊢
  have hl : lv_has ls 1 [(0, .ref d0)] := hl
  refine lv_aload_n hx hb dX8_receive_0 rfl (lv_at hl 0 rfl) ?_
  refine va_get (D := (dC, dI)) (ci := 8) (v := .int 0) (C := RX8) (T := TX8) (N := 10) hx hb hts hinX8 hown hK hP 0 rfl rfl 5 (by decide) (hts (.fieldLink RX8 50 "CensusDesk" "held" "Z") (List.mem_of_getElem? (i := 1) rfl)) (fun _ h9 => h9) rfl dX8_receive_1 ?_
  refine lv_if_eq (tgt := 10) hx hb dX8_receive_4 (by decide) (fun c_1 => ?_) (fun c_1 => absurd c_1 (by decide))
  refine lv_aload_n hx hb dX8_receive_10 rfl (lv_at hl 0 rfl) ?_
  refine lv_dup hx hb dX8_receive_11 rfl ?_
  refine va_get (D := (dC, dI)) (ci := 8) (v := .int 0) (C := RX8) (T := TX8) (N := 10) hx hb hts hinX8 hown hK hP 0 rfl rfl 6 (by decide) (hts (.fieldLink RX8 70 "CensusDesk" "received" "I") (List.mem_of_getElem? (i := 2) rfl)) (fun _ h9 => h9) rfl dX8_receive_12 ?_
  refine lv_iconst (v := 1) hx hb dX8_receive_15 (by decide) ?_
  refine lv_iadd hx hb dX8_receive_16 ?_
  refine k_top (v := 1) (by decide) ?_
  refine va_put (D := (dC, dI)) (ci := 8) (v := .int 1) (ty := .int) (C := RX8) (T := TX8) (N := 10) hx hb hts hinX8 tyX8 tyX8_ok nmX8 hown hK hP hD hS 0 rfl rfl 6 (by decide) (hts (.fieldLink RX8 70 "CensusDesk" "received" "I") (List.mem_of_getElem? (i := 2) rfl)) (fun _ h9 => h9) rfl (by decide +kernel) rfl rfl (Nat.le_of_ble_eq_true rfl) dX8_receive_17 (fun H locs hP hD hS => ?_)
  have hP : va_P (dC, dI) vwCl [(d0, .inr (8, [.ref d1, .ref d2, .ref d3, .ref d4, .ref d5, .int 0, .int 1, .int 0, .int 0, .int 0])), (d1, .inr (7, [.ref t1, .int 0])), (d3, .inr (1, [.ref l1, .ref l2, .ref l3, .ref l4, .int 0])), (l2, .inl (k2, 22, .inl ((fun _ => 0)))), (l3, .inl (k3, 5, .inl ((fun _ => 0)))), (l4, .inl (k4, 5, .inl ((fun _ => 0)))), (d4, .inr (0, [.ref b1, .ref b2, .ref b3, .ref b4, .int 0, .int 0, .int 0, .int 0, .int 0, .int 0])), (d5, .inr (4, [.ref d1, .ref d2, .ref d3, .ref d4, .ref e5, .ref e6, .ref e7, .ref e8, .int 0, .int 0, .int 0, .int 0, .int 0, .int 0, .int 0, .int 0, .int 0, .int 0, .int 0])), (e7, .inr (2, [.ref a1, .ref a2, .ref a3, .ref a4, .ref a5, .ref a6, .int 0, .int 0, .int 0, .int 0, .int 0, .int 0, .int 0]))] H := hP
  have hD : va_D A [(d0, .inr (8, [.ref d1, .ref d2, .ref d3, .ref d4, .ref d5, .int 0, .int 1, .int 0, .int 0, .int 0])), (d1, .inr (7, [.ref t1, .int 0])), (d3, .inr (1, [.ref l1, .ref l2, .ref l3, .ref l4, .int 0])), (l2, .inl (k2, 22, .inl ((fun _ => 0)))), (l3, .inl (k3, 5, .inl ((fun _ => 0)))), (l4, .inl (k4, 5, .inl ((fun _ => 0)))), (d4, .inr (0, [.ref b1, .ref b2, .ref b3, .ref b4, .int 0, .int 0, .int 0, .int 0, .int 0, .int 0])), (d5, .inr (4, [.ref d1, .ref d2, .ref d3, .ref d4, .ref e5, .ref e6, .ref e7, .ref e8, .int 0, .int 0, .int 0, .int 0, .int 0, .int 0, .int 0, .int 0, .int 0, .int 0, .int 0])), (e7, .inr (2, [.ref a1, .ref a2, .ref a3, .ref a4, .ref a5, .ref a6, .int 0, .int 0, .int 0, .int 0, .int 0, .int 0, .int 0]))] := hD
  refine lv_aload_n hx hb dX8_receive_20 rfl (lv_at hl 0 rfl) ?_
  refine va_get (D := (dC, dI)) (ci := 8) (v := .ref d3) (C := RX8) (T := TX8) (N := 10) hx hb hts hinX8 hown hK hP 0 rfl rfl 2 (by decide) (hts (.fieldLink RX8 26 "CensusDesk" "log" "LCensusDesk$Failures;") (List.mem_of_getElem? (i := 3) rfl)) (fun _ h9 => h9) rfl dX8_receive_21 ?_
  have hPc := hP.sub (ws' := [(d3, .inr (1, [.ref l1, .ref l2, .ref l3, .ref l4, .int 0])), (l2, .inl (k2, 22, .inl ((fun _ => 0)))), (l3, .inl (k3, 5, .inl ((fun _ => 0)))), (l4, .inl (k4, 5, .inl ((fun _ => 0))))]) [2, 3, 4, 5] rfl
  have hDc := hD.sub (ws' := [(d3, .inr (1, [.ref l1, .ref l2, .ref l3, .ref l4, .int 0])), (l2, .inl (k2, 22, .inl ((fun _ => 0)))), (l3, .inl (k3, 5, .inl ((fun _ => 0)))), (l4, .inl (k4, 5, .inl ((fun _ => 0))))]) [2, 3, 4, 5] (by decide) rfl
  have hKc := hK.sub (tys' := [(k2, .int), (k3, .int), (k4, .int)]) [0, 1, 2] rfl
  have hFc := va_free (wc := [(d3, .inr (1, [.ref l1, .ref l2, .ref l3, .ref l4, .int 0])), (l2, .inl (k2, 22, .inl ((fun _ => 0)))), (l3, .inl (k3, 5, .inl ((fun _ => 0)))), (l4, .inl (k4, 5, .inl ((fun _ => 0))))]) hD hS hA [2, 3, 4, 5] rfl
  refine va_callv (va_runV (As := []) (rest := []) ⟨hx, hb, hml, hown, hts⟩ (c_X1_forget l dC dI d3 l1 l2 l3 l4 k2 k3 k4 (fun _ => 0) (fun _ => 0) (fun _ => 0) _ ) (cwV 0 hts gX8_receive_X1_forget rfl rfl rfl (by decide +kernel) ⟨Nat.le_of_ble_eq_true rfl, Nat.le_of_ble_eq_true rfl⟩) (kPreV hPc hKc hDc hN (va_recv hKc hPc (ci := 1) (q0 := 0) rfl rfl)) rfl rfl hl.1 rfl (lv_room (Nat.le_of_ble_eq_true rfl)) dX8_receive_24 ⟨(by decide +kernel), (by decide +kernel)⟩) hS (fun q _ h => hFc q h) hFc (fun u t H1 locs ht hvm hw hB hz1 hk1 hS => ?_)
  obtain ⟨hP, hD⟩ := kRest (wc := [(d3, .inr (1, [.ref l1, .ref l2, .ref l3, .ref l4, .int 0])), (l2, .inl (k2, 22, .inl ((fun _ => 0)))), (l3, .inl (k3, 5, .inl ((fun _ => 0)))), (l4, .inl (k4, 5, .inl ((fun _ => 0))))]) (wr := [(d0, .inr (8, [.ref d1, .ref d2, .ref d3, .ref d4, .ref d5, .int 0, .int 1, .int 0, .int 0, .int 0])), (d1, .inr (7, [.ref t1, .int 0])), (d4, .inr (0, [.ref b1, .ref b2, .ref b3, .ref b4, .int 0, .int 0, .int 0, .int 0, .int 0, .int 0])), (d5, .inr (4, [.ref d1, .ref d2, .ref d3, .ref d4, .ref e5, .ref e6, .ref e7, .ref e8, .int 0, .int 0, .int 0, .int 0, .int 0, .int 0, .int 0, .int 0, .int 0, .int 0, .int 0])), (e7, .inr (2, [.ref a1, .ref a2, .ref a3, .ref a4, .ref a5, .ref a6, .int 0, .int 0, .int 0, .int 0, .int 0, .int 0, .int 0]))]) hP hD [2, 3, 4, 5] [0, 1, 6, 7, 8] rfl rfl (by decide) (by decide) hk1 hFc
  have hK := hK.sub (tys' := []) [] rfl
  generalize H1 = H at hP hS ⊢
  have hP : va_P (dC, dI) vwCl [(d0, .inr (8, [.ref d1, .ref d2, .ref d3, .ref d4, .ref d5, .int 0, .int 1, .int 0, .int 0, .int 0])), (d1, .inr (7, [.ref t1, .int 0])), (d4, .inr (0, [.ref b1, .ref b2, .ref b3, .ref b4, .int 0, .int 0, .int 0, .int 0, .int 0, .int 0])), (d5, .inr (4, [.ref d1, .ref d2, .ref d3, .ref d4, .ref e5, .ref e6, .ref e7, .ref e8, .int 0, .int 0, .int 0, .int 0, .int 0, .int 0, .int 0, .int 0, .int 0, .int 0, .int 0])), (e7, .inr (2, [.ref a1, .ref a2, .ref a3, .ref a4, .ref a5, .ref a6, .int 0, .int 0, .int 0, .int 0, .int 0, .int 0, .int 0]))] H := hP
  have hD : va_D A [(d0, .inr (8, [.ref d1, .ref d2, .ref d3, .ref d4, .ref d5, .int 0, .int 1, .int 0, .int 0, .int 0])), (d1, .inr (7, [.ref t1, .int 0])), (d4, .inr (0, [.ref b1, .ref b2, .ref b3, .ref b4, .int 0, .int 0, .int 0, .int 0, .int 0, .int 0])), (d5, .inr (4, [.ref d1, .ref d2, .ref d3, .ref d4, .ref e5, .ref e6, .ref e7, .ref e8, .int 0, .int 0, .int 0, .int 0, .int 0, .int 0, .int 0, .int 0, .int 0, .int 0, .int 0])), (e7, .inr (2, [.ref a1, .ref a2, .ref a3, .ref a4, .ref a5, .ref a6, .int 0, .int 0, .int 0, .int 0, .int 0, .int 0, .int 0]))] := hD
  try dsimp only at hw
  refine lv_aload_n hx hb dX8_receive_27 rfl (lv_at hl 0 rfl) ?_
  refine va_get (D := (dC, dI)) (ci := 8) (v := .ref d5) (C := RX8) (T := TX8) (N := 10) hx hb hts hinX8 hown hK hP 0 rfl rfl 4 (by decide) (hts (.fieldLink RX8 42 "CensusDesk" "reader" "LCensusDesk$Reader;") (List.mem_of_getElem? (i := 4) rfl)) (fun _ h9 => h9) rfl dX8_receive_28 ?_
  have hPc := hP.sub (ws' := [(d5, .inr (4, [.ref d1, .ref d2, .ref d3, .ref d4, .ref e5, .ref e6, .ref e7, .ref e8, .int 0, .int 0, .int 0, .int 0, .int 0, .int 0, .int 0, .int 0, .int 0, .int 0, .int 0])), (e7, .inr (2, [.ref a1, .ref a2, .ref a3, .ref a4, .ref a5, .ref a6, .int 0, .int 0, .int 0, .int 0, .int 0, .int 0, .int 0]))]) [3, 4] rfl
  have hDc := hD.sub (ws' := [(d5, .inr (4, [.ref d1, .ref d2, .ref d3, .ref d4, .ref e5, .ref e6, .ref e7, .ref e8, .int 0, .int 0, .int 0, .int 0, .int 0, .int 0, .int 0, .int 0, .int 0, .int 0, .int 0])), (e7, .inr (2, [.ref a1, .ref a2, .ref a3, .ref a4, .ref a5, .ref a6, .int 0, .int 0, .int 0, .int 0, .int 0, .int 0, .int 0]))]) [3, 4] (by decide) rfl
  have hKc := hK.sub (tys' := []) [] rfl
  have hFc := va_free (wc := [(d5, .inr (4, [.ref d1, .ref d2, .ref d3, .ref d4, .ref e5, .ref e6, .ref e7, .ref e8, .int 0, .int 0, .int 0, .int 0, .int 0, .int 0, .int 0, .int 0, .int 0, .int 0, .int 0])), (e7, .inr (2, [.ref a1, .ref a2, .ref a3, .ref a4, .ref a5, .ref a6, .int 0, .int 0, .int 0, .int 0, .int 0, .int 0, .int 0]))]) hD hS hA [3, 4] rfl
  refine va_callv (va_runV (As := []) (rest := []) ⟨hx, hb, hml, hown, hts⟩ (c_X4_begin l dC dI d5 d1 d2 d3 d4 e5 e6 e7 e8 a1 a2 a3 a4 a5 a6 _ ) (cwV 0 hts gX8_receive_X4_begin rfl rfl rfl (by decide +kernel) ⟨Nat.le_of_ble_eq_true rfl, Nat.le_of_ble_eq_true rfl⟩) (kPreV hPc hKc hDc hN (va_recv hKc hPc (ci := 4) (q0 := 0) rfl rfl)) rfl rfl hl.1 rfl (lv_room (Nat.le_of_ble_eq_true rfl)) dX8_receive_31 ⟨(by decide +kernel), (by decide +kernel)⟩) hS (fun q _ h => hFc q h) hFc (fun u t H1 locs ht hvm hw hB hz1 hk1 hS => ?_)
  obtain ⟨hP, hD, hK⟩ := kJoin (wc := [(d5, .inr (4, [.ref d1, .ref d2, .ref d3, .ref d4, .ref e5, .ref e6, .ref e7, .ref e8, .int 0, .int 0, .int 0, .int 0, .int 0, .int 0, .int 0, .int 0, .int 0, .int 0, .int 0])), (e7, .inr (2, [.ref a1, .ref a2, .ref a3, .ref a4, .ref a5, .ref a6, .int 0, .int 0, .int 0, .int 0, .int 0, .int 0, .int 0]))]) (wr := [(d0, .inr (8, [.ref d1, .ref d2, .ref d3, .ref d4, .ref d5, .int 0, .int 1, .int 0, .int 0, .int 0])), (d1, .inr (7, [.ref t1, .int 0])), (d4, .inr (0, [.ref b1, .ref b2, .ref b3, .ref b4, .int 0, .int 0, .int 0, .int 0, .int 0, .int 0]))]) (w1 := [(d5, .inr (4, [.ref d1, .ref d2, .ref d3, .ref d4, .ref e5, .ref e6, .ref e7, .ref e8, .int 0, .int 0, .int 0, .int 0, .int 0, .int (-1), .int 0, .int 0, .int 0, .int 0, .int 0])), (e7, .inr (2, [.ref a1, .ref a2, .ref a3, .ref a4, .ref a5, .ref a6, .int 0, .int 0, .int 0, .int 0, .int 0, .int 0, .int 0]))]) hP hD hK [3, 4] [0, 1, 2] rfl rfl (by decide) (by decide) hk1 hFc ht hvm hB
  have hK : va_K (dC, dI) vwCl [] s := hK
  generalize H1 = H at hP hS ⊢
  have hP : va_P (dC, dI) vwCl [(d0, .inr (8, [.ref d1, .ref d2, .ref d3, .ref d4, .ref d5, .int 0, .int 1, .int 0, .int 0, .int 0])), (d1, .inr (7, [.ref t1, .int 0])), (d4, .inr (0, [.ref b1, .ref b2, .ref b3, .ref b4, .int 0, .int 0, .int 0, .int 0, .int 0, .int 0])), (d5, .inr (4, [.ref d1, .ref d2, .ref d3, .ref d4, .ref e5, .ref e6, .ref e7, .ref e8, .int 0, .int 0, .int 0, .int 0, .int 0, .int (-1), .int 0, .int 0, .int 0, .int 0, .int 0])), (e7, .inr (2, [.ref a1, .ref a2, .ref a3, .ref a4, .ref a5, .ref a6, .int 0, .int 0, .int 0, .int 0, .int 0, .int 0, .int 0]))] H := hP
  have hD : va_D A [(d0, .inr (8, [.ref d1, .ref d2, .ref d3, .ref d4, .ref d5, .int 0, .int 1, .int 0, .int 0, .int 0])), (d1, .inr (7, [.ref t1, .int 0])), (d4, .inr (0, [.ref b1, .ref b2, .ref b3, .ref b4, .int 0, .int 0, .int 0, .int 0, .int 0, .int 0])), (d5, .inr (4, [.ref d1, .ref d2, .ref d3, .ref d4, .ref e5, .ref e6, .ref e7, .ref e8, .int 0, .int 0, .int 0, .int 0, .int 0, .int (-1), .int 0, .int 0, .int 0, .int 0, .int 0])), (e7, .inr (2, [.ref a1, .ref a2, .ref a3, .ref a4, .ref a5, .ref a6, .int 0, .int 0, .int 0, .int 0, .int 0, .int 0, .int 0]))] := hD
  try dsimp only at hw
  refine lv_aload_n hx hb dX8_receive_34 rfl (lv_at hl 0 rfl) ?_
  refine lv_aload_n hx hb dX8_receive_35 rfl (lv_at hl 0 rfl) ?_
  refine va_get (D := (dC, dI)) (ci := 8) (v := .ref d5) (C := RX8) (T := TX8) (N := 10) hx hb hts hinX8 hown hK hP 0 rfl rfl 4 (by decide) (hts (.fieldLink RX8 42 "CensusDesk" "reader" "LCensusDesk$Reader;") (List.mem_of_getElem? (i := 4) rfl)) (fun _ h9 => h9) rfl dX8_receive_36 ?_
  have hPc := hP.sub (ws' := [(d5, .inr (4, [.ref d1, .ref d2, .ref d3, .ref d4, .ref e5, .ref e6, .ref e7, .ref e8, .int 0, .int 0, .int 0, .int 0, .int 0, .int (-1), .int 0, .int 0, .int 0, .int 0, .int 0])), (e7, .inr (2, [.ref a1, .ref a2, .ref a3, .ref a4, .ref a5, .ref a6, .int 0, .int 0, .int 0, .int 0, .int 0, .int 0, .int 0])), (d1, .inr (7, [.ref t1, .int 0]))]) [3, 4, 1] rfl
  have hDc := hD.sub (ws' := [(d5, .inr (4, [.ref d1, .ref d2, .ref d3, .ref d4, .ref e5, .ref e6, .ref e7, .ref e8, .int 0, .int 0, .int 0, .int 0, .int 0, .int (-1), .int 0, .int 0, .int 0, .int 0, .int 0])), (e7, .inr (2, [.ref a1, .ref a2, .ref a3, .ref a4, .ref a5, .ref a6, .int 0, .int 0, .int 0, .int 0, .int 0, .int 0, .int 0])), (d1, .inr (7, [.ref t1, .int 0]))]) [3, 4, 1] (by decide) rfl
  have hKc := hK.sub (tys' := []) [] rfl
  have hFc := va_free (wc := [(d5, .inr (4, [.ref d1, .ref d2, .ref d3, .ref d4, .ref e5, .ref e6, .ref e7, .ref e8, .int 0, .int 0, .int 0, .int 0, .int 0, .int (-1), .int 0, .int 0, .int 0, .int 0, .int 0])), (e7, .inr (2, [.ref a1, .ref a2, .ref a3, .ref a4, .ref a5, .ref a6, .int 0, .int 0, .int 0, .int 0, .int 0, .int 0, .int 0])), (d1, .inr (7, [.ref t1, .int 0]))]) hD hS hA [3, 4, 1] rfl
  refine va_calli (va_runV (As := []) (rest := [.ref d0]) ⟨hx, hb, hml, hown, hts⟩ (c_X4_readOn l dC dI d5 d1 d2 d3 d4 e5 e6 e7 e8 a1 a2 a3 a4 a5 a6 t1 _ ) (cwV 0 hts gX8_receive_X4_readOn rfl rfl rfl (by decide +kernel) ⟨Nat.le_of_ble_eq_true rfl, Nat.le_of_ble_eq_true rfl⟩) (kPreV hPc hKc hDc hN (va_recv hKc hPc (ci := 4) (q0 := 0) rfl rfl)) rfl rfl hl.1 rfl (lv_room (Nat.le_of_ble_eq_true rfl)) dX8_receive_39 ⟨(by decide +kernel), (by decide +kernel)⟩) hS (fun q _ h => hFc q h) hFc (fun r_4 u t H1 locs ht hvm hw hB hz1 hk1 hS => ?_)
  obtain ⟨hP, hD, hK⟩ := kJoin (wc := [(d5, .inr (4, [.ref d1, .ref d2, .ref d3, .ref d4, .ref e5, .ref e6, .ref e7, .ref e8, .int 0, .int 0, .int 0, .int 0, .int 0, .int (-1), .int 0, .int 0, .int 0, .int 0, .int 0])), (e7, .inr (2, [.ref a1, .ref a2, .ref a3, .ref a4, .ref a5, .ref a6, .int 0, .int 0, .int 0, .int 0, .int 0, .int 0, .int 0])), (d1, .inr (7, [.ref t1, .int 0]))]) (wr := [(d0, .inr (8, [.ref d1, .ref d2, .ref d3, .ref d4, .ref d5, .int 0, .int 1, .int 0, .int 0, .int 0])), (d4, .inr (0, [.ref b1, .ref b2, .ref b3, .ref b4, .int 0, .int 0, .int 0, .int 0, .int 0, .int 0]))]) (w1 := [(d5, .inr (4, [.ref d1, .ref d2, .ref d3, .ref d4, .ref e5, .ref e6, .ref e7, .ref e8, .int 0, .int 0, .int 0, .int 0, .int 0, .int (-1), .int 0, .int 0, .int 0, .int 0, .int 0]))]) hP hD hK [3, 4, 1] [0, 2] rfl rfl (by decide) (by decide) hk1 hFc ht hvm hB
  have hK : va_K (dC, dI) vwCl [] s := hK
  generalize H1 = H at hP hS ⊢
  have hP : va_P (dC, dI) vwCl [(d0, .inr (8, [.ref d1, .ref d2, .ref d3, .ref d4, .ref d5, .int 0, .int 1, .int 0, .int 0, .int 0])), (d4, .inr (0, [.ref b1, .ref b2, .ref b3, .ref b4, .int 0, .int 0, .int 0, .int 0, .int 0, .int 0])), (d5, .inr (4, [.ref d1, .ref d2, .ref d3, .ref d4, .ref e5, .ref e6, .ref e7, .ref e8, .int 0, .int 0, .int 0, .int 0, .int 0, .int (-1), .int 0, .int 0, .int 0, .int 0, .int 0]))] H := hP
  have hD : va_D A [(d0, .inr (8, [.ref d1, .ref d2, .ref d3, .ref d4, .ref d5, .int 0, .int 1, .int 0, .int 0, .int 0])), (d4, .inr (0, [.ref b1, .ref b2, .ref b3, .ref b4, .int 0, .int 0, .int 0, .int 0, .int 0, .int 0])), (d5, .inr (4, [.ref d1, .ref d2, .ref d3, .ref d4, .ref e5, .ref e6, .ref e7, .ref e8, .int 0, .int 0, .int 0, .int 0, .int 0, .int (-1), .int 0, .int 0, .int 0, .int 0, .int 0]))] := hD
  try dsimp only at hw
  subst hw
  have hPc := hP.sub (ws' := [(d0, .inr (8, [.ref d1, .ref d2, .ref d3, .ref d4, .ref d5, .int 0, .int 1, .int 0, .int 0, .int 0])), (d4, .inr (0, [.ref b1, .ref b2, .ref b3, .ref b4, .int 0, .int 0, .int 0, .int 0, .int 0, .int 0])), (d5, .inr (4, [.ref d1, .ref d2, .ref d3, .ref d4, .ref e5, .ref e6, .ref e7, .ref e8, .int 0, .int 0, .int 0, .int 0, .int 0, .int (-1), .int 0, .int 0, .int 0, .int 0, .int 0]))]) [0, 1, 2] rfl
  have hDc := hD.sub (ws' := [(d0, .inr (8, [.ref d1, .ref d2, .ref d3, .ref d4, .ref d5, .int 0, .int 1, .int 0, .int 0, .int 0])), (d4, .inr (0, [.ref b1, .ref b2, .ref b3, .ref b4, .int 0, .int 0, .int 0, .int 0, .int 0, .int 0])), (d5, .inr (4, [.ref d1, .ref d2, .ref d3, .ref d4, .ref e5, .ref e6, .ref e7, .ref e8, .int 0, .int 0, .int 0, .int 0, .int 0, .int (-1), .int 0, .int 0, .int 0, .int 0, .int 0]))]) [0, 1, 2] (by decide) rfl
  have hKc := hK.sub (tys' := []) [] rfl
  have hFc := va_free (wc := [(d0, .inr (8, [.ref d1, .ref d2, .ref d3, .ref d4, .ref d5, .int 0, .int 1, .int 0, .int 0, .int 0])), (d4, .inr (0, [.ref b1, .ref b2, .ref b3, .ref b4, .int 0, .int 0, .int 0, .int 0, .int 0, .int 0])), (d5, .inr (4, [.ref d1, .ref d2, .ref d3, .ref d4, .ref e5, .ref e6, .ref e7, .ref e8, .int 0, .int 0, .int 0, .int 0, .int 0, .int (-1), .int 0, .int 0, .int 0, .int 0, .int 0]))]) hD hS hA [0, 1, 2] rfl
  refine va_calli (va_runV (As := [.int 0]) (rest := []) ⟨hx, hb, hml, hown, hts⟩ (c_X8_conclude0 l dC dI d0 d1 d2 d3 d4 d5 b1 b2 b3 b4 e5 e6 e7 e8 1 _ ) (cwV 1 hts gX8_receive_X8_conclude rfl rfl rfl (by decide +kernel) ⟨Nat.le_of_ble_eq_true rfl, Nat.le_of_ble_eq_true rfl⟩) (kPreV hPc hKc hDc hN (va_recv hKc hPc (ci := 8) (q0 := 0) rfl rfl)) rfl rfl hl.1 rfl (lv_room (Nat.le_of_ble_eq_true rfl)) dX8_receive_42 ⟨(by decide +kernel), (by decide +kernel)⟩) hS (fun q _ h => hFc q h) hFc (fun r_5 u t H1 locs ht hvm hw hB hz1 hk1 hS => ?_)
  obtain ⟨hP, hD⟩ := kRest (wc := [(d0, .inr (8, [.ref d1, .ref d2, .ref d3, .ref d4, .ref d5, .int 0, .int 1, .int 0, .int 0, .int 0])), (d4, .inr (0, [.ref b1, .ref b2, .ref b3, .ref b4, .int 0, .int 0, .int 0, .int 0, .int 0, .int 0])), (d5, .inr (4, [.ref d1, .ref d2, .ref d3, .ref d4, .ref e5, .ref e6, .ref e7, .ref e8, .int 0, .int 0, .int 0, .int 0, .int 0, .int (-1), .int 0, .int 0, .int 0, .int 0, .int 0]))]) (wr := []) hP hD [0, 1, 2] [] rfl rfl (by decide) (by decide) hk1 hFc
  have hK := hK.sub (tys' := []) [] rfl
  generalize H1 = H at hP hS ⊢
  have hP : va_P (dC, dI) vwCl [] H := hP
  have hD : va_D A [] := hD
  try dsimp only at hw
  subst hw
  exact W.iret (v := 0) hx hb hr (fun t ht hW => ⟨⟨0, (), rfl, rfl, trivial⟩, hS.F ht⟩) hS.2.2 dX8_receive_45
