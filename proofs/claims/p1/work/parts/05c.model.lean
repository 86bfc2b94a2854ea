set_option maxHeartbeats 1000000 in
set_option maxRecDepth 100000 in
theorem c_X9_sheet (l : Launch) (dC : Nat → ClassId) (dI : Nat → Nat → Nat) (h0 : Nat) (fs : List Value) (w : Int32) (sz : Nat) (hl0 : fs.length = 69) (g9 : fs[9]? = some (.int 0)) (g26 : fs[26]? = some (.int 0)) (g10 : fs[10]? = some (.int 0)) (g4 : fs[4]? = some (.int 0))  : Met l yX9_sheet wsX9_sheet ({ frames := 1, cells := 0, slots := 0, locals := 22 }) (va_Pc [.ref h0, .int w] (kPre dC dI [] [(h0, .inr (9, fs))] sz)) (va_Qi (fun (r : Int32) (_ : Unit) => r = fSw 4 w) (fun (_ : Unit) (_ : State) => True) (va_A [(h0, .inr (9, fs))] sz)) 0 0 (va_A [(h0, .inr (9, fs))] sz) := by
  refine Met.ofW (cc := cX9_sheet) (maxL := 2) (ret := (some .int)) (by decide) rfl ?_
  intro p e s m args below meth c s₁ B hml hv
  obtain ⟨rfl, hsz, hP, hK, hD0, hN⟩ := hv
  have hx := B.exec
  have hb := B.bytes
  have hr := B.returns
  have hts := atoms_spec (ws := wsX9_sheet) B.pre
  have hown : s.vm.findClass RX9 = some m.cls := findClass_of_methodNamed B.named
  have hlocks := B.notSynchronized
  subst hsz
  have hD := hD0.self (sz := s.heap.size)
  generalize hAe : va_A [(h0, .inr (9, fs))] s.heap.size = A at hD ⊢
  have hA : ∀ q : Nat, s.heap.size ≤ q → A q := fun q h => by rw [← hAe]; exact Or.inr h
  have hS : va_S A s.heap s.heap [] := va_S.rf
  have hP : va_P (dC, dI) vwCl [(h0, .inr (9, fs))] s.heap := hP
  have hinX9 : ∀ w ∈ wsX90, w ∈ wsX9_sheet := fun _ h => List.mem_cons_of_mem _ (List.mem_append_right _ h)
  have hl := lv_entry ([.ref h0, .int w]) (n := 2) (Nat.le_of_ble_eq_true rfl)
  rw [lg_entry_eq]
  generalize (lg_sl ([.ref h0, .int w]) ++ List.replicate (2 - (lg_sl ([.ref h0, .int w])).length) Slot.unset).toArray = ls at hl ⊢
  have hl : lv_has ls 2 [(0, .ref h0), (1, .int w)] := hl
  refine lv_iload_n hx hb dX9_sheet_0 rfl (lv_at hl 1 rfl) ?_
  rcases k_sw4 w with hsw | rfl | rfl | rfl | rfl | rfl
  · refine lv_tableOut (tgt := 61) hx hb dX9_sheet_1 hsw (by decide) ?_
    refine lv_iconst (v := (-1)) hx hb dX9_sheet_61 (by decide) ?_
    exact W.iret (v := (-1)) hx hb hr (fun t ht hW => ⟨⟨(-1), (), rfl, (if_pos hsw).symm, trivial⟩, hS.F ht⟩) hS.2.2 dX9_sheet_62
  · refine lv_tableIn (off := 35) (tgt := 36) hx hb dX9_sheet_1 (by decide) (by decide) (by decide) (by decide) ?_
    refine lv_aload_n hx hb dX9_sheet_36 rfl (lv_at hl 0 rfl) ?_
    refine va_get (D := (dC, dI)) (ci := 9) (v := .int 0) (C := RX9) (T := TX9) (N := 69) hx hb hts hinX9 hown hK hP 0 rfl rfl 9 (by decide) (hts (.fieldLink RX9 274 "CensusDeskModel" "lines" "I") (List.mem_of_getElem? (i := 1) rfl)) (fun _ h9 => h9) g9 dX9_sheet_37 ?_
    exact W.iret (v := 0) hx hb hr (fun t ht hW => ⟨⟨0, (), rfl, (by decide), trivial⟩, hS.F ht⟩) hS.2.2 dX9_sheet_40
  · refine lv_tableIn (off := 40) (tgt := 41) hx hb dX9_sheet_1 (by decide) (by decide) (by decide) (by decide) ?_
    refine lv_aload_n hx hb dX9_sheet_41 rfl (lv_at hl 0 rfl) ?_
    refine va_get (D := (dC, dI)) (ci := 9) (v := .int 0) (C := RX9) (T := TX9) (N := 69) hx hb hts hinX9 hown hK hP 0 rfl rfl 26 (by decide) (hts (.fieldLink RX9 234 "CensusDeskModel" "houses" "I") (List.mem_of_getElem? (i := 2) rfl)) (fun _ h9 => h9) g26 dX9_sheet_42 ?_
    exact W.iret (v := 0) hx hb hr (fun t ht hW => ⟨⟨0, (), rfl, (by decide), trivial⟩, hS.F ht⟩) hS.2.2 dX9_sheet_45
  · refine lv_tableIn (off := 45) (tgt := 46) hx hb dX9_sheet_1 (by decide) (by decide) (by decide) (by decide) ?_
    refine lv_aload_n hx hb dX9_sheet_46 rfl (lv_at hl 0 rfl) ?_
    refine va_get (D := (dC, dI)) (ci := 9) (v := .int 0) (C := RX9) (T := TX9) (N := 69) hx hb hts hinX9 hown hK hP 0 rfl rfl 10 (by decide) (hts (.fieldLink RX9 161 "CensusDeskModel" "lost" "I") (List.mem_of_getElem? (i := 3) rfl)) (fun _ h9 => h9) g10 dX9_sheet_47 ?_
    exact W.iret (v := 0) hx hb hr (fun t ht hW => ⟨⟨0, (), rfl, (by decide), trivial⟩, hS.F ht⟩) hS.2.2 dX9_sheet_50
  · refine lv_tableIn (off := 50) (tgt := 51) hx hb dX9_sheet_1 (by decide) (by decide) (by decide) (by decide) ?_
    refine lv_aload_n hx hb dX9_sheet_51 rfl (lv_at hl 0 rfl) ?_
    have hPc := hP.sub (ws' := [(h0, .inr (9, fs))]) [0] rfl
    have hDc := hD.sub (ws' := [(h0, .inr (9, fs))]) [0] (by decide) rfl
    have hKc := hK.sub (tys' := []) [] rfl
    have hFc := va_free (wc := [(h0, .inr (9, fs))]) hD hS hA [0] rfl
    refine va_calli (va_runV (As := []) (rest := []) ⟨hx, hb, hml, hown, hts⟩ (c_X9_takenPersons l dC dI h0 fs _ hl0 g26) (cwV 0 hts gX9_sheet_X9_takenPersons rfl rfl rfl (by decide +kernel) ⟨Nat.le_of_ble_eq_true rfl, Nat.le_of_ble_eq_true rfl⟩) (kPreV hPc hKc hDc hN (va_recv hKc hPc (ci := 9) (q0 := 0) rfl rfl)) rfl rfl hl.1 rfl (lv_room (Nat.le_of_ble_eq_true rfl)) dX9_sheet_52 ⟨(by decide +kernel), (by decide +kernel)⟩) hS (fun q _ h => hFc q h) hFc (fun r_1 u t H1 locs ht hvm hw hB hz1 hk1 hS => ?_)
    obtain ⟨hP, hD, hK⟩ := kJoin (wc := [(h0, .inr (9, fs))]) (wr := []) (w1 := [(h0, .inr (9, fs))]) hP hD hK [0] [] rfl rfl (by decide) (by decide) hk1 hFc ht hvm hB
    have hK : va_K (dC, dI) vwCl [] s := hK
    generalize H1 = H at hP hS ⊢
    have hP : va_P (dC, dI) vwCl [(h0, .inr (9, fs))] H := hP
    have hD : va_D A [(h0, .inr (9, fs))] := hD
    try dsimp only at hw
    subst hw
    exact W.iret (v := 0) hx hb hr (fun t ht hW => ⟨⟨0, (), rfl, (by decide), trivial⟩, hS.F ht⟩) hS.2.2 dX9_sheet_55
  · refine lv_tableIn (off := 55) (tgt := 56) hx hb dX9_sheet_1 (by decide) (by decide) (by decide) (by decide) ?_
    refine lv_aload_n hx hb dX9_sheet_56 rfl (lv_at hl 0 rfl) ?_
    refine va_get (D := (dC, dI)) (ci := 9) (v := .int 0) (C := RX9) (T := TX9) (N := 69) hx hb hts hinX9 hown hK hP 0 rfl rfl 4 (by decide) (hts (.fieldLink RX9 261 "CensusDeskModel" "place" "I") (List.mem_of_getElem? (i := 4) rfl)) (fun _ h9 => h9) g4 dX9_sheet_57 ?_
    exact W.iret (v := 0) hx hb hr (fun t ht hW => ⟨⟨0, (), rfl, (by decide), trivial⟩, hS.F ht⟩) hS.2.2 dX9_sheet_60
set_option maxHeartbeats 1000000 in
set_option maxRecDepth 100000 in
theorem c_X9_sum (l : Launch) (dC : Nat → ClassId) (dI : Nat → Nat → Nat) (h0 : Nat) (fs : List Value) (w : Int32) (sz : Nat) (hl0 : fs.length = 69) (g58 : fs[58]? = some (.int 0)) (g65 : fs[65]? = some (.int 0)) (g66 : fs[66]? = some (.int 0)) (g67 : fs[67]? = some (.int 0)) (g68 : fs[68]? = some (.int 0))  : Met l yX9_sum wsX9_sum ({ frames := 0, cells := 0, slots := 0, locals := 0 }) (va_Pc [.ref h0, .int w] (kPre dC dI [] [(h0, .inr (9, fs))] sz)) (va_Qi (fun (r : Int32) (_ : Unit) => r = fSw 8 w) (fun (_ : Unit) (t : State) => kB dC dI (va_A [(h0, .inr (9, fs))] sz) [] [(h0, .inr (9, fs))] t) (va_A [(h0, .inr (9, fs))] sz)) 0 0 (va_A [(h0, .inr (9, fs))] sz) := by
  refine Met.ofW (cc := cX9_sum) (maxL := 4) (ret := (some .int)) (by decide) rfl ?_
  intro p e s m args below meth c s₁ B hml hv
  obtain ⟨rfl, hsz, hP, hK, hD0, hN⟩ := hv
  have hx := B.exec
  have hb := B.bytes
  have hr := B.returns
  have hts := atoms_spec (ws := wsX9_sum) B.pre
  have hown : s.vm.findClass RX9 = some m.cls := findClass_of_methodNamed B.named
  have hlocks := B.notSynchronized
  subst hsz
  have hD := hD0.self (sz := s.heap.size)
  generalize hAe : va_A [(h0, .inr (9, fs))] s.heap.size = A at hD ⊢
  have hA : ∀ q : Nat, s.heap.size ≤ q → A q := fun q h => by rw [← hAe]; exact Or.inr h
  have hS : va_S A s.heap s.heap [] := va_S.rf
  have hP : va_P (dC, dI) vwCl [(h0, .inr (9, fs))] s.heap := hP
  have hinX9 : ∀ w ∈ wsX90, w ∈ wsX9_sum := fun _ h => List.mem_cons_of_mem _ (List.mem_append_right _ h)
  have hl := lv_entry ([.ref h0, .int w]) (n := 4) (Nat.le_of_ble_eq_true rfl)
  rw [lg_entry_eq]
  generalize (lg_sl ([.ref h0, .int w]) ++ List.replicate (4 - (lg_sl ([.ref h0, .int w])).length) Slot.unset).toArray = ls at hl ⊢
  have hl : lv_has ls 4 [(0, .ref h0), (1, .int w)] := hl
  refine lv_iconst (v := 0) hx hb dX9_sum_0 (by decide) ?_
  refine lv_istore_n (lv' := [(2, .int 0), (0, .ref h0), (1, .int w)]) hx hb dX9_sum_1 rfl hl (by decide) rfl (fun ls hl => ?_)
  refine lv_iload_n hx hb dX9_sum_2 rfl (lv_at hl 2 rfl) ?_
  rcases k_sw8 w with hsw | rfl | rfl | rfl | rfl | rfl | rfl | rfl | rfl | rfl
  · refine lv_tableOut (tgt := 80) hx hb dX9_sum_3 hsw (by decide) ?_
    refine lv_iconst (v := (-1)) hx hb dX9_sum_80 (by decide) ?_
    have hP9 := hP.sub (ws' := [(h0, .inr (9, fs))]) [0] rfl
    have hD9 := hD.sub (ws' := [(h0, .inr (9, fs))]) [0] (by decide) rfl
    have hK9 := hK.sub (tys' := []) [] rfl
    exact W.iret (v := (-1)) hx hb hr (fun t ht hW => ⟨⟨(-1), (), rfl, (if_pos hsw).symm, ⟨by rw [ht]; exact hP9, va_K.moved hW.alike hK9, hD9⟩⟩, hS.F ht⟩) hS.2.2 dX9_sum_81
  · refine lv_tableIn (off := 49) (tgt := 52) hx hb dX9_sum_3 (by decide) (by decide) (by decide) (by decide) ?_
    refine lv_aload_n hx hb dX9_sum_52 rfl (lv_at hl 1 rfl) ?_
    refine va_get (D := (dC, dI)) (ci := 9) (v := .int 0) (C := RX9) (T := TX9) (N := 69) hx hb hts hinX9 hown hK hP 0 rfl rfl 58 (by decide) (hts (.fieldLink RX9 295 "CensusDeskModel" "booked" "I") (List.mem_of_getElem? (i := 1) rfl)) (fun _ h9 => h9) g58 dX9_sum_53 ?_
    have hP9 := hP.sub (ws' := [(h0, .inr (9, fs))]) [0] rfl
    have hD9 := hD.sub (ws' := [(h0, .inr (9, fs))]) [0] (by decide) rfl
    have hK9 := hK.sub (tys' := []) [] rfl
    exact W.iret (v := 0) hx hb hr (fun t ht hW => ⟨⟨0, (), rfl, (by decide), ⟨by rw [ht]; exact hP9, va_K.moved hW.alike hK9, hD9⟩⟩, hS.F ht⟩) hS.2.2 dX9_sum_56
  · refine lv_tableIn (off := 54) (tgt := 57) hx hb dX9_sum_3 (by decide) (by decide) (by decide) (by decide) ?_
    refine lv_aload_n hx hb dX9_sum_57 rfl (lv_at hl 1 rfl) ?_
    refine va_get (D := (dC, dI)) (ci := 9) (v := .int 0) (C := RX9) (T := TX9) (N := 69) hx hb hts hinX9 hown hK hP 0 rfl rfl 65 (by decide) (hts (.fieldLink RX9 298 "CensusDeskModel" "bookedPersons" "I") (List.mem_of_getElem? (i := 2) rfl)) (fun _ h9 => h9) g65 dX9_sum_58 ?_
    have hP9 := hP.sub (ws' := [(h0, .inr (9, fs))]) [0] rfl
    have hD9 := hD.sub (ws' := [(h0, .inr (9, fs))]) [0] (by decide) rfl
    have hK9 := hK.sub (tys' := []) [] rfl
    exact W.iret (v := 0) hx hb hr (fun t ht hW => ⟨⟨0, (), rfl, (by decide), ⟨by rw [ht]; exact hP9, va_K.moved hW.alike hK9, hD9⟩⟩, hS.F ht⟩) hS.2.2 dX9_sum_61
  · refine lv_tableIn (off := 74) (tgt := 77) hx hb dX9_sum_3 (by decide) (by decide) (by decide) (by decide) ?_
    refine lv_goto (tgt := 82) hx hb dX9_sum_77 (by decide) ?_
    refine lv_iconst (v := 0) hx hb dX9_sum_82 (by decide) ?_
    refine lv_istore_n (lv' := [(3, .int 0), (2, .int 0), (0, .ref h0), (1, .int 2)]) hx hb dX9_sum_83 rfl hl (by decide) rfl (fun ls hl => ?_)
    refine lv_iload_n hx hb dX9_sum_84 rfl (lv_at hl 0 rfl) ?_
    refine lv_aload_n hx hb dX9_sum_85 rfl (lv_at hl 2 rfl) ?_
    refine va_get (D := (dC, dI)) (ci := 9) (v := .int 0) (C := RX9) (T := TX9) (N := 69) hx hb hts hinX9 hown hK hP 0 rfl rfl 65 (by decide) (hts (.fieldLink RX9 298 "CensusDeskModel" "bookedPersons" "I") (List.mem_of_getElem? (i := 2) rfl)) (fun _ h9 => h9) g65 dX9_sum_86 ?_
    refine lv_icmp_ge (tgt := 167) hx hb dX9_sum_89 (by decide) (fun c_1 => ?_) (fun c_1 => absurd c_1 (by decide))
    refine lv_iload_n hx hb dX9_sum_167 rfl (lv_at hl 1 rfl) ?_
    have hP9 := hP.sub (ws' := [(h0, .inr (9, fs))]) [0] rfl
    have hD9 := hD.sub (ws' := [(h0, .inr (9, fs))]) [0] (by decide) rfl
    have hK9 := hK.sub (tys' := []) [] rfl
    exact W.iret (v := 0) hx hb hr (fun t ht hW => ⟨⟨0, (), rfl, (by decide), ⟨by rw [ht]; exact hP9, va_K.moved hW.alike hK9, hD9⟩⟩, hS.F ht⟩) hS.2.2 dX9_sum_168
  · refine lv_tableIn (off := 74) (tgt := 77) hx hb dX9_sum_3 (by decide) (by decide) (by decide) (by decide) ?_
    refine lv_goto (tgt := 82) hx hb dX9_sum_77 (by decide) ?_
    refine lv_iconst (v := 0) hx hb dX9_sum_82 (by decide) ?_
    refine lv_istore_n (lv' := [(3, .int 0), (2, .int 0), (0, .ref h0), (1, .int 3)]) hx hb dX9_sum_83 rfl hl (by decide) rfl (fun ls hl => ?_)
    refine lv_iload_n hx hb dX9_sum_84 rfl (lv_at hl 0 rfl) ?_
    refine lv_aload_n hx hb dX9_sum_85 rfl (lv_at hl 2 rfl) ?_
    refine va_get (D := (dC, dI)) (ci := 9) (v := .int 0) (C := RX9) (T := TX9) (N := 69) hx hb hts hinX9 hown hK hP 0 rfl rfl 65 (by decide) (hts (.fieldLink RX9 298 "CensusDeskModel" "bookedPersons" "I") (List.mem_of_getElem? (i := 2) rfl)) (fun _ h9 => h9) g65 dX9_sum_86 ?_
    refine lv_icmp_ge (tgt := 167) hx hb dX9_sum_89 (by decide) (fun c_2 => ?_) (fun c_2 => absurd c_2 (by decide))
    refine lv_iload_n hx hb dX9_sum_167 rfl (lv_at hl 1 rfl) ?_
    have hP9 := hP.sub (ws' := [(h0, .inr (9, fs))]) [0] rfl
    have hD9 := hD.sub (ws' := [(h0, .inr (9, fs))]) [0] (by decide) rfl
    have hK9 := hK.sub (tys' := []) [] rfl
    exact W.iret (v := 0) hx hb hr (fun t ht hW => ⟨⟨0, (), rfl, (by decide), ⟨by rw [ht]; exact hP9, va_K.moved hW.alike hK9, hD9⟩⟩, hS.F ht⟩) hS.2.2 dX9_sum_168
  · refine lv_tableIn (off := 74) (tgt := 77) hx hb dX9_sum_3 (by decide) (by decide) (by decide) (by decide) ?_
    refine lv_goto (tgt := 82) hx hb dX9_sum_77 (by decide) ?_
    refine lv_iconst (v := 0) hx hb dX9_sum_82 (by decide) ?_
    refine lv_istore_n (lv' := [(3, .int 0), (2, .int 0), (0, .ref h0), (1, .int 4)]) hx hb dX9_sum_83 rfl hl (by decide) rfl (fun ls hl => ?_)
    refine lv_iload_n hx hb dX9_sum_84 rfl (lv_at hl 0 rfl) ?_
    refine lv_aload_n hx hb dX9_sum_85 rfl (lv_at hl 2 rfl) ?_
    refine va_get (D := (dC, dI)) (ci := 9) (v := .int 0) (C := RX9) (T := TX9) (N := 69) hx hb hts hinX9 hown hK hP 0 rfl rfl 65 (by decide) (hts (.fieldLink RX9 298 "CensusDeskModel" "bookedPersons" "I") (List.mem_of_getElem? (i := 2) rfl)) (fun _ h9 => h9) g65 dX9_sum_86 ?_
    refine lv_icmp_ge (tgt := 167) hx hb dX9_sum_89 (by decide) (fun c_3 => ?_) (fun c_3 => absurd c_3 (by decide))
    refine lv_iload_n hx hb dX9_sum_167 rfl (lv_at hl 1 rfl) ?_
    have hP9 := hP.sub (ws' := [(h0, .inr (9, fs))]) [0] rfl
    have hD9 := hD.sub (ws' := [(h0, .inr (9, fs))]) [0] (by decide) rfl
    have hK9 := hK.sub (tys' := []) [] rfl
    exact W.iret (v := 0) hx hb hr (fun t ht hW => ⟨⟨0, (), rfl, (by decide), ⟨by rw [ht]; exact hP9, va_K.moved hW.alike hK9, hD9⟩⟩, hS.F ht⟩) hS.2.2 dX9_sum_168
  · refine lv_tableIn (off := 74) (tgt := 77) hx hb dX9_sum_3 (by decide) (by decide) (by decide) (by decide) ?_
    refine lv_goto (tgt := 82) hx hb dX9_sum_77 (by decide) ?_
    refine lv_iconst (v := 0) hx hb dX9_sum_82 (by decide) ?_
    refine lv_istore_n (lv' := [(3, .int 0), (2, .int 0), (0, .ref h0), (1, .int 5)]) hx hb dX9_sum_83 rfl hl (by decide) rfl (fun ls hl => ?_)
    refine lv_iload_n hx hb dX9_sum_84 rfl (lv_at hl 0 rfl) ?_
    refine lv_aload_n hx hb dX9_sum_85 rfl (lv_at hl 2 rfl) ?_
    refine va_get (D := (dC, dI)) (ci := 9) (v := .int 0) (C := RX9) (T := TX9) (N := 69) hx hb hts hinX9 hown hK hP 0 rfl rfl 65 (by decide) (hts (.fieldLink RX9 298 "CensusDeskModel" "bookedPersons" "I") (List.mem_of_getElem? (i := 2) rfl)) (fun _ h9 => h9) g65 dX9_sum_86 ?_
    refine lv_icmp_ge (tgt := 167) hx hb dX9_sum_89 (by decide) (fun c_4 => ?_) (fun c_4 => absurd c_4 (by decide))
    refine lv_iload_n hx hb dX9_sum_167 rfl (lv_at hl 1 rfl) ?_
    have hP9 := hP.sub (ws' := [(h0, .inr (9, fs))]) [0] rfl
    have hD9 := hD.sub (ws' := [(h0, .inr (9, fs))]) [0] (by decide) rfl
    have hK9 := hK.sub (tys' := []) [] rfl
    exact W.iret (v := 0) hx hb hr (fun t ht hW => ⟨⟨0, (), rfl, (by decide), ⟨by rw [ht]; exact hP9, va_K.moved hW.alike hK9, hD9⟩⟩, hS.F ht⟩) hS.2.2 dX9_sum_168
  · refine lv_tableIn (off := 59) (tgt := 62) hx hb dX9_sum_3 (by decide) (by decide) (by decide) (by decide) ?_
    refine lv_aload_n hx hb dX9_sum_62 rfl (lv_at hl 1 rfl) ?_
    refine va_get (D := (dC, dI)) (ci := 9) (v := .int 0) (C := RX9) (T := TX9) (N := 69) hx hb hts hinX9 hown hK hP 0 rfl rfl 66 (by decide) (hts (.fieldLink RX9 310 "CensusDeskModel" "sheetsBooked" "I") (List.mem_of_getElem? (i := 3) rfl)) (fun _ h9 => h9) g66 dX9_sum_63 ?_
    have hP9 := hP.sub (ws' := [(h0, .inr (9, fs))]) [0] rfl
    have hD9 := hD.sub (ws' := [(h0, .inr (9, fs))]) [0] (by decide) rfl
    have hK9 := hK.sub (tys' := []) [] rfl
    exact W.iret (v := 0) hx hb hr (fun t ht hW => ⟨⟨0, (), rfl, (by decide), ⟨by rw [ht]; exact hP9, va_K.moved hW.alike hK9, hD9⟩⟩, hS.F ht⟩) hS.2.2 dX9_sum_66
  · refine lv_tableIn (off := 64) (tgt := 67) hx hb dX9_sum_3 (by decide) (by decide) (by decide) (by decide) ?_
    refine lv_aload_n hx hb dX9_sum_67 rfl (lv_at hl 1 rfl) ?_
    refine va_get (D := (dC, dI)) (ci := 9) (v := .int 0) (C := RX9) (T := TX9) (N := 69) hx hb hts hinX9 hown hK hP 0 rfl rfl 67 (by decide) (hts (.fieldLink RX9 292 "CensusDeskModel" "sheetsRejected" "I") (List.mem_of_getElem? (i := 4) rfl)) (fun _ h9 => h9) g67 dX9_sum_68 ?_
    have hP9 := hP.sub (ws' := [(h0, .inr (9, fs))]) [0] rfl
    have hD9 := hD.sub (ws' := [(h0, .inr (9, fs))]) [0] (by decide) rfl
    have hK9 := hK.sub (tys' := []) [] rfl
    exact W.iret (v := 0) hx hb hr (fun t ht hW => ⟨⟨0, (), rfl, (by decide), ⟨by rw [ht]; exact hP9, va_K.moved hW.alike hK9, hD9⟩⟩, hS.F ht⟩) hS.2.2 dX9_sum_71
  · refine lv_tableIn (off := 69) (tgt := 72) hx hb dX9_sum_3 (by decide) (by decide) (by decide) (by decide) ?_
    refine lv_aload_n hx hb dX9_sum_72 rfl (lv_at hl 1 rfl) ?_
    refine va_get (D := (dC, dI)) (ci := 9) (v := .int 0) (C := RX9) (T := TX9) (N := 69) hx hb hts hinX9 hown hK hP 0 rfl rfl 68 (by decide) (hts (.fieldLink RX9 304 "CensusDeskModel" "sheetsWithoutRoom" "I") (List.mem_of_getElem? (i := 5) rfl)) (fun _ h9 => h9) g68 dX9_sum_73 ?_
    have hP9 := hP.sub (ws' := [(h0, .inr (9, fs))]) [0] rfl
    have hD9 := hD.sub (ws' := [(h0, .inr (9, fs))]) [0] (by decide) rfl
    have hK9 := hK.sub (tys' := []) [] rfl
    exact W.iret (v := 0) hx hb hr (fun t ht hW => ⟨⟨0, (), rfl, (by decide), ⟨by rw [ht]; exact hP9, va_K.moved hW.alike hK9, hD9⟩⟩, hS.F ht⟩) hS.2.2 dX9_sum_76
set_option maxHeartbeats 1000000 in
set_option maxRecDepth 100000 in
theorem c_X9_house (l : Launch) (dC : Nat → ClassId) (dI : Nat → Nat → Nat) (h0 : Nat) (fs : List Value) (i w : Int32) (sz : Nat) (hl0 : fs.length = 69) (g58 : fs[58]? = some (.int 0))  : Met l yX9_house wsX9_house ({ frames := 0, cells := 0, slots := 0, locals := 0 }) (va_Pc [.ref h0, .int i, .int w] (kPre dC dI [] [(h0, .inr (9, fs))] sz)) (va_Qi (fun (r : Int32) (_ : Unit) => r = -1) (fun (_ : Unit) (_ : State) => True) (va_A [(h0, .inr (9, fs))] sz)) 0 0 (va_A [(h0, .inr (9, fs))] sz) := by
  refine Met.ofW (cc := cX9_house) (maxL := 3) (ret := (some .int)) (by decide) rfl ?_
  intro p e s m args below meth c s₁ B hml hv
  obtain ⟨rfl, hsz, hP, hK, hD0, hN⟩ := hv
  have hx := B.exec
  have hb := B.bytes
  have hr := B.returns
  have hts := atoms_spec (ws := wsX9_house) B.pre
  have hown : s.vm.findClass RX9 = some m.cls := findClass_of_methodNamed B.named
  have hlocks := B.notSynchronized
  subst hsz
  have hD := hD0.self (sz := s.heap.size)
  generalize hAe : va_A [(h0, .inr (9, fs))] s.heap.size = A at hD ⊢
  have hA : ∀ q : Nat, s.heap.size ≤ q → A q := fun q h => by rw [← hAe]; exact Or.inr h
  have hS : va_S A s.heap s.heap [] := va_S.rf
  have hP : va_P (dC, dI) vwCl [(h0, .inr (9, fs))] s.heap := hP
  have hinX9 : ∀ w ∈ wsX90, w ∈ wsX9_house := fun _ h => List.mem_cons_of_mem _ (List.mem_append_right _ h)
  have hl := lv_entry ([.ref h0, .int i, .int w]) (n := 3) (Nat.le_of_ble_eq_true rfl)
  rw [lg_entry_eq]
  generalize (lg_sl ([.ref h0, .int i, .int w]) ++ List.replicate (3 - (lg_sl ([.ref h0, .int i, .int w])).length) Slot.unset).toArray = ls at hl ⊢
  have hl : lv_has ls 3 [(0, .ref h0), (1, .int i), (2, .int w)] := hl
  refine lv_iload_n hx hb dX9_house_0 rfl (lv_at hl 1 rfl) ?_
  refine lv_if_lt (tgt := 21) hx hb dX9_house_1 (by decide) (fun c_1 => ?_) (fun c_1 => ?_)
  · refine lv_iconst (v := (-1)) hx hb dX9_house_21 (by decide) ?_
    exact W.iret (v := (-1)) hx hb hr (fun t ht hW => ⟨⟨(-1), (), rfl, rfl, trivial⟩, hS.F ht⟩) hS.2.2 dX9_house_22
  · refine lv_iload_n hx hb dX9_house_4 rfl (lv_at hl 1 rfl) ?_
    refine lv_aload_n hx hb dX9_house_5 rfl (lv_at hl 0 rfl) ?_
    refine va_get (D := (dC, dI)) (ci := 9) (v := .int 0) (C := RX9) (T := TX9) (N := 69) hx hb hts hinX9 hown hK hP 0 rfl rfl 58 (by decide) (hts (.fieldLink RX9 295 "CensusDeskModel" "booked" "I") (List.mem_of_getElem? (i := 1) rfl)) (fun _ h9 => h9) g58 dX9_house_6 ?_
    refine lv_icmp_ge (tgt := 21) hx hb dX9_house_9 (by decide) (fun c_2 => ?_) (fun c_2 => False.elim (c_2 (k_nlt c_1)))
    refine lv_iconst (v := (-1)) hx hb dX9_house_21 (by decide) ?_
    exact W.iret (v := (-1)) hx hb hr (fun t ht hW => ⟨⟨(-1), (), rfl, rfl, trivial⟩, hS.F ht⟩) hS.2.2 dX9_house_22
set_option maxHeartbeats 1000000 in
set_option maxRecDepth 100000 in
theorem c_X9_person (l : Launch) (dC : Nat → ClassId) (dI : Nat → Nat → Nat) (h0 : Nat) (fs : List Value) (i w : Int32) (sz : Nat) (hl0 : fs.length = 69) (g65 : fs[65]? = some (.int 0))  : Met l yX9_person wsX9_person ({ frames := 0, cells := 0, slots := 0, locals := 0 }) (va_Pc [.ref h0, .int i, .int w] (kPre dC dI [] [(h0, .inr (9, fs))] sz)) (va_Qi (fun (r : Int32) (_ : Unit) => r = -1) (fun (_ : Unit) (_ : State) => True) (va_A [(h0, .inr (9, fs))] sz)) 0 0 (va_A [(h0, .inr (9, fs))] sz) := by
  refine Met.ofW (cc := cX9_person) (maxL := 3) (ret := (some .int)) (by decide) rfl ?_
  intro p e s m args below meth c s₁ B hml hv
  obtain ⟨rfl, hsz, hP, hK, hD0, hN⟩ := hv
  have hx := B.exec
  have hb := B.bytes
  have hr := B.returns
  have hts := atoms_spec (ws := wsX9_person) B.pre
  have hown : s.vm.findClass RX9 = some m.cls := findClass_of_methodNamed B.named
  have hlocks := B.notSynchronized
  subst hsz
  have hD := hD0.self (sz := s.heap.size)
  generalize hAe : va_A [(h0, .inr (9, fs))] s.heap.size = A at hD ⊢
  have hA : ∀ q : Nat, s.heap.size ≤ q → A q := fun q h => by rw [← hAe]; exact Or.inr h
  have hS : va_S A s.heap s.heap [] := va_S.rf
  have hP : va_P (dC, dI) vwCl [(h0, .inr (9, fs))] s.heap := hP
  have hinX9 : ∀ w ∈ wsX90, w ∈ wsX9_person := fun _ h => List.mem_cons_of_mem _ (List.mem_append_right _ h)
  have hl := lv_entry ([.ref h0, .int i, .int w]) (n := 3) (Nat.le_of_ble_eq_true rfl)
  rw [lg_entry_eq]
  generalize (lg_sl ([.ref h0, .int i, .int w]) ++ List.replicate (3 - (lg_sl ([.ref h0, .int i, .int w])).length) Slot.unset).toArray = ls at hl ⊢
  have hl : lv_has ls 3 [(0, .ref h0), (1, .int i), (2, .int w)] := hl
  refine lv_iload_n hx hb dX9_person_0 rfl (lv_at hl 1 rfl) ?_
  refine lv_if_lt (tgt := 21) hx hb dX9_person_1 (by decide) (fun c_1 => ?_) (fun c_1 => ?_)
  · refine lv_iconst (v := (-1)) hx hb dX9_person_21 (by decide) ?_
    exact W.iret (v := (-1)) hx hb hr (fun t ht hW => ⟨⟨(-1), (), rfl, rfl, trivial⟩, hS.F ht⟩) hS.2.2 dX9_person_22
  · refine lv_iload_n hx hb dX9_person_4 rfl (lv_at hl 1 rfl) ?_
    refine lv_aload_n hx hb dX9_person_5 rfl (lv_at hl 0 rfl) ?_
    refine va_get (D := (dC, dI)) (ci := 9) (v := .int 0) (C := RX9) (T := TX9) (N := 69) hx hb hts hinX9 hown hK hP 0 rfl rfl 65 (by decide) (hts (.fieldLink RX9 298 "CensusDeskModel" "bookedPersons" "I") (List.mem_of_getElem? (i := 1) rfl)) (fun _ h9 => h9) g65 dX9_person_6 ?_
    refine lv_icmp_ge (tgt := 21) hx hb dX9_person_9 (by decide) (fun c_2 => ?_) (fun c_2 => False.elim (c_2 (k_nlt c_1)))
    refine lv_iconst (v := (-1)) hx hb dX9_person_21 (by decide) ?_
    exact W.iret (v := (-1)) hx hb hr (fun t ht hW => ⟨⟨(-1), (), rfl, rfl, trivial⟩, hS.F ht⟩) hS.2.2 dX9_person_22
set_option maxHeartbeats 1000000 in
set_option maxRecDepth 100000 in
theorem c_X9_sign (l : Launch) (dC : Nat → ClassId) (dI : Nat → Nat → Nat) (h0 : Nat) (fs : List Value) (i w : Int32) (sz : Nat) (hl0 : fs.length = 69) (g65 : fs[65]? = some (.int 0))  : Met l yX9_sign wsX9_sign ({ frames := 0, cells := 0, slots := 0, locals := 0 }) (va_Pc [.ref h0, .int i, .int w] (kPre dC dI [] [(h0, .inr (9, fs))] sz)) (va_Qi (fun (r : Int32) (_ : Unit) => r = 0) (fun (_ : Unit) (_ : State) => True) (va_A [(h0, .inr (9, fs))] sz)) 0 0 (va_A [(h0, .inr (9, fs))] sz) := by
  refine Met.ofW (cc := cX9_sign) (maxL := 3) (ret := (some .int)) (by decide) rfl ?_
  intro p e s m args below meth c s₁ B hml hv
  obtain ⟨rfl, hsz, hP, hK, hD0, hN⟩ := hv
  have hx := B.exec
  have hb := B.bytes
  have hr := B.returns
  have hts := atoms_spec (ws := wsX9_sign) B.pre
  have hown : s.vm.findClass RX9 = some m.cls := findClass_of_methodNamed B.named
  have hlocks := B.notSynchronized
  subst hsz
  have hD := hD0.self (sz := s.heap.size)
  generalize hAe : va_A [(h0, .inr (9, fs))] s.heap.size = A at hD ⊢
  have hA : ∀ q : Nat, s.heap.size ≤ q → A q := fun q h => by rw [← hAe]; exact Or.inr h
  have hS : va_S A s.heap s.heap [] := va_S.rf
  have hP : va_P (dC, dI) vwCl [(h0, .inr (9, fs))] s.heap := hP
  have hinX9 : ∀ w ∈ wsX90, w ∈ wsX9_sign := fun _ h => List.mem_cons_of_mem _ (List.mem_append_right _ h)
  have hl := lv_entry ([.ref h0, .int i, .int w]) (n := 3) (Nat.le_of_ble_eq_true rfl)
  rw [lg_entry_eq]
  generalize (lg_sl ([.ref h0, .int i, .int w]) ++ List.replicate (3 - (lg_sl ([.ref h0, .int i, .int w])).length) Slot.unset).toArray = ls at hl ⊢
  have hl : lv_has ls 3 [(0, .ref h0), (1, .int i), (2, .int w)] := hl
  refine lv_iload_n hx hb dX9_sign_0 rfl (lv_at hl 1 rfl) ?_
  refine lv_if_lt (tgt := 44) hx hb dX9_sign_1 (by decide) (fun c_1 => ?_) (fun c_1 => ?_)
  · refine lv_iconst (v := 0) hx hb dX9_sign_44 (by decide) ?_
    exact W.iret (v := 0) hx hb hr (fun t ht hW => ⟨⟨0, (), rfl, rfl, trivial⟩, hS.F ht⟩) hS.2.2 dX9_sign_45
  · refine lv_iload_n hx hb dX9_sign_4 rfl (lv_at hl 1 rfl) ?_
    refine lv_aload_n hx hb dX9_sign_5 rfl (lv_at hl 0 rfl) ?_
    refine va_get (D := (dC, dI)) (ci := 9) (v := .int 0) (C := RX9) (T := TX9) (N := 69) hx hb hts hinX9 hown hK hP 0 rfl rfl 65 (by decide) (hts (.fieldLink RX9 298 "CensusDeskModel" "bookedPersons" "I") (List.mem_of_getElem? (i := 1) rfl)) (fun _ h9 => h9) g65 dX9_sign_6 ?_
    refine lv_icmp_ge (tgt := 44) hx hb dX9_sign_9 (by decide) (fun c_2 => ?_) (fun c_2 => False.elim (c_2 (k_nlt c_1)))
    refine lv_iconst (v := 0) hx hb dX9_sign_44 (by decide) ?_
    exact W.iret (v := 0) hx hb hr (fun t ht hW => ⟨⟨0, (), rfl, rfl, trivial⟩, hS.F ht⟩) hS.2.2 dX9_sign_45
set_option maxHeartbeats 1000000 in
set_option maxRecDepth 100000 in
theorem c_X9_byteOf (l : Launch) (dC : Nat → ClassId) (dI : Nat → Nat → Nat) (wa wb wc wd k : Int32) (sz : Nat)  : Met l yX9_byteOf wsX9_byteOf ({ frames := 0, cells := 0, slots := 0, locals := 0 }) (va_Pc [.int wa, .int wb, .int wc, .int wd, .int k] (kPre dC dI [] [] sz)) (va_Qi (fun (r : Int32) (_ : Unit) => True) (fun (_ : Unit) (t : State) => kB dC dI (va_A [] sz) [] [] t) (va_A [] sz)) 0 0 (va_A [] sz) := by
  refine Met.ofW (cc := cX9_byteOf) (maxL := 6) (ret := (some .int)) (by decide) rfl ?_
  intro p e s m args below meth c s₁ B hml hv
  obtain ⟨rfl, hsz, hP, hK, hD0, hN⟩ := hv
  have hx := B.exec
  have hb := B.bytes
  have hr := B.returns
  have hts := atoms_spec (ws := wsX9_byteOf) B.pre
  have hown : s.vm.findClass RX9 = some m.cls := findClass_of_methodNamed B.named
  have hlocks := B.notSynchronized
  subst hsz
  have hD := hD0.self (sz := s.heap.size)
  generalize hAe : va_A [] s.heap.size = A at hD ⊢
  have hA : ∀ q : Nat, s.heap.size ≤ q → A q := fun q h => by rw [← hAe]; exact Or.inr h
  have hS : va_S A s.heap s.heap [] := va_S.rf
  have hP : va_P (dC, dI) vwCl [] s.heap := hP
  have hl := lv_entry ([.int wa, .int wb, .int wc, .int wd, .int k]) (n := 6) (Nat.le_of_ble_eq_true rfl)
  rw [lg_entry_eq]
  generalize (lg_sl ([.int wa, .int wb, .int wc, .int wd, .int k]) ++ List.replicate (6 - (lg_sl ([.int wa, .int wb, .int wc, .int wd, .int k])).length) Slot.unset).toArray = ls at hl ⊢
  have hl : lv_has ls 6 [(0, .int wa), (1, .int wb), (2, .int wc), (3, .int wd), (4, .int k)] := hl
  refine lv_iload hx hb dX9_byteOf_0 (lv_at hl 4 rfl) ?_
  refine lv_iconst (v := 4) hx hb dX9_byteOf_2 (by decide) ?_
  refine lv_icmp_ge (tgt := 10) hx hb dX9_byteOf_3 (by decide) (fun c_1 => ?_) (fun c_1 => ?_)
  · refine lv_iload hx hb dX9_byteOf_10 (lv_at hl 4 rfl) ?_
    refine lv_bipush (v := 8) hx hb dX9_byteOf_12 (by decide) ?_
    refine lv_icmp_ge (tgt := 21) hx hb dX9_byteOf_14 (by decide) (fun c_2 => ?_) (fun c_2 => ?_)
    · refine lv_iload hx hb dX9_byteOf_21 (lv_at hl 4 rfl) ?_
      refine lv_bipush (v := 12) hx hb dX9_byteOf_23 (by decide) ?_
      refine lv_icmp_ge (tgt := 32) hx hb dX9_byteOf_25 (by decide) (fun c_3 => ?_) (fun c_3 => ?_)
      · refine lv_iload_n hx hb dX9_byteOf_32 rfl (lv_at hl 3 rfl) ?_
        refine lv_istore (lv' := [(5, .int wd), (0, .int wa), (1, .int wb), (2, .int wc), (3, .int wd), (4, .int k)]) hx hb dX9_byteOf_33 hl (by decide) rfl (fun ls hl => ?_)
        refine lv_iload hx hb dX9_byteOf_35 (lv_at hl 0 rfl) ?_
        refine lv_bipush (v := 24) hx hb dX9_byteOf_37 (by decide) ?_
        refine lv_bipush (v := 8) hx hb dX9_byteOf_39 (by decide) ?_
        refine lv_iload hx hb dX9_byteOf_41 (lv_at hl 5 rfl) ?_
        refine lv_iconst (v := 4) hx hb dX9_byteOf_43 (by decide) ?_
        refine lv_irem hx hb dX9_byteOf_44 (by decide) ?_
        refine lv_imul hx hb dX9_byteOf_45 ?_
        refine lv_isub hx hb dX9_byteOf_46 ?_
        refine lv_ishr hx hb dX9_byteOf_47 ?_
        refine lv_sipush (v := 255) hx hb dX9_byteOf_48 (by decide) ?_
        refine lv_iand hx hb dX9_byteOf_51 ?_
        have hP9 := hP.sub (ws' := []) [] rfl
        have hD9 := hD.sub (ws' := []) [] (by decide) rfl
        have hK9 := hK.sub (tys' := []) [] rfl
        exact W.iret (v := ((wd >>> ((24 - (8 * (k - k / 4 * 4))) &&& 31)) &&& 255)) hx hb hr (fun t ht hW => ⟨⟨((wd >>> ((24 - (8 * (k - k / 4 * 4))) &&& 31)) &&& 255), (), rfl, trivial, ⟨by rw [ht]; exact hP9, va_K.moved hW.alike hK9, hD9⟩⟩, hS.F ht⟩) hS.2.2 dX9_byteOf_52
      · refine lv_iload_n hx hb dX9_byteOf_28 rfl (lv_at hl 2 rfl) ?_
        refine lv_goto (tgt := 33) hx hb dX9_byteOf_29 (by decide) ?_
        refine lv_istore (lv' := [(5, .int wc), (0, .int wa), (1, .int wb), (2, .int wc), (3, .int wd), (4, .int k)]) hx hb dX9_byteOf_33 hl (by decide) rfl (fun ls hl => ?_)
        refine lv_iload hx hb dX9_byteOf_35 (lv_at hl 0 rfl) ?_
        refine lv_bipush (v := 24) hx hb dX9_byteOf_37 (by decide) ?_
        refine lv_bipush (v := 8) hx hb dX9_byteOf_39 (by decide) ?_
        refine lv_iload hx hb dX9_byteOf_41 (lv_at hl 5 rfl) ?_
        refine lv_iconst (v := 4) hx hb dX9_byteOf_43 (by decide) ?_
        refine lv_irem hx hb dX9_byteOf_44 (by decide) ?_
        refine lv_imul hx hb dX9_byteOf_45 ?_
        refine lv_isub hx hb dX9_byteOf_46 ?_
        refine lv_ishr hx hb dX9_byteOf_47 ?_
        refine lv_sipush (v := 255) hx hb dX9_byteOf_48 (by decide) ?_
        refine lv_iand hx hb dX9_byteOf_51 ?_
        have hP9 := hP.sub (ws' := []) [] rfl
        have hD9 := hD.sub (ws' := []) [] (by decide) rfl
        have hK9 := hK.sub (tys' := []) [] rfl
        exact W.iret (v := ((wc >>> ((24 - (8 * (k - k / 4 * 4))) &&& 31)) &&& 255)) hx hb hr (fun t ht hW => ⟨⟨((wc >>> ((24 - (8 * (k - k / 4 * 4))) &&& 31)) &&& 255), (), rfl, trivial, ⟨by rw [ht]; exact hP9, va_K.moved hW.alike hK9, hD9⟩⟩, hS.F ht⟩) hS.2.2 dX9_byteOf_52
    · refine lv_iload_n hx hb dX9_byteOf_17 rfl (lv_at hl 1 rfl) ?_
      refine lv_goto (tgt := 33) hx hb dX9_byteOf_18 (by decide) ?_
      refine lv_istore (lv' := [(5, .int wb), (0, .int wa), (1, .int wb), (2, .int wc), (3, .int wd), (4, .int k)]) hx hb dX9_byteOf_33 hl (by decide) rfl (fun ls hl => ?_)
      refine lv_iload hx hb dX9_byteOf_35 (lv_at hl 0 rfl) ?_
      refine lv_bipush (v := 24) hx hb dX9_byteOf_37 (by decide) ?_
      refine lv_bipush (v := 8) hx hb dX9_byteOf_39 (by decide) ?_
      refine lv_iload hx hb dX9_byteOf_41 (lv_at hl 5 rfl) ?_
      refine lv_iconst (v := 4) hx hb dX9_byteOf_43 (by decide) ?_
      refine lv_irem hx hb dX9_byteOf_44 (by decide) ?_
      refine lv_imul hx hb dX9_byteOf_45 ?_
      refine lv_isub hx hb dX9_byteOf_46 ?_
      refine lv_ishr hx hb dX9_byteOf_47 ?_
      refine lv_sipush (v := 255) hx hb dX9_byteOf_48 (by decide) ?_
      refine lv_iand hx hb dX9_byteOf_51 ?_
      have hP9 := hP.sub (ws' := []) [] rfl
      have hD9 := hD.sub (ws' := []) [] (by decide) rfl
      have hK9 := hK.sub (tys' := []) [] rfl
      exact W.iret (v := ((wb >>> ((24 - (8 * (k - k / 4 * 4))) &&& 31)) &&& 255)) hx hb hr (fun t ht hW => ⟨⟨((wb >>> ((24 - (8 * (k - k / 4 * 4))) &&& 31)) &&& 255), (), rfl, trivial, ⟨by rw [ht]; exact hP9, va_K.moved hW.alike hK9, hD9⟩⟩, hS.F ht⟩) hS.2.2 dX9_byteOf_52
  · refine lv_iload_n hx hb dX9_byteOf_6 rfl (lv_at hl 0 rfl) ?_
    refine lv_goto (tgt := 33) hx hb dX9_byteOf_7 (by decide) ?_
    refine lv_istore (lv' := [(5, .int wa), (0, .int wa), (1, .int wb), (2, .int wc), (3, .int wd), (4, .int k)]) hx hb dX9_byteOf_33 hl (by decide) rfl (fun ls hl => ?_)
    refine lv_iload hx hb dX9_byteOf_35 (lv_at hl 0 rfl) ?_
    refine lv_bipush (v := 24) hx hb dX9_byteOf_37 (by decide) ?_
    refine lv_bipush (v := 8) hx hb dX9_byteOf_39 (by decide) ?_
    refine lv_iload hx hb dX9_byteOf_41 (lv_at hl 5 rfl) ?_
    refine lv_iconst (v := 4) hx hb dX9_byteOf_43 (by decide) ?_
    refine lv_irem hx hb dX9_byteOf_44 (by decide) ?_
    refine lv_imul hx hb dX9_byteOf_45 ?_
    refine lv_isub hx hb dX9_byteOf_46 ?_
    refine lv_ishr hx hb dX9_byteOf_47 ?_
    refine lv_sipush (v := 255) hx hb dX9_byteOf_48 (by decide) ?_
    refine lv_iand hx hb dX9_byteOf_51 ?_
    have hP9 := hP.sub (ws' := []) [] rfl
    have hD9 := hD.sub (ws' := []) [] (by decide) rfl
    have hK9 := hK.sub (tys' := []) [] rfl
    exact W.iret (v := ((wa >>> ((24 - (8 * (k - k / 4 * 4))) &&& 31)) &&& 255)) hx hb hr (fun t ht hW => ⟨⟨((wa >>> ((24 - (8 * (k - k / 4 * 4))) &&& 31)) &&& 255), (), rfl, trivial, ⟨by rw [ht]; exact hP9, va_K.moved hW.alike hK9, hD9⟩⟩, hS.F ht⟩) hS.2.2 dX9_byteOf_52
set_option maxHeartbeats 1000000 in
set_option maxRecDepth 100000 in
theorem c_X9_named (l : Launch) (dC : Nat → ClassId) (dI : Nat → Nat → Nat) (h0 : Nat) (fs : List Value) (wa wb wc wd : Int32) (sz : Nat) (hl0 : fs.length = 69) (g65 : fs[65]? = some (.int 0))  : Met l yX9_named wsX9_named ({ frames := 1, cells := 0, slots := 0, locals := 25 }) (va_Pc [.ref h0, .int wa, .int wb, .int wc, .int wd] (kPre dC dI [] [(h0, .inr (9, fs))] sz)) (va_Qi (fun (r : Int32) (_ : Unit) => r = 0) (fun (_ : Unit) (_ : State) => True) (va_A [(h0, .inr (9, fs))] sz)) 0 0 (va_A [(h0, .inr (9, fs))] sz) := by
  refine Met.ofW (cc := cX9_named) (maxL := 10) (ret := (some .int)) (by decide) rfl ?_
  intro p e s m args below meth c s₁ B hml hv
  obtain ⟨rfl, hsz, hP, hK, hD0, hN⟩ := hv
  have hx := B.exec
  have hb := B.bytes
  have hr := B.returns
  have hts := atoms_spec (ws := wsX9_named) B.pre
  have hown : s.vm.findClass RX9 = some m.cls := findClass_of_methodNamed B.named
  have hlocks := B.notSynchronized
  subst hsz
  have hD := hD0.self (sz := s.heap.size)
  generalize hAe : va_A [(h0, .inr (9, fs))] s.heap.size = A at hD ⊢
  have hA : ∀ q : Nat, s.heap.size ≤ q → A q := fun q h => by rw [← hAe]; exact Or.inr h
  have hS : va_S A s.heap s.heap [] := va_S.rf
  have hP : va_P (dC, dI) vwCl [(h0, .inr (9, fs))] s.heap := hP
  have hinX9 : ∀ w ∈ wsX90, w ∈ wsX9_named := fun _ h => List.mem_cons_of_mem _ (List.mem_append_right _ h)
  have hl := lv_entry ([.ref h0, .int wa, .int wb, .int wc, .int wd]) (n := 10) (Nat.le_of_ble_eq_true rfl)
  rw [lg_entry_eq]
  generalize (lg_sl ([.ref h0, .int wa, .int wb, .int wc, .int wd]) ++ List.replicate (10 - (lg_sl ([.ref h0, .int wa, .int wb, .int wc, .int wd])).length) Slot.unset).toArray = ls at hl ⊢
  have hl : lv_has ls 10 [(0, .ref h0), (1, .int wa), (2, .int wb), (3, .int wc), (4, .int wd)] := hl
  refine k_gen (fun QQ eQ => ?_)
  refine lv_iconst (v := 0) hx hb dX9_named_0 (by decide) ?_
  refine lv_istore (lv' := [(5, .int 0), (0, .ref h0), (1, .int wa), (2, .int wb), (3, .int wc), (4, .int wd)]) hx hb dX9_named_1 hl (by decide) rfl (fun ls hl => ?_)
  have loop3 : ∀ (n3 : Nat) (n : Nat) (H : Heap) (locs : List Loc) (ls : Array Slot), (n ≤ 16) → 16 - n < n3 → va_P (dC, dI) vwCl [(h0, .inr (9, fs))] H → va_D A [(h0, .inr (9, fs))] → va_S A s.heap H locs → lv_has ls 10 [(5, .int (nI n)), (0, .ref h0), (1, .int wa), (2, .int wb), (3, .int wc), (4, .int wd)] → W p l e ({ frames := 1, cells := 0, slots := 0, locals := 25 } : Room) s m ([.ref h0, .int wa, .int wb, .int wc, .int wd] : List Value).toArray below meth c H locs 0 0 QQ (F0 m 3 ls []) := by
    intro n3
    induction n3 with
    | zero =>
      intro n H locs ls hn hm
      exact absurd hm (Nat.not_lt_zero _)
    | succ n3 ih3 =>
      intro n H locs ls hn hm hP hD hS hl
      refine lv_iload hx hb dX9_named_3 (lv_at hl 0 rfl) ?_
      refine lv_bipush (v := 16) hx hb dX9_named_5 (by decide) ?_
      refine lv_icmp_ge (tgt := 29) hx hb dX9_named_7 (by decide) (fun c_1 => ?_) (fun c_1 => ?_)
      · refine lv_iconst (v := 0) hx hb dX9_named_29 (by decide) ?_
        refine lv_istore (lv' := [(6, .int 0), (5, .int (nI n)), (0, .ref h0), (1, .int wa), (2, .int wb), (3, .int wc), (4, .int wd)]) hx hb dX9_named_30 hl (by decide) rfl (fun ls hl => ?_)
        refine lv_iconst (v := 0) hx hb dX9_named_32 (by decide) ?_
        refine lv_istore (lv' := [(7, .int 0), (6, .int 0), (5, .int (nI n)), (0, .ref h0), (1, .int wa), (2, .int wb), (3, .int wc), (4, .int wd)]) hx hb dX9_named_33 hl (by decide) rfl (fun ls hl => ?_)
        refine lv_iload hx hb dX9_named_35 (lv_at hl 0 rfl) ?_
        refine lv_aload_n hx hb dX9_named_37 rfl (lv_at hl 3 rfl) ?_
        refine va_get (D := (dC, dI)) (ci := 9) (v := .int 0) (C := RX9) (T := TX9) (N := 69) hx hb hts hinX9 hown hK hP 0 rfl rfl 65 (by decide) (hts (.fieldLink RX9 298 "CensusDeskModel" "bookedPersons" "I") (List.mem_of_getElem? (i := 1) rfl)) (fun _ h9 => h9) g65 dX9_named_38 ?_
        refine lv_icmp_ge (tgt := 147) hx hb dX9_named_41 (by decide) (fun c_2 => ?_) (fun c_2 => absurd c_2 (by decide))
        refine lv_iload hx hb dX9_named_147 (lv_at hl 1 rfl) ?_
        subst eQ
        exact W.iret (v := 0) hx hb hr (fun t ht hW => ⟨⟨0, (), rfl, rfl, trivial⟩, hS.F ht⟩) hS.2.2 dX9_named_149
      · have hn3 : n < 16 := by rcases Nat.lt_or_ge n 16 with q | q; exact q; exact absurd (nI_le (a := 16) (b := n) q (by omega)) c_1
        refine lv_iload_n hx hb dX9_named_10 rfl (lv_at hl 2 rfl) ?_
        refine lv_iload_n hx hb dX9_named_11 rfl (lv_at hl 3 rfl) ?_
        refine lv_iload_n hx hb dX9_named_12 rfl (lv_at hl 4 rfl) ?_
        refine lv_iload hx hb dX9_named_13 (lv_at hl 5 rfl) ?_
        refine lv_iload hx hb dX9_named_15 (lv_at hl 0 rfl) ?_
        have hPc := hP.sub (ws' := []) [] rfl
        have hDc := hD.sub (ws' := []) [] (by decide) rfl
        have hKc := hK.sub (tys' := []) [] rfl
        have hFc := va_free (wc := []) hD hS hA [] rfl
        refine va_calli (va_runS (As := [.int wa, .int wb, .int wc, .int wd, .int (nI n)]) (rest := []) ⟨hx, hb, hml, hown, hts⟩ (c_X9_byteOf l dC dI wa wb wc wd (nI n) _ ) (va_cwS 5 hts gX9_named_X9_byteOf rfl rfl rfl (by decide +kernel) ⟨Nat.le_of_ble_eq_true rfl, Nat.le_of_ble_eq_true rfl⟩) (kPreS hPc hKc hDc hN) rfl rfl hl.1 rfl (lv_room (Nat.le_of_ble_eq_true rfl)) dX9_named_17 ⟨(by decide +kernel), (by decide +kernel)⟩) hS (fun q _ h => hFc q h) hFc (fun r_3 u t H1 locs ht hvm hw hB hz1 hk1 hS => ?_)
        obtain ⟨hP, hD, hK⟩ := kJoin (wc := []) (wr := [(h0, .inr (9, fs))]) (w1 := []) hP hD hK [] [0] rfl rfl (by decide) (by decide) hk1 hFc ht hvm hB
        have hK : va_K (dC, dI) vwCl [] s := hK
        generalize H1 = H at hP hS ⊢
        have hP : va_P (dC, dI) vwCl [(h0, .inr (9, fs))] H := hP
        have hD : va_D A [(h0, .inr (9, fs))] := hD
        try dsimp only at hw
        refine lv_if_eq (tgt := 29) hx hb dX9_named_20 (by decide) (fun c_4 => ?_) (fun c_4 => ?_)
        · refine lv_iconst (v := 0) hx hb dX9_named_29 (by decide) ?_
          refine lv_istore (lv' := [(6, .int 0), (5, .int (nI n)), (0, .ref h0), (1, .int wa), (2, .int wb), (3, .int wc), (4, .int wd)]) hx hb dX9_named_30 hl (by decide) rfl (fun ls hl => ?_)
          refine lv_iconst (v := 0) hx hb dX9_named_32 (by decide) ?_
          refine lv_istore (lv' := [(7, .int 0), (6, .int 0), (5, .int (nI n)), (0, .ref h0), (1, .int wa), (2, .int wb), (3, .int wc), (4, .int wd)]) hx hb dX9_named_33 hl (by decide) rfl (fun ls hl => ?_)
          refine lv_iload hx hb dX9_named_35 (lv_at hl 0 rfl) ?_
          refine lv_aload_n hx hb dX9_named_37 rfl (lv_at hl 3 rfl) ?_
          refine va_get (D := (dC, dI)) (ci := 9) (v := .int 0) (C := RX9) (T := TX9) (N := 69) hx hb hts hinX9 hown hK hP 0 rfl rfl 65 (by decide) (hts (.fieldLink RX9 298 "CensusDeskModel" "bookedPersons" "I") (List.mem_of_getElem? (i := 1) rfl)) (fun _ h9 => h9) g65 dX9_named_38 ?_
          refine lv_icmp_ge (tgt := 147) hx hb dX9_named_41 (by decide) (fun c_5 => ?_) (fun c_5 => absurd c_5 (by decide))
          refine lv_iload hx hb dX9_named_147 (lv_at hl 1 rfl) ?_
          subst eQ
          exact W.iret (v := 0) hx hb hr (fun t ht hW => ⟨⟨0, (), rfl, rfl, trivial⟩, hS.F ht⟩) hS.2.2 dX9_named_149
        · refine lv_iinc (v := (nI (n + 1))) (lv' := [(5, .int (nI (n + 1))), (0, .ref h0), (1, .int wa), (2, .int wb), (3, .int wc), (4, .int wd)]) hx hb dX9_named_23 hl (k := 0) rfl (nI_1 n) (by decide) rfl (fun ls hl => ?_)
          refine lv_goto (tgt := 3) hx hb dX9_named_26 (by decide) ?_
          exact ih3 (n + 1) _ _ _ (by omega) (by omega) (hP.sub [0] rfl) (hD.sub [0] (by decide) rfl) hS (lv_sub hl [0, 1, 2, 3, 4, 5] rfl)
  exact loop3 (16 - 0 + 1) (0) _ _ _ (by decide) (Nat.lt_succ_self _) (hP.sub [0] rfl) (hD.sub [0] (by decide) rfl) hS (lv_sub hl [0, 1, 2, 3, 4, 5] rfl)
set_option maxHeartbeats 1000000 in
set_option maxRecDepth 100000 in
theorem c_X9_audit (l : Launch) (dC : Nat → ClassId) (dI : Nat → Nat → Nat) (h0 : Nat) (fs : List Value) (sz : Nat) (hl0 : fs.length = 69) (g58 : fs[58]? = some (.int 0)) (g65 : fs[65]? = some (.int 0)) (g66 : fs[66]? = some (.int 0)) (g67 : fs[67]? = some (.int 0)) (g68 : fs[68]? = some (.int 0)) (g8 : fs[8]? = some (.int 0)) (g5 : fs[5]? = some (.int 0))  : Met l yX9_audit wsX9_audit ({ frames := 1, cells := 0, slots := 0, locals := 23 }) (va_Pc [.ref h0] (kPre dC dI [] [(h0, .inr (9, fs))] sz)) (va_Qi (fun (r : Int32) (_ : Unit) => r = 0) (fun (_ : Unit) (_ : State) => True) (va_A [(h0, .inr (9, fs))] sz)) 0 0 (va_A [(h0, .inr (9, fs))] sz) := by
  refine Met.ofW (cc := cX9_audit) (maxL := 5) (ret := (some .int)) (by decide) rfl ?_
  intro p e s m args below meth c s₁ B hml hv
  obtain ⟨rfl, hsz, hP, hK, hD0, hN⟩ := hv
  have hx := B.exec
  have hb := B.bytes
  have hr := B.returns
  have hts := atoms_spec (ws := wsX9_audit) B.pre
  have hown : s.vm.findClass RX9 = some m.cls := findClass_of_methodNamed B.named
  have hlocks := B.notSynchronized
  subst hsz
  have hD := hD0.self (sz := s.heap.size)
  generalize hAe : va_A [(h0, .inr (9, fs))] s.heap.size = A at hD ⊢
  have hA : ∀ q : Nat, s.heap.size ≤ q → A q := fun q h => by rw [← hAe]; exact Or.inr h
  have hS : va_S A s.heap s.heap [] := va_S.rf
  have hP : va_P (dC, dI) vwCl [(h0, .inr (9, fs))] s.heap := hP
  have hinX9 : ∀ w ∈ wsX90, w ∈ wsX9_audit := fun _ h => List.mem_cons_of_mem _ (List.mem_append_right _ h)
  have hl := lv_entry ([.ref h0]) (n := 5) (Nat.le_of_ble_eq_true rfl)
  rw [lg_entry_eq]
  generalize (lg_sl ([.ref h0]) ++ List.replicate (5 - (lg_sl ([.ref h0])).length) Slot.unset).toArray = ls at hl ⊢
  have hl : lv_has ls 5 [(0, .ref h0)] := hl
  refine lv_iconst (v := 0) hx hb dX9_audit_0 (by decide) ?_
  refine lv_istore_n (lv' := [(1, .int 0), (0, .ref h0)]) hx hb dX9_audit_1 rfl hl (by decide) rfl (fun ls hl => ?_)
  refine lv_iconst (v := 0) hx hb dX9_audit_2 (by decide) ?_
  refine lv_istore_n (lv' := [(2, .int 0), (1, .int 0), (0, .ref h0)]) hx hb dX9_audit_3 rfl hl (by decide) rfl (fun ls hl => ?_)
  refine lv_iload_n hx hb dX9_audit_4 rfl (lv_at hl 0 rfl) ?_
  refine lv_aload_n hx hb dX9_audit_5 rfl (lv_at hl 2 rfl) ?_
  refine va_get (D := (dC, dI)) (ci := 9) (v := .int 0) (C := RX9) (T := TX9) (N := 69) hx hb hts hinX9 hown hK hP 0 rfl rfl 58 (by decide) (hts (.fieldLink RX9 295 "CensusDeskModel" "booked" "I") (List.mem_of_getElem? (i := 1) rfl)) (fun _ h9 => h9) g58 dX9_audit_6 ?_
  refine lv_icmp_ge (tgt := 27) hx hb dX9_audit_9 (by decide) (fun c_1 => ?_) (fun c_1 => absurd c_1 (by decide))
  refine lv_iconst (v := 0) hx hb dX9_audit_27 (by decide) ?_
  refine lv_istore_n (lv' := [(2, .int 0), (1, .int 0), (0, .ref h0)]) hx hb dX9_audit_28 rfl hl (by decide) rfl (fun ls hl => ?_)
  refine lv_iconst (v := 0) hx hb dX9_audit_29 (by decide) ?_
  refine lv_istore_n (lv' := [(3, .int 0), (2, .int 0), (1, .int 0), (0, .ref h0)]) hx hb dX9_audit_30 rfl hl (by decide) rfl (fun ls hl => ?_)
  refine lv_iconst (v := 0) hx hb dX9_audit_31 (by decide) ?_
  refine lv_istore (lv' := [(4, .int 0), (3, .int 0), (2, .int 0), (1, .int 0), (0, .ref h0)]) hx hb dX9_audit_32 hl (by decide) rfl (fun ls hl => ?_)
  refine lv_iload hx hb dX9_audit_34 (lv_at hl 0 rfl) ?_
  refine lv_aload_n hx hb dX9_audit_36 rfl (lv_at hl 4 rfl) ?_
  refine va_get (D := (dC, dI)) (ci := 9) (v := .int 0) (C := RX9) (T := TX9) (N := 69) hx hb hts hinX9 hown hK hP 0 rfl rfl 65 (by decide) (hts (.fieldLink RX9 298 "CensusDeskModel" "bookedPersons" "I") (List.mem_of_getElem? (i := 3) rfl)) (fun _ h9 => h9) g65 dX9_audit_37 ?_
  refine lv_icmp_ge (tgt := 91) hx hb dX9_audit_40 (by decide) (fun c_2 => ?_) (fun c_2 => absurd c_2 (by decide))
  refine lv_iload_n hx hb dX9_audit_91 rfl (lv_at hl 3 rfl) ?_
  refine lv_aload_n hx hb dX9_audit_92 rfl (lv_at hl 4 rfl) ?_
  refine va_get (D := (dC, dI)) (ci := 9) (v := .int 0) (C := RX9) (T := TX9) (N := 69) hx hb hts hinX9 hown hK hP 0 rfl rfl 65 (by decide) (hts (.fieldLink RX9 298 "CensusDeskModel" "bookedPersons" "I") (List.mem_of_getElem? (i := 3) rfl)) (fun _ h9 => h9) g65 dX9_audit_93 ?_
  refine lv_icmp_ne (tgt := 103) hx hb dX9_audit_96 (by decide) (fun c_3 => absurd c_3 (by decide)) (fun c_3 => ?_)
  refine lv_iconst (v := 0) hx hb dX9_audit_99 (by decide) ?_
  refine lv_goto (tgt := 104) hx hb dX9_audit_100 (by decide) ?_
  refine lv_istore (lv' := [(4, .int 0), (3, .int 0), (2, .int 0), (1, .int 0), (0, .ref h0)]) hx hb dX9_audit_104 hl (by decide) rfl (fun ls hl => ?_)
  refine lv_iload hx hb dX9_audit_106 (lv_at hl 0 rfl) ?_
  refine lv_aload_n hx hb dX9_audit_108 rfl (lv_at hl 4 rfl) ?_
  refine lv_iconst (v := 2) hx hb dX9_audit_109 (by decide) ?_
  have hPc := hP.sub (ws' := [(h0, .inr (9, fs))]) [0] rfl
  have hDc := hD.sub (ws' := [(h0, .inr (9, fs))]) [0] (by decide) rfl
  have hKc := hK.sub (tys' := []) [] rfl
  have hFc := va_free (wc := [(h0, .inr (9, fs))]) hD hS hA [0] rfl
  refine va_calli (va_runV (As := [.int 2]) (rest := [.int 0]) ⟨hx, hb, hml, hown, hts⟩ (c_X9_sum l dC dI h0 fs 2 _ hl0 g58 g65 g66 g67 g68) (cwV 1 hts gX9_audit_X9_sum rfl rfl rfl (by decide +kernel) ⟨Nat.le_of_ble_eq_true rfl, Nat.le_of_ble_eq_true rfl⟩) (kPreV hPc hKc hDc hN (va_recv hKc hPc (ci := 9) (q0 := 0) rfl rfl)) rfl rfl hl.1 rfl (lv_room (Nat.le_of_ble_eq_true rfl)) dX9_audit_110 ⟨(by decide +kernel), (by decide +kernel)⟩) hS (fun q _ h => hFc q h) hFc (fun r_4 u t H1 locs ht hvm hw hB hz1 hk1 hS => ?_)
  obtain ⟨hP, hD, hK⟩ := kJoin (wc := [(h0, .inr (9, fs))]) (wr := []) (w1 := [(h0, .inr (9, fs))]) hP hD hK [0] [] rfl rfl (by decide) (by decide) hk1 hFc ht hvm hB
  have hK : va_K (dC, dI) vwCl [] s := hK
  generalize H1 = H at hP hS ⊢
  have hP : va_P (dC, dI) vwCl [(h0, .inr (9, fs))] H := hP
  have hD : va_D A [(h0, .inr (9, fs))] := hD
  try dsimp only at hw
  have hw : r_4 = 0 := hw.trans (by decide)
  subst hw
  refine lv_aload_n hx hb dX9_audit_113 rfl (lv_at hl 4 rfl) ?_
  refine lv_iconst (v := 3) hx hb dX9_audit_114 (by decide) ?_
  have hPc := hP.sub (ws' := [(h0, .inr (9, fs))]) [0] rfl
  have hDc := hD.sub (ws' := [(h0, .inr (9, fs))]) [0] (by decide) rfl
  have hKc := hK.sub (tys' := []) [] rfl
  have hFc := va_free (wc := [(h0, .inr (9, fs))]) hD hS hA [0] rfl
  refine va_calli (va_runV (As := [.int 3]) (rest := [.int 0, .int 0]) ⟨hx, hb, hml, hown, hts⟩ (c_X9_sum l dC dI h0 fs 3 _ hl0 g58 g65 g66 g67 g68) (cwV 1 hts gX9_audit_X9_sum rfl rfl rfl (by decide +kernel) ⟨Nat.le_of_ble_eq_true rfl, Nat.le_of_ble_eq_true rfl⟩) (kPreV hPc hKc hDc hN (va_recv hKc hPc (ci := 9) (q0 := 0) rfl rfl)) rfl rfl hl.1 rfl (lv_room (Nat.le_of_ble_eq_true rfl)) dX9_audit_115 ⟨(by decide +kernel), (by decide +kernel)⟩) hS (fun q _ h => hFc q h) hFc (fun r_5 u t H1 locs ht hvm hw hB hz1 hk1 hS => ?_)
  obtain ⟨hP, hD, hK⟩ := kJoin (wc := [(h0, .inr (9, fs))]) (wr := []) (w1 := [(h0, .inr (9, fs))]) hP hD hK [0] [] rfl rfl (by decide) (by decide) hk1 hFc ht hvm hB
  have hK : va_K (dC, dI) vwCl [] s := hK
  generalize H1 = H at hP hS ⊢
  have hP : va_P (dC, dI) vwCl [(h0, .inr (9, fs))] H := hP
  have hD : va_D A [(h0, .inr (9, fs))] := hD
  try dsimp only at hw
  have hw : r_5 = 0 := hw.trans (by decide)
  subst hw
  refine lv_iadd hx hb dX9_audit_118 ?_
  refine k_top (v := 0) (by decide) ?_
  refine lv_iload_n hx hb dX9_audit_119 rfl (lv_at hl 2 rfl) ?_
  refine lv_iadd hx hb dX9_audit_120 ?_
  refine k_top (v := 0) (by decide) ?_
  refine lv_aload_n hx hb dX9_audit_121 rfl (lv_at hl 4 rfl) ?_
  refine va_get (D := (dC, dI)) (ci := 9) (v := .int 0) (C := RX9) (T := TX9) (N := 69) hx hb hts hinX9 hown hK hP 0 rfl rfl 65 (by decide) (hts (.fieldLink RX9 298 "CensusDeskModel" "bookedPersons" "I") (List.mem_of_getElem? (i := 3) rfl)) (fun _ h9 => h9) g65 dX9_audit_122 ?_
  refine lv_icmp_ne (tgt := 132) hx hb dX9_audit_125 (by decide) (fun c_6 => absurd c_6 (by decide)) (fun c_6 => ?_)
  refine lv_iconst (v := 0) hx hb dX9_audit_128 (by decide) ?_
  refine lv_goto (tgt := 133) hx hb dX9_audit_129 (by decide) ?_
  refine lv_iadd hx hb dX9_audit_133 ?_
  refine k_top (v := 0) (by decide) ?_
  refine lv_istore (lv' := [(4, .int 0), (3, .int 0), (2, .int 0), (1, .int 0), (0, .ref h0)]) hx hb dX9_audit_134 hl (by decide) rfl (fun ls hl => ?_)
  refine lv_iload hx hb dX9_audit_136 (lv_at hl 0 rfl) ?_
  refine lv_iload_n hx hb dX9_audit_138 rfl (lv_at hl 1 rfl) ?_
  refine lv_aload_n hx hb dX9_audit_139 rfl (lv_at hl 4 rfl) ?_
  refine lv_iconst (v := 4) hx hb dX9_audit_140 (by decide) ?_
  have hPc := hP.sub (ws' := [(h0, .inr (9, fs))]) [0] rfl
  have hDc := hD.sub (ws' := [(h0, .inr (9, fs))]) [0] (by decide) rfl
  have hKc := hK.sub (tys' := []) [] rfl
  have hFc := va_free (wc := [(h0, .inr (9, fs))]) hD hS hA [0] rfl
  refine va_calli (va_runV (As := [.int 4]) (rest := [.int 0, .int 0]) ⟨hx, hb, hml, hown, hts⟩ (c_X9_sum l dC dI h0 fs 4 _ hl0 g58 g65 g66 g67 g68) (cwV 1 hts gX9_audit_X9_sum rfl rfl rfl (by decide +kernel) ⟨Nat.le_of_ble_eq_true rfl, Nat.le_of_ble_eq_true rfl⟩) (kPreV hPc hKc hDc hN (va_recv hKc hPc (ci := 9) (q0 := 0) rfl rfl)) rfl rfl hl.1 rfl (lv_room (Nat.le_of_ble_eq_true rfl)) dX9_audit_141 ⟨(by decide +kernel), (by decide +kernel)⟩) hS (fun q _ h => hFc q h) hFc (fun r_7 u t H1 locs ht hvm hw hB hz1 hk1 hS => ?_)
  obtain ⟨hP, hD, hK⟩ := kJoin (wc := [(h0, .inr (9, fs))]) (wr := []) (w1 := [(h0, .inr (9, fs))]) hP hD hK [0] [] rfl rfl (by decide) (by decide) hk1 hFc ht hvm hB
  have hK : va_K (dC, dI) vwCl [] s := hK
  generalize H1 = H at hP hS ⊢
  have hP : va_P (dC, dI) vwCl [(h0, .inr (9, fs))] H := hP
  have hD : va_D A [(h0, .inr (9, fs))] := hD
  try dsimp only at hw
  have hw : r_7 = 0 := hw.trans (by decide)
  subst hw
  refine lv_icmp_ne (tgt := 151) hx hb dX9_audit_144 (by decide) (fun c_8 => absurd c_8 (by decide)) (fun c_8 => ?_)
  refine lv_iconst (v := 0) hx hb dX9_audit_147 (by decide) ?_
  refine lv_goto (tgt := 152) hx hb dX9_audit_148 (by decide) ?_
  refine lv_iadd hx hb dX9_audit_152 ?_
  refine k_top (v := 0) (by decide) ?_
  refine lv_istore (lv' := [(4, .int 0), (3, .int 0), (2, .int 0), (1, .int 0), (0, .ref h0)]) hx hb dX9_audit_153 hl (by decide) rfl (fun ls hl => ?_)
  refine lv_iload hx hb dX9_audit_155 (lv_at hl 0 rfl) ?_
  refine lv_aload_n hx hb dX9_audit_157 rfl (lv_at hl 4 rfl) ?_
  refine va_get (D := (dC, dI)) (ci := 9) (v := .int 0) (C := RX9) (T := TX9) (N := 69) hx hb hts hinX9 hown hK hP 0 rfl rfl 8 (by decide) (hts (.fieldLink RX9 307 "CensusDeskModel" "sheets" "I") (List.mem_of_getElem? (i := 6) rfl)) (fun _ h9 => h9) g8 dX9_audit_158 ?_
  refine lv_aload_n hx hb dX9_audit_161 rfl (lv_at hl 4 rfl) ?_
  refine va_get (D := (dC, dI)) (ci := 9) (v := .int 0) (C := RX9) (T := TX9) (N := 69) hx hb hts hinX9 hown hK hP 0 rfl rfl 66 (by decide) (hts (.fieldLink RX9 310 "CensusDeskModel" "sheetsBooked" "I") (List.mem_of_getElem? (i := 7) rfl)) (fun _ h9 => h9) g66 dX9_audit_162 ?_
  refine lv_aload_n hx hb dX9_audit_165 rfl (lv_at hl 4 rfl) ?_
  refine va_get (D := (dC, dI)) (ci := 9) (v := .int 0) (C := RX9) (T := TX9) (N := 69) hx hb hts hinX9 hown hK hP 0 rfl rfl 67 (by decide) (hts (.fieldLink RX9 292 "CensusDeskModel" "sheetsRejected" "I") (List.mem_of_getElem? (i := 8) rfl)) (fun _ h9 => h9) g67 dX9_audit_166 ?_
  refine lv_iadd hx hb dX9_audit_169 ?_
  refine k_top (v := 0) (by decide) ?_
  refine lv_aload_n hx hb dX9_audit_170 rfl (lv_at hl 4 rfl) ?_
  refine va_get (D := (dC, dI)) (ci := 9) (v := .int 0) (C := RX9) (T := TX9) (N := 69) hx hb hts hinX9 hown hK hP 0 rfl rfl 68 (by decide) (hts (.fieldLink RX9 304 "CensusDeskModel" "sheetsWithoutRoom" "I") (List.mem_of_getElem? (i := 9) rfl)) (fun _ h9 => h9) g68 dX9_audit_171 ?_
  refine lv_iadd hx hb dX9_audit_174 ?_
  refine k_top (v := 0) (by decide) ?_
  refine lv_aload_n hx hb dX9_audit_175 rfl (lv_at hl 4 rfl) ?_
  refine va_get (D := (dC, dI)) (ci := 9) (v := .int 0) (C := RX9) (T := TX9) (N := 69) hx hb hts hinX9 hown hK hP 0 rfl rfl 5 (by decide) (hts (.fieldLink RX9 120 "CensusDeskModel" "isHeld" "Z") (List.mem_of_getElem? (i := 10) rfl)) (fun _ h9 => h9) g5 dX9_audit_176 ?_
  refine lv_if_eq (tgt := 186) hx hb dX9_audit_179 (by decide) (fun c_9 => ?_) (fun c_9 => absurd c_9 (by decide))
  refine lv_iconst (v := 0) hx hb dX9_audit_186 (by decide) ?_
  refine lv_iadd hx hb dX9_audit_187 ?_
  refine k_top (v := 0) (by decide) ?_
  refine lv_icmp_ne (tgt := 195) hx hb dX9_audit_188 (by decide) (fun c_10 => absurd c_10 (by decide)) (fun c_10 => ?_)
  refine lv_iconst (v := 0) hx hb dX9_audit_191 (by decide) ?_
  refine lv_goto (tgt := 196) hx hb dX9_audit_192 (by decide) ?_
  refine lv_iadd hx hb dX9_audit_196 ?_
  refine k_top (v := 0) (by decide) ?_
  refine lv_istore (lv' := [(4, .int 0), (3, .int 0), (2, .int 0), (1, .int 0), (0, .ref h0)]) hx hb dX9_audit_197 hl (by decide) rfl (fun ls hl => ?_)
  refine lv_iload hx hb dX9_audit_199 (lv_at hl 0 rfl) ?_
  exact W.iret (v := 0) hx hb hr (fun t ht hW => ⟨⟨0, (), rfl, rfl, trivial⟩, hS.F ht⟩) hS.2.2 dX9_audit_201
