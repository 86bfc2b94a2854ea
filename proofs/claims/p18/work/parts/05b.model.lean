set_option maxHeartbeats 4000000 in
set_option maxRecDepth 100000 in
theorem c_X9_failLine (l : Launch) (dC : Nat → ClassId) (dI : Nat → Nat → Nat) (a : Nat → Nat) (κ : Nat → ClassId) (σ : Nat → Int32) (φ : Nat → Nat → Int32) (γ : Nat → Int32) (ψ : Nat → Nat → Int32) (kind : Int32) (cause : Int32) (hk : 1 ≤ (Int32.toInt kind) ∧ (Int32.toInt kind) ≤ 21) (hc : (Int32.toInt cause) < (Int32.toInt (σ 10))) (hf : 0 ≤ (Int32.toInt (σ 10)) ∧ (Int32.toInt (σ 10)) ≤ 1999999970) (hfc : ∀ i : Nat, i < 300 → (i : Int) < (Int32.toInt (σ 10)) → Int32.toInt ((φ 6) i) < i) : Met l yX9_failLine wsX9_failLine ({ frames := 5, cells := 0, slots := 0, locals := 116 } : Room) (va_Pc [.ref (a 0), .int kind, .int cause] (mPre dC dI a κ (σ, φ, γ, ψ))) (va_Qv (QV (fun S F => ∃ (s10 : Int32) (f6 : Nat → Int32), (up σ 10 s10) = S ∧ (up φ 6 f6) = F ∧ ((Int32.toInt (σ 10)) ≤ (Int32.toInt s10) ∧ (Int32.toInt s10) ≤ (Int32.toInt (σ 10)) + 3) ∧ (∀ i : Nat, i < 300 → (i : Int) < (Int32.toInt s10) → Int32.toInt (f6 i) < i))) (mB dC dI a κ) (mA a)) 0 0 (mA a) := by
  refine Met.ofW (cc := cX9_failLine) (maxL := 5) (ret := none) (by decide) rfl ?_
  intro p e s m args below meth c s₁ B hml hv
  obtain ⟨rfl, hP, hK, hI, hN⟩ := hv
  have hx := B.exec
  have hb := B.bytes
  have hr := B.returns
  have hts := atoms_spec (ws := wsX9_failLine) B.pre
  have hown : s.vm.findClass RX9 = some m.cls := findClass_of_methodNamed B.named
  have hlocks := B.notSynchronized
  have hS : va_S (mA a) s.heap s.heap [] := va_S.rf
  have hinX9 : ∀ w ∈ wsX90, w ∈ wsX9_failLine := fun _ h => List.mem_cons_of_mem _ (List.mem_append_right _ h)
  have hl := lv_entry ([.ref (a 0), .int kind, .int cause]) (n := 5) (Nat.le_of_ble_eq_true rfl)
  rw [lg_entry_eq]
  generalize (lg_sl ([.ref (a 0), .int kind, .int cause]) ++ List.replicate (5 - (lg_sl ([.ref (a 0), .int kind, .int cause])).length) Slot.unset).toArray = ls at hl ⊢
  have hl : lv_has ls 5 [(0, .ref (a 0)), (1, .int kind), (2, .int cause)] := hl
  refine lv_aload_n hx hb dX9_failLine_0 rfl (lv_at hl 0 rfl) ?_
  refine lv_iload_n hx hb dX9_failLine_1 rfl (lv_at hl 1 rfl) ?_
  refine lv_aload_n hx hb dX9_failLine_2 rfl (lv_at hl 0 rfl) ?_
  refine mg_0_18 (v := (σ 5)) hx hb hts hinX9 hown hK hP (hts (.fieldLink RX9 171 "CensusDeskModel" "lineAt" "I") (List.mem_of_getElem? (i := 1) rfl)) rfl dX9_failLine_3 ?_
  refine lv_iload_n hx hb dX9_failLine_6 rfl (lv_at hl 2 rfl) ?_
  refine m_calli (va_runV (As := [.int kind, .int (σ 5), .int cause]) (rest := []) ⟨hx, hb, hml, hown, hts⟩ (c_X9_fail l dC dI a κ σ φ γ ψ kind (σ 5) cause (show 1 ≤ (Int32.toInt kind) ∧ (Int32.toInt kind) ≤ 21 from (by omega)) (show (Int32.toInt cause) < (Int32.toInt (σ 10)) from (by omega)) (show 0 ≤ (Int32.toInt (σ 10)) ∧ (Int32.toInt (σ 10)) ≤ 2000000000 from (by omega)) (show ∀ i : Nat, i < 300 → (i : Int) < (Int32.toInt (σ 10)) → Int32.toInt ((φ 6) i) < i from (by with_reducible assumption))) (cwV 3 hts gX9_failLine_X9_fail rfl rfl rfl ⟨rfl, hd_X9_fail⟩ ⟨Nat.le_of_ble_eq_true rfl, Nat.le_of_ble_eq_true rfl⟩) (mPreV hP hK hI hN hS (va_recv hK hP (ci := 9) (q0 := 0) rfl rfl)) rfl rfl hl.1 rfl (lv_room (Nat.le_of_ble_eq_true rfl)) dX9_failLine_7 ⟨(by decide +kernel), (by decide +kernel)⟩) hS ?_
  clear hP hS; intro r_1 S_1 F_1 γ_1 ψ_1 H locs hw hP hS
  obtain ⟨s10_1, f6_1, rfl, rfl, (qr_1 : (Int32.toInt r_1) = (Int32.toInt (σ 10)) ∧ (Int32.toInt s10_1) = (Int32.toInt (σ 10)) + 1), (qc_1 : ∀ i : Nat, i < 300 → (i : Int) < (Int32.toInt s10_1) → Int32.toInt (f6_1 i) < i)⟩ := hw
  refine lv_istore_n (lv' := [(3, .int r_1), (0, .ref (a 0)), (1, .int kind), (2, .int cause)]) hx hb dX9_failLine_10 rfl hl (by decide) rfl ?_
  clear hl; intro ls hl
  refine lv_aload_n hx hb dX9_failLine_11 rfl (lv_at hl 1 rfl) ?_
  refine mg_0_44 (v := (γ_1 11)) hx hb hts hinX9 hown hK hP (hts (.fieldLink RX9 125 "CensusDeskModel" "way" "I") (List.mem_of_getElem? (i := 2) rfl)) rfl dX9_failLine_12 ?_
  refine m_calli (va_runS (As := [.int (γ_1 11)]) (rest := []) ⟨hx, hb, hml, hown, hts⟩ (c_X9_goesOn l dC dI a κ (up σ 10 s10_1) (up φ 6 f6_1) γ_1 ψ_1 (γ_1 11) ) (va_cwS 1 hts gX9_failLine_X9_goesOn rfl rfl rfl hd_X9_goesOn ⟨Nat.le_of_ble_eq_true rfl, Nat.le_of_ble_eq_true rfl⟩) (mPreS hP hK hI hN hS) rfl rfl hl.1 rfl (lv_room (Nat.le_of_ble_eq_true rfl)) dX9_failLine_15 ⟨(by decide +kernel), (by decide +kernel)⟩) hS ?_
  clear hP hS; intro r_2 S_2 F_2 γ_2 ψ_2 H locs hw hP hS
  obtain ⟨rfl, rfl, -⟩ := hw
  refine lv_if_eq (tgt := 44) hx hb dX9_failLine_18 (by decide) (fun c_3 => ?_) (fun c_3 => ?_)
  · have kc_3 := bI_eq rfl L_0 c_3
    refine lv_aload_n hx hb dX9_failLine_44 rfl (lv_at hl 1 rfl) ?_
    refine mg_0_44 (v := (γ_2 11)) hx hb hts hinX9 hown hK hP (hts (.fieldLink RX9 125 "CensusDeskModel" "way" "I") (List.mem_of_getElem? (i := 2) rfl)) rfl dX9_failLine_45 ?_
    refine lv_if_ne (tgt := 55) hx hb dX9_failLine_48 (by decide) (fun c_4 => ?_) (fun c_4 => ?_)
    · have kc_4 := bI_ne rfl L_0 c_4
      refine lv_iconst (v := 0) hx hb dX9_failLine_55 (by decide) ?_
      refine lv_istore (lv' := [(4, .int 0), (3, .int r_1), (0, .ref (a 0)), (1, .int kind), (2, .int cause)]) hx hb dX9_failLine_56 hl (by decide) rfl ?_
      clear hl; intro ls hl
      refine lv_aload_n hx hb dX9_failLine_58 rfl (lv_at hl 2 rfl) ?_
      refine lv_iconst (v := 1) hx hb dX9_failLine_59 (by decide) ?_
      refine mp_0_20 (v := 1) hx hb hts hinX9 hown hK hP hI hS (hts (.fieldLink RX9 177 "CensusDeskModel" "lineLost" "Z") (List.mem_of_getElem? (i := 3) rfl)) (by first | rfl | decide) (by first | rfl | decide) dX9_failLine_60 ?_
      clear hP hS; intro H locs hP hS
      refine lv_iload hx hb dX9_failLine_63 (lv_at hl 0 rfl) ?_
      refine lv_if_eq (tgt := 73) hx hb dX9_failLine_65 (by decide) (fun c_5 => ?_) (fun c_5 => absurd c_5 (by decide))
      exact W.vret hx hb hr (fun t ht hW => ⟨⟨((up σ 10 s10_1), (up φ 6 f6_1), (up γ_2 9 1), ψ_2), rfl, ⟨s10_1, f6_1, rfl, rfl, (show (Int32.toInt (σ 10)) ≤ (Int32.toInt s10_1) ∧ (Int32.toInt s10_1) ≤ (Int32.toInt (σ 10)) + 3 from (by omega)), (show ∀ i : Nat, i < 300 → (i : Int) < (Int32.toInt s10_1) → Int32.toInt (f6_1 i) < i from (by with_reducible assumption))⟩, (by show va_P _ _ _ _; rw [ht]; exact hP)⟩, hS.F ht⟩) hS.2.2 dX9_failLine_73
    · have kc_4 := bI_eq rfl L_0 c_4
      refine lv_iconst (v := 1) hx hb dX9_failLine_51 (by decide) ?_
      refine lv_goto (tgt := 56) hx hb dX9_failLine_52 (by decide) ?_
      refine lv_istore (lv' := [(4, .int 1), (3, .int r_1), (0, .ref (a 0)), (1, .int kind), (2, .int cause)]) hx hb dX9_failLine_56 hl (by decide) rfl ?_
      clear hl; intro ls hl
      refine lv_aload_n hx hb dX9_failLine_58 rfl (lv_at hl 2 rfl) ?_
      refine lv_iconst (v := 1) hx hb dX9_failLine_59 (by decide) ?_
      refine mp_0_20 (v := 1) hx hb hts hinX9 hown hK hP hI hS (hts (.fieldLink RX9 177 "CensusDeskModel" "lineLost" "Z") (List.mem_of_getElem? (i := 3) rfl)) (by first | rfl | decide) (by first | rfl | decide) dX9_failLine_60 ?_
      clear hP hS; intro H locs hP hS
      refine lv_iload hx hb dX9_failLine_63 (lv_at hl 0 rfl) ?_
      refine lv_if_eq (tgt := 73) hx hb dX9_failLine_65 (by decide) (fun c_6 => absurd c_6 (by decide)) (fun c_6 => ?_)
      refine lv_aload_n hx hb dX9_failLine_68 rfl (lv_at hl 2 rfl) ?_
      refine lv_iload_n hx hb dX9_failLine_69 rfl (lv_at hl 1 rfl) ?_
      refine m_callv (va_runV (As := [.int r_1]) (rest := []) ⟨hx, hb, hml, hown, hts⟩ (c_X9_throwLine l dC dI a κ (up σ 10 s10_1) (up φ 6 f6_1) (up γ_2 9 1) ψ_2 r_1 (show (Int32.toInt r_1) < (Int32.toInt s10_1) from (by omega)) (show 0 ≤ (Int32.toInt s10_1) ∧ (Int32.toInt s10_1) ≤ 1999999980 from (by omega)) (show ∀ i : Nat, i < 300 → (i : Int) < (Int32.toInt s10_1) → Int32.toInt (f6_1 i) < i from (by with_reducible assumption))) (cwV 1 hts gX9_failLine_X9_throwLine rfl rfl rfl ⟨rfl, hd_X9_throwLine⟩ ⟨Nat.le_of_ble_eq_true rfl, Nat.le_of_ble_eq_true rfl⟩) (mPreV hP hK hI hN hS (va_recv hK hP (ci := 9) (q0 := 0) rfl rfl)) rfl rfl hl.1 rfl (lv_room (Nat.le_of_ble_eq_true rfl)) dX9_failLine_70 ⟨(by decide +kernel), (by decide +kernel)⟩) hS ?_
      clear hP hS; intro S_7 F_7 γ_7 ψ_7 H locs hw hP hS
      obtain ⟨s10_7, f6_7, rfl, rfl, (qf_7 : (Int32.toInt s10_1) ≤ (Int32.toInt s10_7) ∧ (Int32.toInt s10_7) ≤ (Int32.toInt s10_1) + 2), (qc_7 : ∀ i : Nat, i < 300 → (i : Int) < (Int32.toInt s10_7) → Int32.toInt (f6_7 i) < i)⟩ := hw
      exact W.vret hx hb hr (fun t ht hW => ⟨⟨((up σ 10 s10_7), (up φ 6 f6_7), γ_7, ψ_7), rfl, ⟨s10_7, f6_7, rfl, rfl, (show (Int32.toInt (σ 10)) ≤ (Int32.toInt s10_7) ∧ (Int32.toInt s10_7) ≤ (Int32.toInt (σ 10)) + 3 from (by omega)), (show ∀ i : Nat, i < 300 → (i : Int) < (Int32.toInt s10_7) → Int32.toInt (f6_7 i) < i from (by with_reducible assumption))⟩, (by show va_P _ _ _ _; rw [ht]; exact hP)⟩, hS.F ht⟩) hS.2.2 dX9_failLine_73
  · have kc_3 := bI_ne rfl L_0 c_3
    refine lv_aload_n hx hb dX9_failLine_21 rfl (lv_at hl 1 rfl) ?_
    refine lv_aload_n hx hb dX9_failLine_22 rfl (lv_at hl 1 rfl) ?_
    refine mg_0_20 (v := (γ_2 9)) hx hb hts hinX9 hown hK hP (hts (.fieldLink RX9 177 "CensusDeskModel" "lineLost" "Z") (List.mem_of_getElem? (i := 3) rfl)) rfl dX9_failLine_23 ?_
    refine lv_if_ne (tgt := 35) hx hb dX9_failLine_26 (by decide) (fun c_8 => ?_) (fun c_8 => ?_)
    · have kc_8 := bI_ne rfl L_0 c_8
      refine lv_iconst (v := 1) hx hb dX9_failLine_35 (by decide) ?_
      refine lv_goto (tgt := 40) hx hb dX9_failLine_36 (by decide) ?_
      refine mp_0_20 (v := 1) hx hb hts hinX9 hown hK hP hI hS (hts (.fieldLink RX9 177 "CensusDeskModel" "lineLost" "Z") (List.mem_of_getElem? (i := 3) rfl)) (by first | rfl | decide) (by first | rfl | decide) dX9_failLine_40 ?_
      clear hP hS; intro H locs hP hS
      exact W.vret hx hb hr (fun t ht hW => ⟨⟨((up σ 10 s10_1), (up φ 6 f6_1), (up γ_2 9 1), ψ_2), rfl, ⟨s10_1, f6_1, rfl, rfl, (show (Int32.toInt (σ 10)) ≤ (Int32.toInt s10_1) ∧ (Int32.toInt s10_1) ≤ (Int32.toInt (σ 10)) + 3 from (by omega)), (show ∀ i : Nat, i < 300 → (i : Int) < (Int32.toInt s10_1) → Int32.toInt (f6_1 i) < i from (by with_reducible assumption))⟩, (by show va_P _ _ _ _; rw [ht]; exact hP)⟩, hS.F ht⟩) hS.2.2 dX9_failLine_43
    · have kc_8 := bI_eq rfl L_0 c_8
      refine lv_iload_n hx hb dX9_failLine_29 rfl (lv_at hl 2 rfl) ?_
      refine lv_bipush (v := 9) hx hb dX9_failLine_30 (by decide) ?_
      refine lv_icmp_ne (tgt := 39) hx hb dX9_failLine_32 (by decide) (fun c_9 => ?_) (fun c_9 => ?_)
      · have kc_9 := bI_ne rfl L_9 c_9
        refine lv_iconst (v := 0) hx hb dX9_failLine_39 (by decide) ?_
        refine mp_0_20 (v := 0) hx hb hts hinX9 hown hK hP hI hS (hts (.fieldLink RX9 177 "CensusDeskModel" "lineLost" "Z") (List.mem_of_getElem? (i := 3) rfl)) (by first | rfl | decide) (by first | rfl | decide) dX9_failLine_40 ?_
        clear hP hS; intro H locs hP hS
        exact W.vret hx hb hr (fun t ht hW => ⟨⟨((up σ 10 s10_1), (up φ 6 f6_1), (up γ_2 9 0), ψ_2), rfl, ⟨s10_1, f6_1, rfl, rfl, (show (Int32.toInt (σ 10)) ≤ (Int32.toInt s10_1) ∧ (Int32.toInt s10_1) ≤ (Int32.toInt (σ 10)) + 3 from (by omega)), (show ∀ i : Nat, i < 300 → (i : Int) < (Int32.toInt s10_1) → Int32.toInt (f6_1 i) < i from (by with_reducible assumption))⟩, (by show va_P _ _ _ _; rw [ht]; exact hP)⟩, hS.F ht⟩) hS.2.2 dX9_failLine_43
      · have kc_9 := bI_eq rfl L_9 c_9
        refine lv_iconst (v := 1) hx hb dX9_failLine_35 (by decide) ?_
        refine lv_goto (tgt := 40) hx hb dX9_failLine_36 (by decide) ?_
        refine mp_0_20 (v := 1) hx hb hts hinX9 hown hK hP hI hS (hts (.fieldLink RX9 177 "CensusDeskModel" "lineLost" "Z") (List.mem_of_getElem? (i := 3) rfl)) (by first | rfl | decide) (by first | rfl | decide) dX9_failLine_40 ?_
        clear hP hS; intro H locs hP hS
        exact W.vret hx hb hr (fun t ht hW => ⟨⟨((up σ 10 s10_1), (up φ 6 f6_1), (up γ_2 9 1), ψ_2), rfl, ⟨s10_1, f6_1, rfl, rfl, (show (Int32.toInt (σ 10)) ≤ (Int32.toInt s10_1) ∧ (Int32.toInt s10_1) ≤ (Int32.toInt (σ 10)) + 3 from (by omega)), (show ∀ i : Nat, i < 300 → (i : Int) < (Int32.toInt s10_1) → Int32.toInt (f6_1 i) < i from (by with_reducible assumption))⟩, (by show va_P _ _ _ _; rw [ht]; exact hP)⟩, hS.F ht⟩) hS.2.2 dX9_failLine_43
set_option maxHeartbeats 4000000 in
set_option maxRecDepth 100000 in
theorem c_X9_failField (l : Launch) (dC : Nat → ClassId) (dI : Nat → Nat → Nat) (a : Nat → Nat) (κ : Nat → ClassId) (σ : Nat → Int32) (φ : Nat → Nat → Int32) (γ : Nat → Int32) (ψ : Nat → Nat → Int32) (kind : Int32) (place : Int32) (cause : Int32) (hk : 1 ≤ (Int32.toInt kind) ∧ (Int32.toInt kind) ≤ 21) (hc : (Int32.toInt cause) < (Int32.toInt (σ 10))) (hf : 0 ≤ (Int32.toInt (σ 10)) ∧ (Int32.toInt (σ 10)) ≤ 1999999960) (hfc : ∀ i : Nat, i < 300 → (i : Int) < (Int32.toInt (σ 10)) → Int32.toInt ((φ 6) i) < i) : Met l yX9_failField wsX9_failField ({ frames := 6, cells := 0, slots := 0, locals := 140 } : Room) (va_Pc [.ref (a 0), .int kind, .int place, .int cause] (mPre dC dI a κ (σ, φ, γ, ψ))) (va_Qi (QI (fun r S F => ∃ (s10 : Int32) (f6 : Nat → Int32), (up σ 10 s10) = S ∧ (up φ 6 f6) = F ∧ ((Int32.toInt (σ 10)) ≤ (Int32.toInt s10) ∧ (Int32.toInt s10) ≤ (Int32.toInt (σ 10)) + 4) ∧ (∀ i : Nat, i < 300 → (i : Int) < (Int32.toInt s10) → Int32.toInt (f6 i) < i))) (mB dC dI a κ) (mA a)) 0 0 (mA a) := by
  refine Met.ofW (cc := cX9_failField) (maxL := 6) (ret := (some .int)) (by decide) rfl ?_
  intro p e s m args below meth c s₁ B hml hv
  obtain ⟨rfl, hP, hK, hI, hN⟩ := hv
  have hx := B.exec
  have hb := B.bytes
  have hr := B.returns
  have hts := atoms_spec (ws := wsX9_failField) B.pre
  have hown : s.vm.findClass RX9 = some m.cls := findClass_of_methodNamed B.named
  have hlocks := B.notSynchronized
  have hS : va_S (mA a) s.heap s.heap [] := va_S.rf
  have hinX9 : ∀ w ∈ wsX90, w ∈ wsX9_failField := fun _ h => List.mem_cons_of_mem _ (List.mem_append_right _ h)
  have hl := lv_entry ([.ref (a 0), .int kind, .int place, .int cause]) (n := 6) (Nat.le_of_ble_eq_true rfl)
  rw [lg_entry_eq]
  generalize (lg_sl ([.ref (a 0), .int kind, .int place, .int cause]) ++ List.replicate (6 - (lg_sl ([.ref (a 0), .int kind, .int place, .int cause])).length) Slot.unset).toArray = ls at hl ⊢
  have hl : lv_has ls 6 [(0, .ref (a 0)), (1, .int kind), (2, .int place), (3, .int cause)] := hl
  refine lv_aload_n hx hb dX9_failField_0 rfl (lv_at hl 0 rfl) ?_
  refine lv_iload_n hx hb dX9_failField_1 rfl (lv_at hl 1 rfl) ?_
  refine lv_iload_n hx hb dX9_failField_2 rfl (lv_at hl 2 rfl) ?_
  refine lv_iload_n hx hb dX9_failField_3 rfl (lv_at hl 3 rfl) ?_
  refine m_calli (va_runV (As := [.int kind, .int place, .int cause]) (rest := []) ⟨hx, hb, hml, hown, hts⟩ (c_X9_fail l dC dI a κ σ φ γ ψ kind place cause (show 1 ≤ (Int32.toInt kind) ∧ (Int32.toInt kind) ≤ 21 from (by omega)) (show (Int32.toInt cause) < (Int32.toInt (σ 10)) from (by omega)) (show 0 ≤ (Int32.toInt (σ 10)) ∧ (Int32.toInt (σ 10)) ≤ 2000000000 from (by omega)) (show ∀ i : Nat, i < 300 → (i : Int) < (Int32.toInt (σ 10)) → Int32.toInt ((φ 6) i) < i from (by with_reducible assumption))) (cwV 3 hts gX9_failField_X9_fail rfl rfl rfl ⟨rfl, hd_X9_fail⟩ ⟨Nat.le_of_ble_eq_true rfl, Nat.le_of_ble_eq_true rfl⟩) (mPreV hP hK hI hN hS (va_recv hK hP (ci := 9) (q0 := 0) rfl rfl)) rfl rfl hl.1 rfl (lv_room (Nat.le_of_ble_eq_true rfl)) dX9_failField_4 ⟨(by decide +kernel), (by decide +kernel)⟩) hS ?_
  clear hP hS; intro r_1 S_1 F_1 γ_1 ψ_1 H locs hw hP hS
  obtain ⟨s10_1, f6_1, rfl, rfl, (qr_1 : (Int32.toInt r_1) = (Int32.toInt (σ 10)) ∧ (Int32.toInt s10_1) = (Int32.toInt (σ 10)) + 1), (qc_1 : ∀ i : Nat, i < 300 → (i : Int) < (Int32.toInt s10_1) → Int32.toInt (f6_1 i) < i)⟩ := hw
  refine lv_istore (lv' := [(4, .int r_1), (0, .ref (a 0)), (1, .int kind), (2, .int place), (3, .int cause)]) hx hb dX9_failField_7 hl (by decide) rfl ?_
  clear hl; intro ls hl
  refine lv_aload_n hx hb dX9_failField_9 rfl (lv_at hl 1 rfl) ?_
  refine mg_0_44 (v := (γ_1 11)) hx hb hts hinX9 hown hK hP (hts (.fieldLink RX9 125 "CensusDeskModel" "way" "I") (List.mem_of_getElem? (i := 1) rfl)) rfl dX9_failField_10 ?_
  refine lv_istore (lv' := [(5, .int (γ_1 11)), (4, .int r_1), (0, .ref (a 0)), (1, .int kind), (2, .int place), (3, .int cause)]) hx hb dX9_failField_13 hl (by decide) rfl ?_
  clear hl; intro ls hl
  refine lv_iload hx hb dX9_failField_15 (lv_at hl 0 rfl) ?_
  refine m_calli (va_runS (As := [.int (γ_1 11)]) (rest := []) ⟨hx, hb, hml, hown, hts⟩ (c_X9_goesOn l dC dI a κ (up σ 10 s10_1) (up φ 6 f6_1) γ_1 ψ_1 (γ_1 11) ) (va_cwS 1 hts gX9_failField_X9_goesOn rfl rfl rfl hd_X9_goesOn ⟨Nat.le_of_ble_eq_true rfl, Nat.le_of_ble_eq_true rfl⟩) (mPreS hP hK hI hN hS) rfl rfl hl.1 rfl (lv_room (Nat.le_of_ble_eq_true rfl)) dX9_failField_17 ⟨(by decide +kernel), (by decide +kernel)⟩) hS ?_
  clear hP hS; intro r_2 S_2 F_2 γ_2 ψ_2 H locs hw hP hS
  obtain ⟨rfl, rfl, -⟩ := hw
  refine lv_if_ne (tgt := 41) hx hb dX9_failField_20 (by decide) (fun c_3 => ?_) (fun c_3 => ?_)
  · have kc_3 := bI_ne rfl L_0 c_3
    refine lv_iload hx hb dX9_failField_41 (lv_at hl 0 rfl) ?_
    exact W.iret (v := (γ_1 11)) hx hb hr (fun t ht hW => ⟨⟨(γ_1 11), ((up σ 10 s10_1), (up φ 6 f6_1), γ_2, ψ_2), rfl, ⟨s10_1, f6_1, rfl, rfl, (show (Int32.toInt (σ 10)) ≤ (Int32.toInt s10_1) ∧ (Int32.toInt s10_1) ≤ (Int32.toInt (σ 10)) + 4 from (by omega)), (show ∀ i : Nat, i < 300 → (i : Int) < (Int32.toInt s10_1) → Int32.toInt (f6_1 i) < i from (by with_reducible assumption))⟩, (by show va_P _ _ _ _; rw [ht]; exact hP)⟩, hS.F ht⟩) hS.2.2 dX9_failField_43
  · have kc_3 := bI_eq rfl L_0 c_3
    refine lv_aload_n hx hb dX9_failField_23 rfl (lv_at hl 2 rfl) ?_
    refine lv_iconst (v := 1) hx hb dX9_failField_24 (by decide) ?_
    refine mp_0_21 (v := 1) hx hb hts hinX9 hown hK hP hI hS (hts (.fieldLink RX9 184 "CensusDeskModel" "fieldLost" "Z") (List.mem_of_getElem? (i := 2) rfl)) (by first | rfl | decide) (by first | rfl | decide) dX9_failField_25 ?_
    clear hP hS; intro H locs hP hS
    refine lv_iload hx hb dX9_failField_28 (lv_at hl 0 rfl) ?_
    refine lv_if_ne (tgt := 41) hx hb dX9_failField_30 (by decide) (fun c_4 => ?_) (fun c_4 => ?_)
    · have kc_4 := bI_ne rfl L_0 c_4
      refine lv_iload hx hb dX9_failField_41 (lv_at hl 0 rfl) ?_
      exact W.iret (v := (γ_1 11)) hx hb hr (fun t ht hW => ⟨⟨(γ_1 11), ((up σ 10 s10_1), (up φ 6 f6_1), (up γ_2 10 1), ψ_2), rfl, ⟨s10_1, f6_1, rfl, rfl, (show (Int32.toInt (σ 10)) ≤ (Int32.toInt s10_1) ∧ (Int32.toInt s10_1) ≤ (Int32.toInt (σ 10)) + 4 from (by omega)), (show ∀ i : Nat, i < 300 → (i : Int) < (Int32.toInt s10_1) → Int32.toInt (f6_1 i) < i from (by with_reducible assumption))⟩, (by show va_P _ _ _ _; rw [ht]; exact hP)⟩, hS.F ht⟩) hS.2.2 dX9_failField_43
    · have kc_4 := bI_eq rfl L_0 c_4
      refine lv_aload_n hx hb dX9_failField_33 rfl (lv_at hl 2 rfl) ?_
      refine lv_bipush (v := 13) hx hb dX9_failField_34 (by decide) ?_
      refine lv_iload hx hb dX9_failField_36 (lv_at hl 1 rfl) ?_
      refine m_callv (va_runV (As := [.int 13, .int r_1]) (rest := []) ⟨hx, hb, hml, hown, hts⟩ (c_X9_failLine l dC dI a κ (up σ 10 s10_1) (up φ 6 f6_1) (up γ_2 10 1) ψ_2 13 r_1 (show 1 ≤ (Int32.toInt 13) ∧ (Int32.toInt 13) ≤ 21 from (by have := L_13; omega)) (show (Int32.toInt r_1) < (Int32.toInt s10_1) from (by omega)) (show 0 ≤ (Int32.toInt s10_1) ∧ (Int32.toInt s10_1) ≤ 1999999970 from (by omega)) (show ∀ i : Nat, i < 300 → (i : Int) < (Int32.toInt s10_1) → Int32.toInt (f6_1 i) < i from (by with_reducible assumption))) (cwV 2 hts gX9_failField_X9_failLine rfl rfl rfl ⟨rfl, hd_X9_failLine⟩ ⟨Nat.le_of_ble_eq_true rfl, Nat.le_of_ble_eq_true rfl⟩) (mPreV hP hK hI hN hS (va_recv hK hP (ci := 9) (q0 := 0) rfl rfl)) rfl rfl hl.1 rfl (lv_room (Nat.le_of_ble_eq_true rfl)) dX9_failField_38 ⟨(by decide +kernel), (by decide +kernel)⟩) hS ?_
      clear hP hS; intro S_5 F_5 γ_5 ψ_5 H locs hw hP hS
      obtain ⟨s10_5, f6_5, rfl, rfl, (qf_5 : (Int32.toInt s10_1) ≤ (Int32.toInt s10_5) ∧ (Int32.toInt s10_5) ≤ (Int32.toInt s10_1) + 3), (qc_5 : ∀ i : Nat, i < 300 → (i : Int) < (Int32.toInt s10_5) → Int32.toInt (f6_5 i) < i)⟩ := hw
      have hL13_5 := L_13
      refine lv_iload hx hb dX9_failField_41 (lv_at hl 0 rfl) ?_
      exact W.iret (v := (γ_1 11)) hx hb hr (fun t ht hW => ⟨⟨(γ_1 11), ((up σ 10 s10_5), (up φ 6 f6_5), γ_5, ψ_5), rfl, ⟨s10_5, f6_5, rfl, rfl, (show (Int32.toInt (σ 10)) ≤ (Int32.toInt s10_5) ∧ (Int32.toInt s10_5) ≤ (Int32.toInt (σ 10)) + 4 from (by omega)), (show ∀ i : Nat, i < 300 → (i : Int) < (Int32.toInt s10_5) → Int32.toInt (f6_5 i) < i from (by with_reducible assumption))⟩, (by show va_P _ _ _ _; rw [ht]; exact hP)⟩, hS.F ht⟩) hS.2.2 dX9_failField_43
set_option maxHeartbeats 4000000 in
set_option maxRecDepth 100000 in
theorem c_X9_at (l : Launch) (dC : Nat → ClassId) (dI : Nat → Nat → Nat) (a : Nat → Nat) (κ : Nat → ClassId) (σ : Nat → Int32) (φ : Nat → Nat → Int32) (γ : Nat → Int32) (ψ : Nat → Nat → Int32) (k : Int32) (hk : 0 ≤ (Int32.toInt k) ∧ (Int32.toInt k) < 4000) : Met l yX9_at wsX9_at ({ frames := 0, cells := 0, slots := 0, locals := 0 } : Room) (va_Pc [.ref (a 0), .int k] (mPre dC dI a κ (σ, φ, γ, ψ))) (va_Qi (QI (fun r S F => σ = S ∧ φ = F ∧ ((Int32.toInt r) = Int32.toInt (mat (φ 0) k)) ∧ (0 ≤ (Int32.toInt r) ∧ (Int32.toInt r) ≤ 255))) (mB dC dI a κ) (mA a)) 0 0 (mA a) := by
  refine Met.ofW (cc := cX9_at) (maxL := 2) (ret := (some .int)) (by decide) rfl ?_
  intro p e s m args below meth c s₁ B hml hv
  obtain ⟨rfl, hP, hK, hI, hN⟩ := hv
  have hx := B.exec
  have hb := B.bytes
  have hr := B.returns
  have hts := atoms_spec (ws := wsX9_at) B.pre
  have hown : s.vm.findClass RX9 = some m.cls := findClass_of_methodNamed B.named
  have hlocks := B.notSynchronized
  have hS : va_S (mA a) s.heap s.heap [] := va_S.rf
  have hinX9 : ∀ w ∈ wsX90, w ∈ wsX9_at := fun _ h => List.mem_cons_of_mem _ (List.mem_append_right _ h)
  have hl := lv_entry ([.ref (a 0), .int k]) (n := 2) (Nat.le_of_ble_eq_true rfl)
  rw [lg_entry_eq]
  generalize (lg_sl ([.ref (a 0), .int k]) ++ List.replicate (2 - (lg_sl ([.ref (a 0), .int k])).length) Slot.unset).toArray = ls at hl ⊢
  have hl : lv_has ls 2 [(0, .ref (a 0)), (1, .int k)] := hl
  refine lv_aload_n hx hb dX9_at_0 rfl (lv_at hl 0 rfl) ?_
  refine mg_0_0 hx hb hts hinX9 hown hK hP (hts (.fieldLink RX9 9 "CensusDeskModel" "tape" "[B") (List.mem_of_getElem? (i := 1) rfl)) dX9_at_1 ?_
  refine lv_iload_n hx hb dX9_at_4 rfl (lv_at hl 1 rfl) ?_
  refine ml_1 (f := (φ 0)) hx hb hK hP (i := k) (vin rfl (by omega)) rfl dX9_at_5 ?_
  refine lv_topi (fun z_1 ez_1 => ?_)
  have tz_1 : (Int32.toInt z_1) = Int32.toInt ((φ 0) (Int32.toNatClampNeg k)) := congrArg Int32.toInt ez_1
  refine lv_sipush (v := 255) hx hb dX9_at_6 (by decide) ?_
  refine lv_iand hx hb dX9_at_9 ?_
  refine lv_topi (fun z_2 ez_2 => ?_)
  exact W.iret (v := z_2) hx hb hr (fun t ht hW => ⟨⟨z_2, (σ, φ, γ, ψ), rfl, ⟨rfl, rfl, (by rw [ez_2, ez_1]; rfl), (by rw [ez_2]; exact and255 _)⟩, (by show va_P _ _ _ _; rw [ht]; exact hP)⟩, hS.F ht⟩) hS.2.2 dX9_at_10
