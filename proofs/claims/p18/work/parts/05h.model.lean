set_option maxHeartbeats 4000000 in
set_option maxRecDepth 100000 in
theorem c_X9_readSums (l : Launch) (dC : Nat → ClassId) (dI : Nat → Nat → Nat) (a : Nat → Nat) (κ : Nat → ClassId) (σ : Nat → Int32) (φ : Nat → Nat → Int32) (γ : Nat → Int32) (ψ : Nat → Nat → Int32)  (hl : 0 ≤ (Int32.toInt (σ 5)) ∧ (Int32.toInt (σ 5)) ≤ (Int32.toInt (σ 6)) ∧ (Int32.toInt (σ 6)) ≤ 4000) (hf : 0 ≤ (Int32.toInt (σ 10)) ∧ (Int32.toInt (σ 10)) ≤ 1000000000) (hfc : ∀ i : Nat, i < 300 → (i : Int) < (Int32.toInt (σ 10)) → Int32.toInt ((φ 6) i) < i) : Met l yX9_readSums wsX9_readSums ({ frames := 9, cells := 0, slots := 0, locals := 219 } : Room) (va_Pc [.ref (a 0)] (mPre dC dI a κ (σ, φ, γ, ψ))) (va_Qv (QV (fun S F => ∃ (s11 : Int32) (s10 : Int32) (f6 : Nat → Int32) (s12 : Int32), (up (up (up σ 11 s11) 10 s10) 12 s12) = S ∧ (up φ 6 f6) = F ∧ ((Int32.toInt (σ 10)) ≤ (Int32.toInt s10) ∧ (Int32.toInt s10) ≤ (Int32.toInt (σ 10)) + 21000) ∧ (∀ i : Nat, i < 300 → (i : Int) < (Int32.toInt s10) → Int32.toInt (f6 i) < i))) (mB dC dI a κ) (mA a)) 0 0 (mA a) := by
  refine Met.ofW (cc := cX9_readSums) (maxL := 1) (ret := none) (by decide) rfl ?_
  intro p e s m args below meth c s₁ B hml hv
  obtain ⟨rfl, hP, hK, hI, hN⟩ := hv
  have hx := B.exec
  have hb := B.bytes
  have hr := B.returns
  have hts := atoms_spec (ws := wsX9_readSums) B.pre
  have hown : s.vm.findClass RX9 = some m.cls := findClass_of_methodNamed B.named
  have hlocks := B.notSynchronized
  have hS : va_S (mA a) s.heap s.heap [] := va_S.rf
  have hinX9 : ∀ w ∈ wsX90, w ∈ wsX9_readSums := fun _ h => List.mem_cons_of_mem _ (List.mem_append_right _ h)
  have hl := lv_entry ([.ref (a 0)]) (n := 1) (Nat.le_of_ble_eq_true rfl)
  rw [lg_entry_eq]
  generalize (lg_sl ([.ref (a 0)]) ++ List.replicate (1 - (lg_sl ([.ref (a 0)])).length) Slot.unset).toArray = ls at hl ⊢
  have hl : lv_has ls 1 [(0, .ref (a 0))] := hl
  refine lv_aload_n hx hb dX9_readSums_0 rfl (lv_at hl 0 rfl) ?_
  refine lv_bipush (v := 83) hx hb dX9_readSums_1 (by decide) ?_
  refine lv_iconst (v := 2) hx hb dX9_readSums_3 (by decide) ?_
  refine m_calli (va_runV (As := [.int 83, .int 2]) (rest := []) ⟨hx, hb, hml, hown, hts⟩ (c_X9_isLine l dC dI a κ σ φ γ ψ 83 2 (show 0 ≤ (Int32.toInt (σ 5)) ∧ (Int32.toInt (σ 5)) ≤ (Int32.toInt (σ 6)) ∧ (Int32.toInt (σ 6)) ≤ 4000 from (by omega)) (show 0 ≤ (Int32.toInt (σ 10)) ∧ (Int32.toInt (σ 10)) ≤ 1500000000 from (by omega)) (show ∀ i : Nat, i < 300 → (i : Int) < (Int32.toInt (σ 10)) → Int32.toInt ((φ 6) i) < i from (by with_reducible assumption))) (cwV 2 hts gX9_readSums_X9_isLine rfl rfl rfl ⟨rfl, hd_X9_isLine⟩ ⟨Nat.le_of_ble_eq_true rfl, Nat.le_of_ble_eq_true rfl⟩) (mPreV hP hK hI hN hS (va_recv hK hP (ci := 9) (q0 := 0) rfl rfl)) rfl rfl hl.1 rfl (lv_room (Nat.le_of_ble_eq_true rfl)) dX9_readSums_4 ⟨(by decide +kernel), (by decide +kernel)⟩) hS ?_
  clear hP hS; intro r_1 S_1 F_1 γ_1 ψ_1 H locs hw hP hS
  obtain ⟨s10_1, f6_1, rfl, rfl, (qf_1 : (Int32.toInt (σ 10)) ≤ (Int32.toInt s10_1) ∧ (Int32.toInt s10_1) ≤ (Int32.toInt (σ 10)) + 3), (qc_1 : ∀ i : Nat, i < 300 → (i : Int) < (Int32.toInt s10_1) → Int32.toInt (f6_1 i) < i), (qi_1 : (Int32.toInt r_1) = 0 ∨ (((Int32.toInt 83) = 72 ∨ (Int32.toInt 83) = 80 ∨ (Int32.toInt 83) = 83) ∧ ((Int32.toInt 83) ≠ 80 ∨ (Int32.toInt (σ 3)) ≠ 0)))⟩ := hw
  have hL2_1 := L_2
  have hL83_1 := L_83
  refine lv_if_ne (tgt := 11) hx hb dX9_readSums_7 (by decide) (fun c_2 => ?_) (fun c_2 => ?_)
  · have kc_2 := bI_ne rfl L_0 c_2
    refine lv_aload_n hx hb dX9_readSums_11 rfl (lv_at hl 0 rfl) ?_
    refine lv_iconst (v := 1) hx hb dX9_readSums_12 (by decide) ?_
    refine lv_bipush (v := 99) hx hb dX9_readSums_13 (by decide) ?_
    refine m_callv (va_runV (As := [.int 1, .int 99]) (rest := []) ⟨hx, hb, hml, hown, hts⟩ (c_X9_readNumber l dC dI a κ (up σ 10 s10_1) (up φ 6 f6_1) γ_1 ψ_1 1 99 (show 0 ≤ (Int32.toInt (σ 5)) ∧ (Int32.toInt (σ 5)) ≤ (Int32.toInt (σ 6)) ∧ (Int32.toInt (σ 6)) ≤ 4000 from (by omega)) (show 0 ≤ (Int32.toInt s10_1) ∧ (Int32.toInt s10_1) ≤ 1500000000 from (by omega)) (show ∀ i : Nat, i < 300 → (i : Int) < (Int32.toInt s10_1) → Int32.toInt (f6_1 i) < i from (by with_reducible assumption))) (cwV 2 hts gX9_readSums_X9_readNumber rfl rfl rfl ⟨rfl, hd_X9_readNumber⟩ ⟨Nat.le_of_ble_eq_true rfl, Nat.le_of_ble_eq_true rfl⟩) (mPreV hP hK hI hN hS (va_recv hK hP (ci := 9) (q0 := 0) rfl rfl)) rfl rfl hl.1 rfl (lv_room (Nat.le_of_ble_eq_true rfl)) dX9_readSums_15 ⟨(by decide +kernel), (by decide +kernel)⟩) hS ?_
    clear hP hS; intro S_3 F_3 γ_3 ψ_3 H locs hw hP hS
    obtain ⟨s11_3, s10_3, f6_3, s12_3, rfl, rfl, (qf_3 : (Int32.toInt s10_1) ≤ (Int32.toInt s10_3) ∧ (Int32.toInt s10_3) ≤ (Int32.toInt s10_1) + 20004), (qc_3 : ∀ i : Nat, i < 300 → (i : Int) < (Int32.toInt s10_3) → Int32.toInt (f6_3 i) < i)⟩ := hw
    have hL1_3 := L_1
    have hL99_3 := L_99
    refine lv_aload_n hx hb dX9_readSums_18 rfl (lv_at hl 0 rfl) ?_
    refine mg_0_20 (v := (γ_3 9)) hx hb hts hinX9 hown hK hP (hts (.fieldLink RX9 177 "CensusDeskModel" "lineLost" "Z") (List.mem_of_getElem? (i := 1) rfl)) rfl dX9_readSums_19 ?_
    refine lv_if_ne (tgt := 54) hx hb dX9_readSums_22 (by decide) (fun c_4 => ?_) (fun c_4 => ?_)
    · have kc_4 := bI_ne rfl L_0 c_4
      exact W.vret hx hb hr (fun t ht hW => ⟨⟨((up (up (up σ 11 s11_3) 10 s10_3) 12 s12_3), (up φ 6 f6_3), γ_3, ψ_3), rfl, ⟨s11_3, s10_3, f6_3, s12_3, rfl, rfl, (show (Int32.toInt (σ 10)) ≤ (Int32.toInt s10_3) ∧ (Int32.toInt s10_3) ≤ (Int32.toInt (σ 10)) + 21000 from (by omega)), (show ∀ i : Nat, i < 300 → (i : Int) < (Int32.toInt s10_3) → Int32.toInt (f6_3 i) < i from (by with_reducible assumption))⟩, (by show va_P _ _ _ _; rw [ht]; exact hP)⟩, hS.F ht⟩) hS.2.2 dX9_readSums_54
    · have kc_4 := bI_eq rfl L_0 c_4
      refine lv_aload_n hx hb dX9_readSums_25 rfl (lv_at hl 0 rfl) ?_
      refine mg_0_51 (v := s12_3) hx hb hts hinX9 hown hK hP (hts (.fieldLink RX9 212 "CensusDeskModel" "value" "I") (List.mem_of_getElem? (i := 2) rfl)) rfl dX9_readSums_26 ?_
      refine lv_if_lt (tgt := 54) hx hb dX9_readSums_29 (by decide) (fun c_5 => ?_) (fun c_5 => ?_)
      · have kc_5 := bI_lt rfl L_0 c_5
        exact W.vret hx hb hr (fun t ht hW => ⟨⟨((up (up (up σ 11 s11_3) 10 s10_3) 12 s12_3), (up φ 6 f6_3), γ_3, ψ_3), rfl, ⟨s11_3, s10_3, f6_3, s12_3, rfl, rfl, (show (Int32.toInt (σ 10)) ≤ (Int32.toInt s10_3) ∧ (Int32.toInt s10_3) ≤ (Int32.toInt (σ 10)) + 21000 from (by omega)), (show ∀ i : Nat, i < 300 → (i : Int) < (Int32.toInt s10_3) → Int32.toInt (f6_3 i) < i from (by with_reducible assumption))⟩, (by show va_P _ _ _ _; rw [ht]; exact hP)⟩, hS.F ht⟩) hS.2.2 dX9_readSums_54
      · have kc_5 := bI_nlt rfl L_0 c_5
        refine lv_aload_n hx hb dX9_readSums_32 rfl (lv_at hl 0 rfl) ?_
        refine mg_0_51 (v := s12_3) hx hb hts hinX9 hown hK hP (hts (.fieldLink RX9 212 "CensusDeskModel" "value" "I") (List.mem_of_getElem? (i := 2) rfl)) rfl dX9_readSums_33 ?_
        refine lv_aload_n hx hb dX9_readSums_36 rfl (lv_at hl 0 rfl) ?_
        refine mg_0_26 (v := (σ 7)) hx hb hts hinX9 hown hK hP (hts (.fieldLink RX9 234 "CensusDeskModel" "houses" "I") (List.mem_of_getElem? (i := 3) rfl)) rfl dX9_readSums_37 ?_
        refine lv_icmp_eq (tgt := 54) hx hb dX9_readSums_40 (by decide) (fun c_6 => ?_) (fun c_6 => ?_)
        · have kc_6 := bI_eq rfl rfl c_6
          exact W.vret hx hb hr (fun t ht hW => ⟨⟨((up (up (up σ 11 s11_3) 10 s10_3) 12 s12_3), (up φ 6 f6_3), γ_3, ψ_3), rfl, ⟨s11_3, s10_3, f6_3, s12_3, rfl, rfl, (show (Int32.toInt (σ 10)) ≤ (Int32.toInt s10_3) ∧ (Int32.toInt s10_3) ≤ (Int32.toInt (σ 10)) + 21000 from (by omega)), (show ∀ i : Nat, i < 300 → (i : Int) < (Int32.toInt s10_3) → Int32.toInt (f6_3 i) < i from (by with_reducible assumption))⟩, (by show va_P _ _ _ _; rw [ht]; exact hP)⟩, hS.F ht⟩) hS.2.2 dX9_readSums_54
        · have kc_6 := bI_ne rfl rfl c_6
          refine lv_aload_n hx hb dX9_readSums_43 rfl (lv_at hl 0 rfl) ?_
          refine lv_bipush (v := 20) hx hb dX9_readSums_44 (by decide) ?_
          refine lv_aload_n hx hb dX9_readSums_46 rfl (lv_at hl 0 rfl) ?_
          refine mg_0_18 (v := (σ 5)) hx hb hts hinX9 hown hK hP (hts (.fieldLink RX9 171 "CensusDeskModel" "lineAt" "I") (List.mem_of_getElem? (i := 4) rfl)) rfl dX9_readSums_47 ?_
          refine lv_iconst (v := (-1)) hx hb dX9_readSums_50 (by decide) ?_
          refine m_callv (va_runV (As := [.int 20, .int (σ 5), .int (-1)]) (rest := []) ⟨hx, hb, hml, hown, hts⟩ (c_X9_failSheet l dC dI a κ (up (up (up (up σ 10 s10_1) 11 s11_3) 10 s10_3) 12 s12_3) (up (up φ 6 f6_1) 6 f6_3) γ_3 ψ_3 20 (σ 5) (-1) (show 1 ≤ (Int32.toInt 20) ∧ (Int32.toInt 20) ≤ 21 from (by have := L_20; omega)) (show (Int32.toInt (-1)) < (Int32.toInt s10_3) from (by have := L_m1; omega)) (show 0 ≤ (Int32.toInt s10_3) ∧ (Int32.toInt s10_3) ≤ 2000000000 from (by omega)) (show ∀ i : Nat, i < 300 → (i : Int) < (Int32.toInt s10_3) → Int32.toInt (f6_3 i) < i from (by with_reducible assumption))) (cwV 3 hts gX9_readSums_X9_failSheet rfl rfl rfl ⟨rfl, hd_X9_failSheet⟩ ⟨Nat.le_of_ble_eq_true rfl, Nat.le_of_ble_eq_true rfl⟩) (mPreV hP hK hI hN hS (va_recv hK hP (ci := 9) (q0 := 0) rfl rfl)) rfl rfl hl.1 rfl (lv_room (Nat.le_of_ble_eq_true rfl)) dX9_readSums_51 ⟨(by decide +kernel), (by decide +kernel)⟩) hS ?_
          clear hP hS; intro S_7 F_7 γ_7 ψ_7 H locs hw hP hS
          obtain ⟨s10_7, f6_7, rfl, rfl, (qf_7 : (Int32.toInt s10_3) ≤ (Int32.toInt s10_7) ∧ (Int32.toInt s10_7) ≤ (Int32.toInt s10_3) + 1), (qc_7 : ∀ i : Nat, i < 300 → (i : Int) < (Int32.toInt s10_7) → Int32.toInt (f6_7 i) < i)⟩ := hw
          have hLm1_7 := L_m1
          have hL20_7 := L_20
          exact W.vret hx hb hr (fun t ht hW => ⟨⟨((up (up (up σ 11 s11_3) 10 s10_7) 12 s12_3), (up φ 6 f6_7), γ_7, ψ_7), rfl, ⟨s11_3, s10_7, f6_7, s12_3, rfl, rfl, (show (Int32.toInt (σ 10)) ≤ (Int32.toInt s10_7) ∧ (Int32.toInt s10_7) ≤ (Int32.toInt (σ 10)) + 21000 from (by omega)), (show ∀ i : Nat, i < 300 → (i : Int) < (Int32.toInt s10_7) → Int32.toInt (f6_7 i) < i from (by with_reducible assumption))⟩, (by show va_P _ _ _ _; rw [ht]; exact hP)⟩, hS.F ht⟩) hS.2.2 dX9_readSums_54
  · have kc_2 := bI_eq rfl L_0 c_2
    exact W.vret hx hb hr (fun t ht hW => ⟨⟨((up (up (up σ 11 (σ 11)) 10 s10_1) 12 (σ 12)), (up φ 6 f6_1), γ_1, ψ_1), rfl, ⟨(σ 11), s10_1, f6_1, (σ 12), rfl, rfl, (show (Int32.toInt (σ 10)) ≤ (Int32.toInt s10_1) ∧ (Int32.toInt s10_1) ≤ (Int32.toInt (σ 10)) + 21000 from (by omega)), (show ∀ i : Nat, i < 300 → (i : Int) < (Int32.toInt s10_1) → Int32.toInt (f6_1 i) < i from (by with_reducible assumption))⟩, (by show va_P _ _ _ _; rw [ht]; exact hP)⟩, hS.F ht⟩) hS.2.2 dX9_readSums_10
set_option maxHeartbeats 4000000 in
set_option maxRecDepth 100000 in
theorem c_X9_isTwice (l : Launch) (dC : Nat → ClassId) (dI : Nat → Nat → Nat) (a : Nat → Nat) (κ : Nat → ClassId) (σ : Nat → Int32) (φ : Nat → Nat → Int32) (γ : Nat → Int32) (ψ : Nat → Nat → Int32) (size : Int32) (p_m_nameAt : PtR 0 4000 (φ 4)) (p_m_nameSize : PtR 0 30 (φ 5)) (hp : 0 ≤ (Int32.toInt (σ 4)) ∧ (Int32.toInt (σ 4)) ≤ (Int32.toInt (σ 8)) ∧ (Int32.toInt (σ 8)) ≤ 2000) (hs : 0 ≤ (Int32.toInt size) ∧ 0 ≤ (Int32.toInt (σ 9)) ∧ (Int32.toInt (σ 9)) + (Int32.toInt size) ≤ 4000) (hNA : ∀ i : Nat, Int32.toInt ((φ 4) i) + Int32.toInt ((φ 5) i) ≤ 4000) : Met l yX9_isTwice wsX9_isTwice ({ frames := 0, cells := 0, slots := 0, locals := 0 } : Room) (va_Pc [.ref (a 0), .int size] (mPre dC dI a κ (σ, φ, γ, ψ))) (va_Qi (QI (fun r S F => σ = S ∧ φ = F ∧ True)) (mB dC dI a κ) (mA a)) 0 0 (mA a) := by
  refine Met.ofW (cc := cX9_isTwice) (maxL := 6) (ret := (some .boolean)) (by decide) rfl ?_
  intro p e s m args below meth c s₁ B hml hv
  obtain ⟨rfl, hP, hK, hI, hN⟩ := hv
  have hx := B.exec
  have hb := B.bytes
  have hr := B.returns
  have hts := atoms_spec (ws := wsX9_isTwice) B.pre
  have hown : s.vm.findClass RX9 = some m.cls := findClass_of_methodNamed B.named
  have hlocks := B.notSynchronized
  have hS : va_S (mA a) s.heap s.heap [] := va_S.rf
  have hinX9 : ∀ w ∈ wsX90, w ∈ wsX9_isTwice := fun _ h => List.mem_cons_of_mem _ (List.mem_append_right _ h)
  have hl := lv_entry ([.ref (a 0), .int size]) (n := 6) (Nat.le_of_ble_eq_true rfl)
  rw [lg_entry_eq]
  generalize (lg_sl ([.ref (a 0), .int size]) ++ List.replicate (6 - (lg_sl ([.ref (a 0), .int size])).length) Slot.unset).toArray = ls at hl ⊢
  have hl : lv_has ls 6 [(0, .ref (a 0)), (1, .int size)] := hl
  refine k_gen (fun QQ eQ => ?_)
  have J7 : ∀ (n7 : Nat), ∀ (is_ : Int32) (q : Int32) (γ : Nat → Int32) (ψ : Nat → Nat → Int32) (H : Heap) (locs : List Loc) (ls : Array Slot), (0 ≤ (Int32.toInt q) ∧ ((Int32.toInt is_) = 0 ∨ (Int32.toInt is_) = 1)) → (((Int32.toInt (σ 8)) - (Int32.toInt q)).toNat < n7) → va_P (dC, dI) vwCl (mw a κ (σ, φ, γ, ψ)) H → va_S (mA a) s.heap H locs → lv_has ls 6 [(0, .ref (a 0)), (1, .int size), (2, .int is_), (3, .int q)] → W p l e ({ frames := 0, cells := 0, slots := 0, locals := 0 } : Room) s m ([.ref (a 0), .int size] : List Value).toArray below meth c H locs 0 0 QQ (F0 m 7 ls []) := by
    intro n7
    induction n7 with
    | zero =>
      intro is_ q γ ψ H locs ls v0 hm
      exact absurd hm (Nat.not_lt_zero _)
    | succ n7 ih7 =>
      intro is_ q γ ψ H locs ls v0 hm hP hS hl
      have J63 : ∀ (n63 : Nat), ∀ (is_ : Int32) (q : Int32) (same : Int32) (k : Int32) (γ : Nat → Int32) (ψ : Nat → Nat → Int32) (H : Heap) (locs : List Loc) (ls : Array Slot), (0 ≤ (Int32.toInt q) ∧ (Int32.toInt q) < (Int32.toInt (σ 8)) ∧ ((Int32.toInt is_) = 0 ∨ (Int32.toInt is_) = 1) ∧ 0 ≤ (Int32.toInt k) ∧ ((Int32.toInt same) = 0 ∨ Int32.toInt ((φ 5) (Int32.toNatClampNeg q)) = (Int32.toInt size)) ∧ ((Int32.toInt (σ 8)) - (Int32.toInt q)).toNat < n7 + 1) → (((Int32.toInt size) - (Int32.toInt k)).toNat < n63) → va_P (dC, dI) vwCl (mw a κ (σ, φ, γ, ψ)) H → va_S (mA a) s.heap H locs → lv_has ls 6 [(0, .ref (a 0)), (1, .int size), (2, .int is_), (3, .int q), (4, .int same), (5, .int k)] → W p l e ({ frames := 0, cells := 0, slots := 0, locals := 0 } : Room) s m ([.ref (a 0), .int size] : List Value).toArray below meth c H locs 0 0 QQ (F0 m 63 ls []) := by
        intro n63
        induction n63 with
        | zero =>
          intro is_ q same k γ ψ H locs ls v0 hm
          exact absurd hm (Nat.not_lt_zero _)
        | succ n63 ih63 =>
          intro is_ q same k γ ψ H locs ls v0 hm hP hS hl
          refine lv_iload hx hb dX9_isTwice_63 (lv_at hl 5 rfl) ?_
          refine lv_iload_n hx hb dX9_isTwice_65 rfl (lv_at hl 1 rfl) ?_
          refine lv_icmp_ge (tgt := 116) hx hb dX9_isTwice_66 (by decide) (fun c_1 => ?_) (fun c_1 => ?_)
          · have kc_1 := bI_le rfl rfl c_1
            refine lv_iload_n hx hb dX9_isTwice_116 rfl (lv_at hl 2 rfl) ?_
            refine lv_if_ne (tgt := 125) hx hb dX9_isTwice_117 (by decide) (fun c_2 => ?_) (fun c_2 => ?_)
            · have kc_2 := bI_ne rfl L_0 c_2
              refine lv_iconst (v := 1) hx hb dX9_isTwice_125 (by decide) ?_
              refine lv_goto (tgt := 130) hx hb dX9_isTwice_126 (by decide) ?_
              refine lv_istore_n (lv' := [(2, .int 1), (0, .ref (a 0)), (1, .int size), (3, .int q), (4, .int same), (5, .int k)]) hx hb dX9_isTwice_130 rfl hl (by decide) rfl ?_
              clear hl; intro ls hl
              obtain ⟨i_3, ei_3⟩ : ∃ z : Int32, z = q + 1 := ⟨_, rfl⟩
              refine lv_iinc (v := i_3) (lv' := [(3, .int i_3), (2, .int 1), (0, .ref (a 0)), (1, .int size), (4, .int same), (5, .int k)]) hx hb dX9_isTwice_131 hl (k := 3) rfl (by rw [ei_3]; rfl) (by decide) rfl ?_
              clear hl; intro ls hl
              have ti_3 : (Int32.toInt i_3) = (Int32.toInt q) + 1 := aI_add rfl L_1 ei_3 (by have := rng q; omega)
              refine lv_goto (tgt := 7) hx hb dX9_isTwice_134 (by decide) ?_
              exact ih7 1 i_3 γ ψ _ _ _ (show 0 ≤ (Int32.toInt i_3) ∧ ((Int32.toInt 1) = 0 ∨ (Int32.toInt 1) = 1) from (by have := L_1; omega)) (by omega) hP hS (lv_sub hl [2, 3, 1, 0] rfl)
            · have kc_2 := bI_eq rfl L_0 c_2
              refine lv_iload hx hb dX9_isTwice_120 (lv_at hl 4 rfl) ?_
              refine lv_if_eq (tgt := 129) hx hb dX9_isTwice_122 (by decide) (fun c_4 => ?_) (fun c_4 => ?_)
              · have kc_4 := bI_eq rfl L_0 c_4
                refine lv_iconst (v := 0) hx hb dX9_isTwice_129 (by decide) ?_
                refine lv_istore_n (lv' := [(2, .int 0), (0, .ref (a 0)), (1, .int size), (3, .int q), (4, .int same), (5, .int k)]) hx hb dX9_isTwice_130 rfl hl (by decide) rfl ?_
                clear hl; intro ls hl
                obtain ⟨i_5, ei_5⟩ : ∃ z : Int32, z = q + 1 := ⟨_, rfl⟩
                refine lv_iinc (v := i_5) (lv' := [(3, .int i_5), (2, .int 0), (0, .ref (a 0)), (1, .int size), (4, .int same), (5, .int k)]) hx hb dX9_isTwice_131 hl (k := 3) rfl (by rw [ei_5]; rfl) (by decide) rfl ?_
                clear hl; intro ls hl
                have ti_5 : (Int32.toInt i_5) = (Int32.toInt q) + 1 := aI_add rfl L_1 ei_5 (by have := rng q; omega)
                refine lv_goto (tgt := 7) hx hb dX9_isTwice_134 (by decide) ?_
                exact ih7 0 i_5 γ ψ _ _ _ (show 0 ≤ (Int32.toInt i_5) ∧ ((Int32.toInt 0) = 0 ∨ (Int32.toInt 0) = 1) from (by have := L_0; omega)) (by omega) hP hS (lv_sub hl [2, 3, 1, 0] rfl)
              · have kc_4 := bI_ne rfl L_0 c_4
                refine lv_iconst (v := 1) hx hb dX9_isTwice_125 (by decide) ?_
                refine lv_goto (tgt := 130) hx hb dX9_isTwice_126 (by decide) ?_
                refine lv_istore_n (lv' := [(2, .int 1), (0, .ref (a 0)), (1, .int size), (3, .int q), (4, .int same), (5, .int k)]) hx hb dX9_isTwice_130 rfl hl (by decide) rfl ?_
                clear hl; intro ls hl
                obtain ⟨i_6, ei_6⟩ : ∃ z : Int32, z = q + 1 := ⟨_, rfl⟩
                refine lv_iinc (v := i_6) (lv' := [(3, .int i_6), (2, .int 1), (0, .ref (a 0)), (1, .int size), (4, .int same), (5, .int k)]) hx hb dX9_isTwice_131 hl (k := 3) rfl (by rw [ei_6]; rfl) (by decide) rfl ?_
                clear hl; intro ls hl
                have ti_6 : (Int32.toInt i_6) = (Int32.toInt q) + 1 := aI_add rfl L_1 ei_6 (by have := rng q; omega)
                refine lv_goto (tgt := 7) hx hb dX9_isTwice_134 (by decide) ?_
                exact ih7 1 i_6 γ ψ _ _ _ (show 0 ≤ (Int32.toInt i_6) ∧ ((Int32.toInt 1) = 0 ∨ (Int32.toInt 1) = 1) from (by have := L_1; omega)) (by omega) hP hS (lv_sub hl [2, 3, 1, 0] rfl)
          · have kc_1 := bI_nle rfl rfl c_1
            refine lv_iload hx hb dX9_isTwice_69 (lv_at hl 4 rfl) ?_
            refine lv_if_eq (tgt := 116) hx hb dX9_isTwice_71 (by decide) (fun c_7 => ?_) (fun c_7 => ?_)
            · have kc_7 := bI_eq rfl L_0 c_7
              refine lv_iload_n hx hb dX9_isTwice_116 rfl (lv_at hl 2 rfl) ?_
              refine lv_if_ne (tgt := 125) hx hb dX9_isTwice_117 (by decide) (fun c_8 => ?_) (fun c_8 => ?_)
              · have kc_8 := bI_ne rfl L_0 c_8
                refine lv_iconst (v := 1) hx hb dX9_isTwice_125 (by decide) ?_
                refine lv_goto (tgt := 130) hx hb dX9_isTwice_126 (by decide) ?_
                refine lv_istore_n (lv' := [(2, .int 1), (0, .ref (a 0)), (1, .int size), (3, .int q), (4, .int same), (5, .int k)]) hx hb dX9_isTwice_130 rfl hl (by decide) rfl ?_
                clear hl; intro ls hl
                obtain ⟨i_9, ei_9⟩ : ∃ z : Int32, z = q + 1 := ⟨_, rfl⟩
                refine lv_iinc (v := i_9) (lv' := [(3, .int i_9), (2, .int 1), (0, .ref (a 0)), (1, .int size), (4, .int same), (5, .int k)]) hx hb dX9_isTwice_131 hl (k := 3) rfl (by rw [ei_9]; rfl) (by decide) rfl ?_
                clear hl; intro ls hl
                have ti_9 : (Int32.toInt i_9) = (Int32.toInt q) + 1 := aI_add rfl L_1 ei_9 (by have := rng q; omega)
                refine lv_goto (tgt := 7) hx hb dX9_isTwice_134 (by decide) ?_
                exact ih7 1 i_9 γ ψ _ _ _ (show 0 ≤ (Int32.toInt i_9) ∧ ((Int32.toInt 1) = 0 ∨ (Int32.toInt 1) = 1) from (by have := L_1; omega)) (by omega) hP hS (lv_sub hl [2, 3, 1, 0] rfl)
              · have kc_8 := bI_eq rfl L_0 c_8
                refine lv_iload hx hb dX9_isTwice_120 (lv_at hl 4 rfl) ?_
                refine lv_if_eq (tgt := 129) hx hb dX9_isTwice_122 (by decide) (fun c_10 => ?_) (fun c_10 => ?_)
                · have kc_10 := bI_eq rfl L_0 c_10
                  refine lv_iconst (v := 0) hx hb dX9_isTwice_129 (by decide) ?_
                  refine lv_istore_n (lv' := [(2, .int 0), (0, .ref (a 0)), (1, .int size), (3, .int q), (4, .int same), (5, .int k)]) hx hb dX9_isTwice_130 rfl hl (by decide) rfl ?_
                  clear hl; intro ls hl
                  obtain ⟨i_11, ei_11⟩ : ∃ z : Int32, z = q + 1 := ⟨_, rfl⟩
                  refine lv_iinc (v := i_11) (lv' := [(3, .int i_11), (2, .int 0), (0, .ref (a 0)), (1, .int size), (4, .int same), (5, .int k)]) hx hb dX9_isTwice_131 hl (k := 3) rfl (by rw [ei_11]; rfl) (by decide) rfl ?_
                  clear hl; intro ls hl
                  have ti_11 : (Int32.toInt i_11) = (Int32.toInt q) + 1 := aI_add rfl L_1 ei_11 (by have := rng q; omega)
                  refine lv_goto (tgt := 7) hx hb dX9_isTwice_134 (by decide) ?_
                  exact ih7 0 i_11 γ ψ _ _ _ (show 0 ≤ (Int32.toInt i_11) ∧ ((Int32.toInt 0) = 0 ∨ (Int32.toInt 0) = 1) from (by have := L_0; omega)) (by omega) hP hS (lv_sub hl [2, 3, 1, 0] rfl)
                · have kc_10 := bI_ne rfl L_0 c_10
                  refine lv_iconst (v := 1) hx hb dX9_isTwice_125 (by decide) ?_
                  refine lv_goto (tgt := 130) hx hb dX9_isTwice_126 (by decide) ?_
                  refine lv_istore_n (lv' := [(2, .int 1), (0, .ref (a 0)), (1, .int size), (3, .int q), (4, .int same), (5, .int k)]) hx hb dX9_isTwice_130 rfl hl (by decide) rfl ?_
                  clear hl; intro ls hl
                  obtain ⟨i_12, ei_12⟩ : ∃ z : Int32, z = q + 1 := ⟨_, rfl⟩
                  refine lv_iinc (v := i_12) (lv' := [(3, .int i_12), (2, .int 1), (0, .ref (a 0)), (1, .int size), (4, .int same), (5, .int k)]) hx hb dX9_isTwice_131 hl (k := 3) rfl (by rw [ei_12]; rfl) (by decide) rfl ?_
                  clear hl; intro ls hl
                  have ti_12 : (Int32.toInt i_12) = (Int32.toInt q) + 1 := aI_add rfl L_1 ei_12 (by have := rng q; omega)
                  refine lv_goto (tgt := 7) hx hb dX9_isTwice_134 (by decide) ?_
                  exact ih7 1 i_12 γ ψ _ _ _ (show 0 ≤ (Int32.toInt i_12) ∧ ((Int32.toInt 1) = 0 ∨ (Int32.toInt 1) = 1) from (by have := L_1; omega)) (by omega) hP hS (lv_sub hl [2, 3, 1, 0] rfl)
            · have kc_7 := bI_ne rfl L_0 c_7
              have hna := hNA (Int32.toNatClampNeg q)
              refine lv_aload_n hx hb dX9_isTwice_74 rfl (lv_at hl 0 rfl) ?_
              refine mg_0_33 hx hb hts hinX9 hown hK hP (hts (.fieldLink RX9 47 "CensusDeskModel" "names" "[B") (List.mem_of_getElem? (i := 6) rfl)) dX9_isTwice_75 ?_
              refine lv_aload_n hx hb dX9_isTwice_78 rfl (lv_at hl 0 rfl) ?_
              refine mg_0_30 hx hb hts hinX9 hown hK hP (hts (.fieldLink RX9 41 "CensusDeskModel" "nameAt" "[I") (List.mem_of_getElem? (i := 7) rfl)) dX9_isTwice_79 ?_
              refine lv_iload_n hx hb dX9_isTwice_82 rfl (lv_at hl 3 rfl) ?_
              refine ml_11 (f := (φ 4)) hx hb hK hP (i := q) (vin rfl (by omega)) rfl dX9_isTwice_83 ?_
              refine lv_topi (fun z_13 ez_13 => ?_)
              have tz_13 : (Int32.toInt z_13) = Int32.toInt ((φ 4) (Int32.toNatClampNeg q)) := congrArg Int32.toInt ez_13
              have pz_13 : 0 ≤ (Int32.toInt z_13) ∧ (Int32.toInt z_13) ≤ 4000 := p_m_nameAt.of ez_13
              refine lv_iload hx hb dX9_isTwice_84 (lv_at hl 5 rfl) ?_
              refine lv_iadd hx hb dX9_isTwice_86 ?_
              refine lv_topi (fun z_14 ez_14 => ?_)
              have tz_14 : (Int32.toInt z_14) = (Int32.toInt z_13) + (Int32.toInt k) := aI_add rfl rfl ez_14 (by have := rng z_13; have := rng k; omega)
              refine ml_13 (f := (ψ 6)) hx hb hK hP (i := z_14) (vin rfl (by omega)) rfl dX9_isTwice_87 ?_
              refine lv_topi (fun z_15 ez_15 => ?_)
              refine lv_aload_n hx hb dX9_isTwice_88 rfl (lv_at hl 0 rfl) ?_
              refine mg_0_33 hx hb hts hinX9 hown hK hP (hts (.fieldLink RX9 47 "CensusDeskModel" "names" "[B") (List.mem_of_getElem? (i := 6) rfl)) dX9_isTwice_89 ?_
              refine lv_aload_n hx hb dX9_isTwice_92 rfl (lv_at hl 0 rfl) ?_
              refine mg_0_34 (v := (σ 9)) hx hb hts hinX9 hown hK hP (hts (.fieldLink RX9 240 "CensusDeskModel" "nameEnd" "I") (List.mem_of_getElem? (i := 8) rfl)) rfl dX9_isTwice_93 ?_
              refine lv_iload hx hb dX9_isTwice_96 (lv_at hl 5 rfl) ?_
              refine lv_iadd hx hb dX9_isTwice_98 ?_
              refine lv_topi (fun z_16 ez_16 => ?_)
              have tz_16 : (Int32.toInt z_16) = (Int32.toInt (σ 9)) + (Int32.toInt k) := aI_add rfl rfl ez_16 (by have := rng (σ 9); have := rng k; omega)
              refine ml_13 (f := (ψ 6)) hx hb hK hP (i := z_16) (vin rfl (by omega)) rfl dX9_isTwice_99 ?_
              refine lv_topi (fun z_17 ez_17 => ?_)
              refine lv_icmp_ne (tgt := 107) hx hb dX9_isTwice_100 (by decide) (fun c_18 => ?_) (fun c_18 => ?_)
              · have kc_18 := bI_ne rfl rfl c_18
                refine lv_iconst (v := 0) hx hb dX9_isTwice_107 (by decide) ?_
                refine lv_istore (lv' := [(4, .int 0), (0, .ref (a 0)), (1, .int size), (2, .int is_), (3, .int q), (5, .int k)]) hx hb dX9_isTwice_108 hl (by decide) rfl ?_
                clear hl; intro ls hl
                obtain ⟨i_19, ei_19⟩ : ∃ z : Int32, z = k + 1 := ⟨_, rfl⟩
                refine lv_iinc (v := i_19) (lv' := [(5, .int i_19), (4, .int 0), (0, .ref (a 0)), (1, .int size), (2, .int is_), (3, .int q)]) hx hb dX9_isTwice_110 hl (k := 5) rfl (by rw [ei_19]; rfl) (by decide) rfl ?_
                clear hl; intro ls hl
                have ti_19 : (Int32.toInt i_19) = (Int32.toInt k) + 1 := aI_add rfl L_1 ei_19 (by have := rng k; have := rng size; omega)
                refine lv_goto (tgt := 63) hx hb dX9_isTwice_113 (by decide) ?_
                exact ih63 is_ q 0 i_19 γ ψ _ _ _ (show 0 ≤ (Int32.toInt q) ∧ (Int32.toInt q) < (Int32.toInt (σ 8)) ∧ ((Int32.toInt is_) = 0 ∨ (Int32.toInt is_) = 1) ∧ 0 ≤ (Int32.toInt i_19) ∧ ((Int32.toInt 0) = 0 ∨ Int32.toInt ((φ 5) (Int32.toNatClampNeg q)) = (Int32.toInt size)) ∧ ((Int32.toInt (σ 8)) - (Int32.toInt q)).toNat < n7 + 1 from (by have := L_0; omega)) (by omega) hP hS (lv_sub hl [2, 3, 4, 5, 1, 0] rfl)
              · have kc_18 := bI_eq rfl rfl c_18
                refine lv_iconst (v := 1) hx hb dX9_isTwice_103 (by decide) ?_
                refine lv_goto (tgt := 108) hx hb dX9_isTwice_104 (by decide) ?_
                refine lv_istore (lv' := [(4, .int 1), (0, .ref (a 0)), (1, .int size), (2, .int is_), (3, .int q), (5, .int k)]) hx hb dX9_isTwice_108 hl (by decide) rfl ?_
                clear hl; intro ls hl
                obtain ⟨i_20, ei_20⟩ : ∃ z : Int32, z = k + 1 := ⟨_, rfl⟩
                refine lv_iinc (v := i_20) (lv' := [(5, .int i_20), (4, .int 1), (0, .ref (a 0)), (1, .int size), (2, .int is_), (3, .int q)]) hx hb dX9_isTwice_110 hl (k := 5) rfl (by rw [ei_20]; rfl) (by decide) rfl ?_
                clear hl; intro ls hl
                have ti_20 : (Int32.toInt i_20) = (Int32.toInt k) + 1 := aI_add rfl L_1 ei_20 (by have := rng k; have := rng size; omega)
                refine lv_goto (tgt := 63) hx hb dX9_isTwice_113 (by decide) ?_
                exact ih63 is_ q 1 i_20 γ ψ _ _ _ (show 0 ≤ (Int32.toInt q) ∧ (Int32.toInt q) < (Int32.toInt (σ 8)) ∧ ((Int32.toInt is_) = 0 ∨ (Int32.toInt is_) = 1) ∧ 0 ≤ (Int32.toInt i_20) ∧ ((Int32.toInt 1) = 0 ∨ Int32.toInt ((φ 5) (Int32.toNatClampNeg q)) = (Int32.toInt size)) ∧ ((Int32.toInt (σ 8)) - (Int32.toInt q)).toNat < n7 + 1 from (by have := L_1; omega)) (by omega) hP hS (lv_sub hl [2, 3, 4, 5, 1, 0] rfl)
      refine lv_iload_n hx hb dX9_isTwice_7 rfl (lv_at hl 3 rfl) ?_
      refine lv_aload_n hx hb dX9_isTwice_8 rfl (lv_at hl 0 rfl) ?_
      refine mg_0_32 (v := (σ 8)) hx hb hts hinX9 hown hK hP (hts (.fieldLink RX9 252 "CensusDeskModel" "persons" "I") (List.mem_of_getElem? (i := 2) rfl)) rfl dX9_isTwice_9 ?_
      refine lv_icmp_ge (tgt := 137) hx hb dX9_isTwice_12 (by decide) (fun c_21 => ?_) (fun c_21 => ?_)
      · have kc_21 := bI_le rfl rfl c_21
        refine lv_iload_n hx hb dX9_isTwice_137 rfl (lv_at hl 2 rfl) ?_
        subst eQ
        exact W.zret (v := is_) hx hb hr (zq (by omega)).1 (fun t ht hW => ⟨⟨is_, (σ, φ, γ, ψ), rfl, ⟨rfl, rfl, trivial⟩, (by show va_P _ _ _ _; rw [ht]; exact hP)⟩, hS.F ht⟩) hS.2.2 dX9_isTwice_138
      · have kc_21 := bI_nle rfl rfl c_21
        refine lv_iload_n hx hb dX9_isTwice_15 rfl (lv_at hl 1 rfl) ?_
        refine lv_if_le (tgt := 137) hx hb dX9_isTwice_16 (by decide) (fun c_22 => ?_) (fun c_22 => ?_)
        · have kc_22 := bI_le rfl L_0 c_22
          refine lv_iload_n hx hb dX9_isTwice_137 rfl (lv_at hl 2 rfl) ?_
          subst eQ
          exact W.zret (v := is_) hx hb hr (zq (by omega)).1 (fun t ht hW => ⟨⟨is_, (σ, φ, γ, ψ), rfl, ⟨rfl, rfl, trivial⟩, (by show va_P _ _ _ _; rw [ht]; exact hP)⟩, hS.F ht⟩) hS.2.2 dX9_isTwice_138
        · have kc_22 := bI_nle rfl L_0 c_22
          refine lv_aload_n hx hb dX9_isTwice_19 rfl (lv_at hl 0 rfl) ?_
          refine mg_0_52 hx hb hts hinX9 hown hK hP (hts (.fieldLink RX9 80 "CensusDeskModel" "fields" "[I") (List.mem_of_getElem? (i := 3) rfl)) dX9_isTwice_20 ?_
          refine lv_iconst (v := 1) hx hb dX9_isTwice_23 (by decide) ?_
          refine ml_24 (f := (φ 7)) hx hb hK hP (i := 1) (vp_in_nI (n := 1) (by decide) (by decide)) rfl dX9_isTwice_24 ?_
          refine lv_topi (fun z_23 ez_23 => ?_)
          have tz_23 : (Int32.toInt z_23) = Int32.toInt ((φ 7) 1) := congrArg Int32.toInt ez_23
          refine lv_if_lt (tgt := 137) hx hb dX9_isTwice_25 (by decide) (fun c_24 => ?_) (fun c_24 => ?_)
          · have kc_24 := bI_lt rfl L_0 c_24
            refine lv_iload_n hx hb dX9_isTwice_137 rfl (lv_at hl 2 rfl) ?_
            subst eQ
            exact W.zret (v := is_) hx hb hr (zq (by omega)).1 (fun t ht hW => ⟨⟨is_, (σ, φ, γ, ψ), rfl, ⟨rfl, rfl, trivial⟩, (by show va_P _ _ _ _; rw [ht]; exact hP)⟩, hS.F ht⟩) hS.2.2 dX9_isTwice_138
          · have kc_24 := bI_nlt rfl L_0 c_24
            refine lv_aload_n hx hb dX9_isTwice_28 rfl (lv_at hl 0 rfl) ?_
            refine mg_0_28 hx hb hts hinX9 hown hK hP (hts (.fieldLink RX9 35 "CensusDeskModel" "age" "[I") (List.mem_of_getElem? (i := 4) rfl)) dX9_isTwice_29 ?_
            refine lv_iload_n hx hb dX9_isTwice_32 rfl (lv_at hl 3 rfl) ?_
            refine ml_9 (f := (ψ 4)) hx hb hK hP (i := q) (vin rfl (by omega)) rfl dX9_isTwice_33 ?_
            refine lv_topi (fun z_25 ez_25 => ?_)
            refine lv_aload_n hx hb dX9_isTwice_34 rfl (lv_at hl 0 rfl) ?_
            refine mg_0_52 hx hb hts hinX9 hown hK hP (hts (.fieldLink RX9 80 "CensusDeskModel" "fields" "[I") (List.mem_of_getElem? (i := 3) rfl)) dX9_isTwice_35 ?_
            refine lv_iconst (v := 1) hx hb dX9_isTwice_38 (by decide) ?_
            refine ml_24 (f := (φ 7)) hx hb hK hP (i := 1) (vp_in_nI (n := 1) (by decide) (by decide)) rfl dX9_isTwice_39 ?_
            refine lv_topi (fun z_26 ez_26 => ?_)
            have tz_26 : (Int32.toInt z_26) = Int32.toInt ((φ 7) 1) := congrArg Int32.toInt ez_26
            refine lv_icmp_ne (tgt := 57) hx hb dX9_isTwice_40 (by decide) (fun c_27 => ?_) (fun c_27 => ?_)
            · have kc_27 := bI_ne rfl rfl c_27
              refine lv_iconst (v := 0) hx hb dX9_isTwice_57 (by decide) ?_
              refine lv_istore (lv' := [(4, .int 0), (0, .ref (a 0)), (1, .int size), (2, .int is_), (3, .int q)]) hx hb dX9_isTwice_58 hl (by decide) rfl ?_
              clear hl; intro ls hl
              refine lv_iconst (v := 0) hx hb dX9_isTwice_60 (by decide) ?_
              refine lv_istore (lv' := [(5, .int 0), (4, .int 0), (0, .ref (a 0)), (1, .int size), (2, .int is_), (3, .int q)]) hx hb dX9_isTwice_61 hl (by decide) rfl ?_
              clear hl; intro ls hl
              exact J63 (_ + 1) is_ q 0 0 γ ψ _ _ _ (show 0 ≤ (Int32.toInt q) ∧ (Int32.toInt q) < (Int32.toInt (σ 8)) ∧ ((Int32.toInt is_) = 0 ∨ (Int32.toInt is_) = 1) ∧ 0 ≤ (Int32.toInt 0) ∧ ((Int32.toInt 0) = 0 ∨ Int32.toInt ((φ 5) (Int32.toNatClampNeg q)) = (Int32.toInt size)) ∧ ((Int32.toInt (σ 8)) - (Int32.toInt q)).toNat < n7 + 1 from (by have := L_0; omega)) (Nat.lt_succ_self _) hP hS (lv_sub hl [2, 3, 4, 5, 1, 0] rfl)
            · have kc_27 := bI_eq rfl rfl c_27
              refine lv_aload_n hx hb dX9_isTwice_43 rfl (lv_at hl 0 rfl) ?_
              refine mg_0_31 hx hb hts hinX9 hown hK hP (hts (.fieldLink RX9 44 "CensusDeskModel" "nameSize" "[I") (List.mem_of_getElem? (i := 5) rfl)) dX9_isTwice_44 ?_
              refine lv_iload_n hx hb dX9_isTwice_47 rfl (lv_at hl 3 rfl) ?_
              refine ml_12 (f := (φ 5)) hx hb hK hP (i := q) (vin rfl (by omega)) rfl dX9_isTwice_48 ?_
              refine lv_topi (fun z_28 ez_28 => ?_)
              have tz_28 : (Int32.toInt z_28) = Int32.toInt ((φ 5) (Int32.toNatClampNeg q)) := congrArg Int32.toInt ez_28
              have pz_28 : 0 ≤ (Int32.toInt z_28) ∧ (Int32.toInt z_28) ≤ 30 := p_m_nameSize.of ez_28
              refine lv_iload_n hx hb dX9_isTwice_49 rfl (lv_at hl 1 rfl) ?_
              refine lv_icmp_ne (tgt := 57) hx hb dX9_isTwice_50 (by decide) (fun c_29 => ?_) (fun c_29 => ?_)
              · have kc_29 := bI_ne rfl rfl c_29
                refine lv_iconst (v := 0) hx hb dX9_isTwice_57 (by decide) ?_
                refine lv_istore (lv' := [(4, .int 0), (0, .ref (a 0)), (1, .int size), (2, .int is_), (3, .int q)]) hx hb dX9_isTwice_58 hl (by decide) rfl ?_
                clear hl; intro ls hl
                refine lv_iconst (v := 0) hx hb dX9_isTwice_60 (by decide) ?_
                refine lv_istore (lv' := [(5, .int 0), (4, .int 0), (0, .ref (a 0)), (1, .int size), (2, .int is_), (3, .int q)]) hx hb dX9_isTwice_61 hl (by decide) rfl ?_
                clear hl; intro ls hl
                exact J63 (_ + 1) is_ q 0 0 γ ψ _ _ _ (show 0 ≤ (Int32.toInt q) ∧ (Int32.toInt q) < (Int32.toInt (σ 8)) ∧ ((Int32.toInt is_) = 0 ∨ (Int32.toInt is_) = 1) ∧ 0 ≤ (Int32.toInt 0) ∧ ((Int32.toInt 0) = 0 ∨ Int32.toInt ((φ 5) (Int32.toNatClampNeg q)) = (Int32.toInt size)) ∧ ((Int32.toInt (σ 8)) - (Int32.toInt q)).toNat < n7 + 1 from (by have := L_0; omega)) (Nat.lt_succ_self _) hP hS (lv_sub hl [2, 3, 4, 5, 1, 0] rfl)
              · have kc_29 := bI_eq rfl rfl c_29
                refine lv_iconst (v := 1) hx hb dX9_isTwice_53 (by decide) ?_
                refine lv_goto (tgt := 58) hx hb dX9_isTwice_54 (by decide) ?_
                refine lv_istore (lv' := [(4, .int 1), (0, .ref (a 0)), (1, .int size), (2, .int is_), (3, .int q)]) hx hb dX9_isTwice_58 hl (by decide) rfl ?_
                clear hl; intro ls hl
                refine lv_iconst (v := 0) hx hb dX9_isTwice_60 (by decide) ?_
                refine lv_istore (lv' := [(5, .int 0), (4, .int 1), (0, .ref (a 0)), (1, .int size), (2, .int is_), (3, .int q)]) hx hb dX9_isTwice_61 hl (by decide) rfl ?_
                clear hl; intro ls hl
                exact J63 (_ + 1) is_ q 1 0 γ ψ _ _ _ (show 0 ≤ (Int32.toInt q) ∧ (Int32.toInt q) < (Int32.toInt (σ 8)) ∧ ((Int32.toInt is_) = 0 ∨ (Int32.toInt is_) = 1) ∧ 0 ≤ (Int32.toInt 0) ∧ ((Int32.toInt 1) = 0 ∨ Int32.toInt ((φ 5) (Int32.toNatClampNeg q)) = (Int32.toInt size)) ∧ ((Int32.toInt (σ 8)) - (Int32.toInt q)).toNat < n7 + 1 from (by have := L_0; have := L_1; omega)) (Nat.lt_succ_self _) hP hS (lv_sub hl [2, 3, 4, 5, 1, 0] rfl)
  refine lv_iconst (v := 0) hx hb dX9_isTwice_0 (by decide) ?_
  refine lv_istore_n (lv' := [(2, .int 0), (0, .ref (a 0)), (1, .int size)]) hx hb dX9_isTwice_1 rfl hl (by decide) rfl ?_
  clear hl; intro ls hl
  refine lv_aload_n hx hb dX9_isTwice_2 rfl (lv_at hl 1 rfl) ?_
  refine mg_0_17 (v := (σ 4)) hx hb hts hinX9 hown hK hP (hts (.fieldLink RX9 255 "CensusDeskModel" "firstPerson" "I") (List.mem_of_getElem? (i := 1) rfl)) rfl dX9_isTwice_3 ?_
  refine lv_istore_n (lv' := [(3, .int (σ 4)), (2, .int 0), (0, .ref (a 0)), (1, .int size)]) hx hb dX9_isTwice_6 rfl hl (by decide) rfl ?_
  clear hl; intro ls hl
  exact J7 (_ + 1) 0 (σ 4) γ ψ _ _ _ (show 0 ≤ (Int32.toInt (σ 4)) ∧ ((Int32.toInt 0) = 0 ∨ (Int32.toInt 0) = 1) from (by have := L_0; omega)) (Nat.lt_succ_self _) hP hS (lv_sub hl [2, 3, 1, 0] rfl)
