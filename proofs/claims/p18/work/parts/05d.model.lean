set_option maxHeartbeats 4000000 in
set_option maxRecDepth 100000 in
theorem c_X9_isLetter (l : Launch) (dC : Nat → ClassId) (dI : Nat → Nat → Nat) (a : Nat → Nat) (κ : Nat → ClassId) (σ : Nat → Int32) (φ : Nat → Nat → Int32) (γ : Nat → Int32) (ψ : Nat → Nat → Int32) (ch : Int32) : Met l yX9_isLetter wsX9_isLetter ({ frames := 0, cells := 0, slots := 0, locals := 0 } : Room) (va_Pc [.int ch] (mPre dC dI a κ (σ, φ, γ, ψ))) (va_Qi (QI (fun r S F => σ = S ∧ φ = F ∧ True)) (mB dC dI a κ) (mA a)) 0 0 (mA a) := by
  refine Met.ofW (cc := cX9_isLetter) (maxL := 1) (ret := (some .boolean)) (by decide) rfl ?_
  intro p e s m args below meth c s₁ B hml hv
  obtain ⟨rfl, hP, hK, hI, hN⟩ := hv
  have hx := B.exec
  have hb := B.bytes
  have hr := B.returns
  have hts := atoms_spec (ws := wsX9_isLetter) B.pre
  have hown : s.vm.findClass RX9 = some m.cls := findClass_of_methodNamed B.named
  have hlocks := B.notSynchronized
  have hS : va_S (mA a) s.heap s.heap [] := va_S.rf
  have hl := lv_entry ([.int ch]) (n := 1) (Nat.le_of_ble_eq_true rfl)
  rw [lg_entry_eq]
  generalize (lg_sl ([.int ch]) ++ List.replicate (1 - (lg_sl ([.int ch])).length) Slot.unset).toArray = ls at hl ⊢
  have hl : lv_has ls 1 [(0, .int ch)] := hl
  refine lv_iload_n hx hb dX9_isLetter_0 rfl (lv_at hl 0 rfl) ?_
  refine lv_bipush (v := 97) hx hb dX9_isLetter_1 (by decide) ?_
  refine lv_icmp_lt (tgt := 12) hx hb dX9_isLetter_3 (by decide) (fun c_1 => ?_) (fun c_1 => ?_)
  · have kc_1 := bI_lt rfl L_97 c_1
    refine lv_iload_n hx hb dX9_isLetter_12 rfl (lv_at hl 0 rfl) ?_
    refine lv_bipush (v := 65) hx hb dX9_isLetter_13 (by decide) ?_
    refine lv_icmp_lt (tgt := 28) hx hb dX9_isLetter_15 (by decide) (fun c_2 => ?_) (fun c_2 => ?_)
    · have kc_2 := bI_lt rfl L_65 c_2
      refine lv_iconst (v := 0) hx hb dX9_isLetter_28 (by decide) ?_
      exact W.zret (v := 0) hx hb hr (by first | rfl | decide) (fun t ht hW => ⟨⟨0, (σ, φ, γ, ψ), rfl, ⟨rfl, rfl, trivial⟩, (by show va_P _ _ _ _; rw [ht]; exact hP)⟩, hS.F ht⟩) hS.2.2 dX9_isLetter_29
    · have kc_2 := bI_nlt rfl L_65 c_2
      refine lv_iload_n hx hb dX9_isLetter_18 rfl (lv_at hl 0 rfl) ?_
      refine lv_bipush (v := 90) hx hb dX9_isLetter_19 (by decide) ?_
      refine lv_icmp_gt (tgt := 28) hx hb dX9_isLetter_21 (by decide) (fun c_3 => ?_) (fun c_3 => ?_)
      · have kc_3 := bI_lt L_90 rfl c_3
        refine lv_iconst (v := 0) hx hb dX9_isLetter_28 (by decide) ?_
        exact W.zret (v := 0) hx hb hr (by first | rfl | decide) (fun t ht hW => ⟨⟨0, (σ, φ, γ, ψ), rfl, ⟨rfl, rfl, trivial⟩, (by show va_P _ _ _ _; rw [ht]; exact hP)⟩, hS.F ht⟩) hS.2.2 dX9_isLetter_29
      · have kc_3 := bI_nlt L_90 rfl c_3
        refine lv_iconst (v := 1) hx hb dX9_isLetter_24 (by decide) ?_
        refine lv_goto (tgt := 29) hx hb dX9_isLetter_25 (by decide) ?_
        exact W.zret (v := 1) hx hb hr (by first | rfl | decide) (fun t ht hW => ⟨⟨1, (σ, φ, γ, ψ), rfl, ⟨rfl, rfl, trivial⟩, (by show va_P _ _ _ _; rw [ht]; exact hP)⟩, hS.F ht⟩) hS.2.2 dX9_isLetter_29
  · have kc_1 := bI_nlt rfl L_97 c_1
    refine lv_iload_n hx hb dX9_isLetter_6 rfl (lv_at hl 0 rfl) ?_
    refine lv_bipush (v := 122) hx hb dX9_isLetter_7 (by decide) ?_
    refine lv_icmp_le (tgt := 24) hx hb dX9_isLetter_9 (by decide) (fun c_4 => ?_) (fun c_4 => ?_)
    · have kc_4 := bI_le rfl L_122 c_4
      refine lv_iconst (v := 1) hx hb dX9_isLetter_24 (by decide) ?_
      refine lv_goto (tgt := 29) hx hb dX9_isLetter_25 (by decide) ?_
      exact W.zret (v := 1) hx hb hr (by first | rfl | decide) (fun t ht hW => ⟨⟨1, (σ, φ, γ, ψ), rfl, ⟨rfl, rfl, trivial⟩, (by show va_P _ _ _ _; rw [ht]; exact hP)⟩, hS.F ht⟩) hS.2.2 dX9_isLetter_29
    · have kc_4 := bI_nle rfl L_122 c_4
      refine lv_iload_n hx hb dX9_isLetter_12 rfl (lv_at hl 0 rfl) ?_
      refine lv_bipush (v := 65) hx hb dX9_isLetter_13 (by decide) ?_
      refine lv_icmp_lt (tgt := 28) hx hb dX9_isLetter_15 (by decide) (fun c_5 => ?_) (fun c_5 => ?_)
      · have kc_5 := bI_lt rfl L_65 c_5
        refine lv_iconst (v := 0) hx hb dX9_isLetter_28 (by decide) ?_
        exact W.zret (v := 0) hx hb hr (by first | rfl | decide) (fun t ht hW => ⟨⟨0, (σ, φ, γ, ψ), rfl, ⟨rfl, rfl, trivial⟩, (by show va_P _ _ _ _; rw [ht]; exact hP)⟩, hS.F ht⟩) hS.2.2 dX9_isLetter_29
      · have kc_5 := bI_nlt rfl L_65 c_5
        refine lv_iload_n hx hb dX9_isLetter_18 rfl (lv_at hl 0 rfl) ?_
        refine lv_bipush (v := 90) hx hb dX9_isLetter_19 (by decide) ?_
        refine lv_icmp_gt (tgt := 28) hx hb dX9_isLetter_21 (by decide) (fun c_6 => ?_) (fun c_6 => ?_)
        · have kc_6 := bI_lt L_90 rfl c_6
          refine lv_iconst (v := 0) hx hb dX9_isLetter_28 (by decide) ?_
          exact W.zret (v := 0) hx hb hr (by first | rfl | decide) (fun t ht hW => ⟨⟨0, (σ, φ, γ, ψ), rfl, ⟨rfl, rfl, trivial⟩, (by show va_P _ _ _ _; rw [ht]; exact hP)⟩, hS.F ht⟩) hS.2.2 dX9_isLetter_29
        · have kc_6 := bI_nlt L_90 rfl c_6
          refine lv_iconst (v := 1) hx hb dX9_isLetter_24 (by decide) ?_
          refine lv_goto (tgt := 29) hx hb dX9_isLetter_25 (by decide) ?_
          exact W.zret (v := 1) hx hb hr (by first | rfl | decide) (fun t ht hW => ⟨⟨1, (σ, φ, γ, ψ), rfl, ⟨rfl, rfl, trivial⟩, (by show va_P _ _ _ _; rw [ht]; exact hP)⟩, hS.F ht⟩) hS.2.2 dX9_isLetter_29
set_option maxHeartbeats 4000000 in
set_option maxRecDepth 100000 in
theorem c_X9_isDigit (l : Launch) (dC : Nat → ClassId) (dI : Nat → Nat → Nat) (a : Nat → Nat) (κ : Nat → ClassId) (σ : Nat → Int32) (φ : Nat → Nat → Int32) (γ : Nat → Int32) (ψ : Nat → Nat → Int32) (ch : Int32) : Met l yX9_isDigit wsX9_isDigit ({ frames := 0, cells := 0, slots := 0, locals := 0 } : Room) (va_Pc [.int ch] (mPre dC dI a κ (σ, φ, γ, ψ))) (va_Qi (QI (fun r S F => σ = S ∧ φ = F ∧ True)) (mB dC dI a κ) (mA a)) 0 0 (mA a) := by
  refine Met.ofW (cc := cX9_isDigit) (maxL := 1) (ret := (some .boolean)) (by decide) rfl ?_
  intro p e s m args below meth c s₁ B hml hv
  obtain ⟨rfl, hP, hK, hI, hN⟩ := hv
  have hx := B.exec
  have hb := B.bytes
  have hr := B.returns
  have hts := atoms_spec (ws := wsX9_isDigit) B.pre
  have hown : s.vm.findClass RX9 = some m.cls := findClass_of_methodNamed B.named
  have hlocks := B.notSynchronized
  have hS : va_S (mA a) s.heap s.heap [] := va_S.rf
  have hl := lv_entry ([.int ch]) (n := 1) (Nat.le_of_ble_eq_true rfl)
  rw [lg_entry_eq]
  generalize (lg_sl ([.int ch]) ++ List.replicate (1 - (lg_sl ([.int ch])).length) Slot.unset).toArray = ls at hl ⊢
  have hl : lv_has ls 1 [(0, .int ch)] := hl
  refine lv_iload_n hx hb dX9_isDigit_0 rfl (lv_at hl 0 rfl) ?_
  refine lv_bipush (v := 48) hx hb dX9_isDigit_1 (by decide) ?_
  refine lv_icmp_lt (tgt := 16) hx hb dX9_isDigit_3 (by decide) (fun c_1 => ?_) (fun c_1 => ?_)
  · have kc_1 := bI_lt rfl L_48 c_1
    refine lv_iconst (v := 0) hx hb dX9_isDigit_16 (by decide) ?_
    exact W.zret (v := 0) hx hb hr (by first | rfl | decide) (fun t ht hW => ⟨⟨0, (σ, φ, γ, ψ), rfl, ⟨rfl, rfl, trivial⟩, (by show va_P _ _ _ _; rw [ht]; exact hP)⟩, hS.F ht⟩) hS.2.2 dX9_isDigit_17
  · have kc_1 := bI_nlt rfl L_48 c_1
    refine lv_iload_n hx hb dX9_isDigit_6 rfl (lv_at hl 0 rfl) ?_
    refine lv_bipush (v := 57) hx hb dX9_isDigit_7 (by decide) ?_
    refine lv_icmp_gt (tgt := 16) hx hb dX9_isDigit_9 (by decide) (fun c_2 => ?_) (fun c_2 => ?_)
    · have kc_2 := bI_lt L_57 rfl c_2
      refine lv_iconst (v := 0) hx hb dX9_isDigit_16 (by decide) ?_
      exact W.zret (v := 0) hx hb hr (by first | rfl | decide) (fun t ht hW => ⟨⟨0, (σ, φ, γ, ψ), rfl, ⟨rfl, rfl, trivial⟩, (by show va_P _ _ _ _; rw [ht]; exact hP)⟩, hS.F ht⟩) hS.2.2 dX9_isDigit_17
    · have kc_2 := bI_nlt L_57 rfl c_2
      refine lv_iconst (v := 1) hx hb dX9_isDigit_12 (by decide) ?_
      refine lv_goto (tgt := 17) hx hb dX9_isDigit_13 (by decide) ?_
      exact W.zret (v := 1) hx hb hr (by first | rfl | decide) (fun t ht hW => ⟨⟨1, (σ, φ, γ, ψ), rfl, ⟨rfl, rfl, trivial⟩, (by show va_P _ _ _ _; rw [ht]; exact hP)⟩, hS.F ht⟩) hS.2.2 dX9_isDigit_17
set_option maxHeartbeats 4000000 in
set_option maxRecDepth 100000 in
theorem c_X9_readName (l : Launch) (dC : Nat → ClassId) (dI : Nat → Nat → Nat) (a : Nat → Nat) (κ : Nat → ClassId) (σ : Nat → Int32) (φ : Nat → Nat → Int32) (γ : Nat → Int32) (ψ : Nat → Nat → Int32) (k : Int32) (hl : 0 ≤ (Int32.toInt (σ 5)) ∧ (Int32.toInt (σ 5)) ≤ (Int32.toInt (σ 6)) ∧ (Int32.toInt (σ 6)) ≤ 4000) (hf : 0 ≤ (Int32.toInt (σ 10)) ∧ (Int32.toInt (σ 10)) ≤ 1500000000) (hfc : ∀ i : Nat, i < 300 → (i : Int) < (Int32.toInt (σ 10)) → Int32.toInt ((φ 6) i) < i) : Met l yX9_readName wsX9_readName ({ frames := 8, cells := 0, slots := 0, locals := 194 } : Room) (va_Pc [.ref (a 0), .int k] (mPre dC dI a κ (σ, φ, γ, ψ))) (va_Qv (QV (fun S F => ∃ (s11 : Int32) (s10 : Int32) (f6 : Nat → Int32), (up (up σ 11 s11) 10 s10) = S ∧ (up φ 6 f6) = F ∧ ((Int32.toInt (σ 10)) ≤ (Int32.toInt s10) ∧ (Int32.toInt s10) ≤ (Int32.toInt (σ 10)) + 20004) ∧ (∀ i : Nat, i < 300 → (i : Int) < (Int32.toInt s10) → Int32.toInt (f6 i) < i) ∧ (0 ≤ (Int32.toInt s11) ∧ (Int32.toInt s11) ≤ 30 ∧ (Int32.toInt s11) ≤ (Int32.toInt (σ 6)) - (Int32.toInt (σ 5))))) (mB dC dI a κ) (mA a)) 0 0 (mA a) := by
  refine Met.ofW (cc := cX9_readName) (maxL := 4) (ret := none) (by decide) rfl ?_
  intro p e s m args below meth c s₁ B hml hv
  obtain ⟨rfl, hP, hK, hI, hN⟩ := hv
  have hx := B.exec
  have hb := B.bytes
  have hr := B.returns
  have hts := atoms_spec (ws := wsX9_readName) B.pre
  have hown : s.vm.findClass RX9 = some m.cls := findClass_of_methodNamed B.named
  have hlocks := B.notSynchronized
  have hS : va_S (mA a) s.heap s.heap [] := va_S.rf
  have hinX9 : ∀ w ∈ wsX90, w ∈ wsX9_readName := fun _ h => List.mem_cons_of_mem _ (List.mem_append_right _ h)
  have hl := lv_entry ([.ref (a 0), .int k]) (n := 4) (Nat.le_of_ble_eq_true rfl)
  rw [lg_entry_eq]
  generalize (lg_sl ([.ref (a 0), .int k]) ++ List.replicate (4 - (lg_sl ([.ref (a 0), .int k])).length) Slot.unset).toArray = ls at hl ⊢
  have hl : lv_has ls 4 [(0, .ref (a 0)), (1, .int k)] := hl
  refine k_gen (fun QQ eQ => ?_)
  have J42 : ∀ (n42 : Nat), ∀ (i : Int32) (s11_c42 : Int32) (s10_c42 : Int32) (f6_c42 : Nat → Int32) (γ : Nat → Int32) (ψ : Nat → Nat → Int32) (H : Heap) (locs : List Loc) (ls : Array Slot), (0 ≤ (Int32.toInt i)) → (0 ≤ (Int32.toInt s11_c42) ∧ (Int32.toInt s11_c42) ≤ (Int32.toInt (σ 6)) - (Int32.toInt (σ 5))) → ((Int32.toInt (σ 10)) ≤ (Int32.toInt s10_c42) ∧ (Int32.toInt s10_c42) ≤ (Int32.toInt (σ 10)) + 20000) → (∀ i : Nat, i < 300 → (i : Int) < (Int32.toInt s10_c42) → Int32.toInt (f6_c42 i) < i) → (((Int32.toInt s11_c42) - (Int32.toInt i)).toNat < n42) → va_P (dC, dI) vwCl (mw a κ ((up (up σ 11 s11_c42) 10 s10_c42), (up φ 6 f6_c42), γ, ψ)) H → va_S (mA a) s.heap H locs → lv_has ls 4 [(0, .ref (a 0)), (2, .int i)] → W p l e ({ frames := 8, cells := 0, slots := 0, locals := 194 } : Room) s m ([.ref (a 0), .int k] : List Value).toArray below meth c H locs 0 0 QQ (F0 m 42 ls []) := by
    intro n42
    induction n42 with
    | zero =>
      intro i s11_c42 s10_c42 f6_c42 γ ψ H locs ls v0 vs vf hfc hm
      exact absurd hm (Nat.not_lt_zero _)
    | succ n42 ih42 =>
      intro i s11_c42 s10_c42 f6_c42 γ ψ H locs ls v0 vs vf hfc hm hP hS hl
      refine lv_iload_n hx hb dX9_readName_42 rfl (lv_at hl 1 rfl) ?_
      refine lv_aload_n hx hb dX9_readName_43 rfl (lv_at hl 0 rfl) ?_
      refine mg_0_48 (v := s11_c42) hx hb hts hinX9 hown hK hP (hts (.fieldLink RX9 191 "CensusDeskModel" "signs" "I") (List.mem_of_getElem? (i := 2) rfl)) rfl dX9_readName_44 ?_
      refine lv_icmp_ge (tgt := 96) hx hb dX9_readName_47 (by decide) (fun c_1 => ?_) (fun c_1 => ?_)
      · have kc_1 := bI_le rfl rfl c_1
        refine lv_iload_n hx hb dX9_readName_96 rfl (lv_at hl 1 rfl) ?_
        refine lv_aload_n hx hb dX9_readName_97 rfl (lv_at hl 0 rfl) ?_
        refine mg_0_48 (v := s11_c42) hx hb hts hinX9 hown hK hP (hts (.fieldLink RX9 191 "CensusDeskModel" "signs" "I") (List.mem_of_getElem? (i := 2) rfl)) rfl dX9_readName_98 ?_
        refine lv_icmp_ge (tgt := 117) hx hb dX9_readName_101 (by decide) (fun c_2 => ?_) (fun c_2 => ?_)
        · have kc_2 := bI_le rfl rfl c_2
          refine lv_aload_n hx hb dX9_readName_117 rfl (lv_at hl 0 rfl) ?_
          refine lv_aload_n hx hb dX9_readName_118 rfl (lv_at hl 0 rfl) ?_
          refine mg_0_21 (v := (γ 10)) hx hb hts hinX9 hown hK hP (hts (.fieldLink RX9 184 "CensusDeskModel" "fieldLost" "Z") (List.mem_of_getElem? (i := 1) rfl)) rfl dX9_readName_119 ?_
          refine lv_if_eq (tgt := 129) hx hb dX9_readName_122 (by decide) (fun c_3 => ?_) (fun c_3 => ?_)
          · have kc_3 := bI_eq rfl L_0 c_3
            refine lv_aload_n hx hb dX9_readName_129 rfl (lv_at hl 0 rfl) ?_
            refine mg_0_48 (v := s11_c42) hx hb hts hinX9 hown hK hP (hts (.fieldLink RX9 191 "CensusDeskModel" "signs" "I") (List.mem_of_getElem? (i := 2) rfl)) rfl dX9_readName_130 ?_
            refine lv_bipush (v := 30) hx hb dX9_readName_133 (by decide) ?_
            refine lv_icmp_le (tgt := 143) hx hb dX9_readName_135 (by decide) (fun c_4 => ?_) (fun c_4 => ?_)
            · have kc_4 := bI_le rfl L_30 c_4
              refine lv_aload_n hx hb dX9_readName_143 rfl (lv_at hl 0 rfl) ?_
              refine mg_0_48 (v := s11_c42) hx hb hts hinX9 hown hK hP (hts (.fieldLink RX9 191 "CensusDeskModel" "signs" "I") (List.mem_of_getElem? (i := 2) rfl)) rfl dX9_readName_144 ?_
              refine mp_0_48 (v := s11_c42) hx hb hts hinX9 hown hK hP hI hS (hts (.fieldLink RX9 191 "CensusDeskModel" "signs" "I") (List.mem_of_getElem? (i := 2) rfl)) dX9_readName_147 ?_
              clear hP hS; intro H locs hP hS
              subst eQ
              exact W.vret hx hb hr (fun t ht hW => ⟨⟨((up (up σ 11 s11_c42) 10 s10_c42), (up φ 6 f6_c42), γ, ψ), rfl, ⟨s11_c42, s10_c42, f6_c42, rfl, rfl, (show (Int32.toInt (σ 10)) ≤ (Int32.toInt s10_c42) ∧ (Int32.toInt s10_c42) ≤ (Int32.toInt (σ 10)) + 20004 from (by omega)), (show ∀ i : Nat, i < 300 → (i : Int) < (Int32.toInt s10_c42) → Int32.toInt (f6_c42 i) < i from (by with_reducible assumption)), (show 0 ≤ (Int32.toInt s11_c42) ∧ (Int32.toInt s11_c42) ≤ 30 ∧ (Int32.toInt s11_c42) ≤ (Int32.toInt (σ 6)) - (Int32.toInt (σ 5)) from (by omega))⟩, (by show va_P _ _ _ _; rw [ht]; exact hP)⟩, hS.F ht⟩) hS.2.2 dX9_readName_150
            · have kc_4 := bI_nle rfl L_30 c_4
              refine lv_bipush (v := 30) hx hb dX9_readName_138 (by decide) ?_
              refine lv_goto (tgt := 147) hx hb dX9_readName_140 (by decide) ?_
              refine mp_0_48 (v := 30) hx hb hts hinX9 hown hK hP hI hS (hts (.fieldLink RX9 191 "CensusDeskModel" "signs" "I") (List.mem_of_getElem? (i := 2) rfl)) dX9_readName_147 ?_
              clear hP hS; intro H locs hP hS
              subst eQ
              exact W.vret hx hb hr (fun t ht hW => ⟨⟨((up (up σ 11 30) 10 s10_c42), (up φ 6 f6_c42), γ, ψ), rfl, ⟨30, s10_c42, f6_c42, rfl, rfl, (show (Int32.toInt (σ 10)) ≤ (Int32.toInt s10_c42) ∧ (Int32.toInt s10_c42) ≤ (Int32.toInt (σ 10)) + 20004 from (by omega)), (show ∀ i : Nat, i < 300 → (i : Int) < (Int32.toInt s10_c42) → Int32.toInt (f6_c42 i) < i from (by with_reducible assumption)), (show 0 ≤ (Int32.toInt 30) ∧ (Int32.toInt 30) ≤ 30 ∧ (Int32.toInt 30) ≤ (Int32.toInt (σ 6)) - (Int32.toInt (σ 5)) from (by have := L_30; omega))⟩, (by show va_P _ _ _ _; rw [ht]; exact hP)⟩, hS.F ht⟩) hS.2.2 dX9_readName_150
          · have kc_3 := bI_ne rfl L_0 c_3
            refine lv_iconst (v := 0) hx hb dX9_readName_125 (by decide) ?_
            refine lv_goto (tgt := 147) hx hb dX9_readName_126 (by decide) ?_
            refine mp_0_48 (v := 0) hx hb hts hinX9 hown hK hP hI hS (hts (.fieldLink RX9 191 "CensusDeskModel" "signs" "I") (List.mem_of_getElem? (i := 2) rfl)) dX9_readName_147 ?_
            clear hP hS; intro H locs hP hS
            subst eQ
            exact W.vret hx hb hr (fun t ht hW => ⟨⟨((up (up σ 11 0) 10 s10_c42), (up φ 6 f6_c42), γ, ψ), rfl, ⟨0, s10_c42, f6_c42, rfl, rfl, (show (Int32.toInt (σ 10)) ≤ (Int32.toInt s10_c42) ∧ (Int32.toInt s10_c42) ≤ (Int32.toInt (σ 10)) + 20004 from (by omega)), (show ∀ i : Nat, i < 300 → (i : Int) < (Int32.toInt s10_c42) → Int32.toInt (f6_c42 i) < i from (by with_reducible assumption)), (show 0 ≤ (Int32.toInt 0) ∧ (Int32.toInt 0) ≤ 30 ∧ (Int32.toInt 0) ≤ (Int32.toInt (σ 6)) - (Int32.toInt (σ 5)) from (by have := L_0; omega))⟩, (by show va_P _ _ _ _; rw [ht]; exact hP)⟩, hS.F ht⟩) hS.2.2 dX9_readName_150
        · have kc_2 := bI_nle rfl rfl c_2
          refine lv_aload_n hx hb dX9_readName_104 rfl (lv_at hl 0 rfl) ?_
          refine lv_iconst (v := 3) hx hb dX9_readName_105 (by decide) ?_
          refine lv_aload_n hx hb dX9_readName_106 rfl (lv_at hl 0 rfl) ?_
          refine mg_0_47 hx hb hts hinX9 hown hK hP (hts (.fieldLink RX9 77 "CensusDeskModel" "signAt" "[I") (List.mem_of_getElem? (i := 5) rfl)) dX9_readName_107 ?_
          refine lv_iload_n hx hb dX9_readName_110 rfl (lv_at hl 1 rfl) ?_
          refine ml_23 (f := (ψ 15)) hx hb hK hP (i := i) (vin rfl (by omega)) rfl dX9_readName_111 ?_
          refine lv_topi (fun z_5 ez_5 => ?_)
          refine lv_iconst (v := (-1)) hx hb dX9_readName_112 (by decide) ?_
          refine m_calli (va_runV (As := [.int 3, .int z_5, .int (-1)]) (rest := []) ⟨hx, hb, hml, hown, hts⟩ (c_X9_failField l dC dI a κ (up (up σ 11 s11_c42) 10 s10_c42) (up φ 6 f6_c42) γ ψ 3 z_5 (-1) (show 1 ≤ (Int32.toInt 3) ∧ (Int32.toInt 3) ≤ 21 from (by have := L_3; omega)) (show (Int32.toInt (-1)) < (Int32.toInt s10_c42) from (by have := L_m1; omega)) (show 0 ≤ (Int32.toInt s10_c42) ∧ (Int32.toInt s10_c42) ≤ 1999999960 from (by omega)) (show ∀ i : Nat, i < 300 → (i : Int) < (Int32.toInt s10_c42) → Int32.toInt (f6_c42 i) < i from (by with_reducible assumption))) (cwV 3 hts gX9_readName_X9_failField rfl rfl rfl ⟨rfl, hd_X9_failField⟩ ⟨Nat.le_of_ble_eq_true rfl, Nat.le_of_ble_eq_true rfl⟩) (mPreV hP hK hI hN hS (va_recv hK hP (ci := 9) (q0 := 0) rfl rfl)) rfl rfl hl.1 rfl (lv_room (Nat.le_of_ble_eq_true rfl)) dX9_readName_113 ⟨(by decide +kernel), (by decide +kernel)⟩) hS ?_
          clear hP hS; intro r_6 S_6 F_6 γ_6 ψ_6 H locs hw hP hS
          obtain ⟨s10_6, f6_6, rfl, rfl, (qf_6 : (Int32.toInt s10_c42) ≤ (Int32.toInt s10_6) ∧ (Int32.toInt s10_6) ≤ (Int32.toInt s10_c42) + 4), (qc_6 : ∀ i : Nat, i < 300 → (i : Int) < (Int32.toInt s10_6) → Int32.toInt (f6_6 i) < i)⟩ := hw
          have hLm1_6 := L_m1
          have hL3_6 := L_3
          refine lv_istore_n (lv' := [(3, .int r_6), (0, .ref (a 0)), (2, .int i)]) hx hb dX9_readName_116 rfl hl (by decide) rfl ?_
          clear hl; intro ls hl
          refine lv_aload_n hx hb dX9_readName_117 rfl (lv_at hl 1 rfl) ?_
          refine lv_aload_n hx hb dX9_readName_118 rfl (lv_at hl 1 rfl) ?_
          refine mg_0_21 (v := (γ_6 10)) hx hb hts hinX9 hown hK hP (hts (.fieldLink RX9 184 "CensusDeskModel" "fieldLost" "Z") (List.mem_of_getElem? (i := 1) rfl)) rfl dX9_readName_119 ?_
          refine lv_if_eq (tgt := 129) hx hb dX9_readName_122 (by decide) (fun c_7 => ?_) (fun c_7 => ?_)
          · have kc_7 := bI_eq rfl L_0 c_7
            refine lv_aload_n hx hb dX9_readName_129 rfl (lv_at hl 1 rfl) ?_
            refine mg_0_48 (v := s11_c42) hx hb hts hinX9 hown hK hP (hts (.fieldLink RX9 191 "CensusDeskModel" "signs" "I") (List.mem_of_getElem? (i := 2) rfl)) rfl dX9_readName_130 ?_
            refine lv_bipush (v := 30) hx hb dX9_readName_133 (by decide) ?_
            refine lv_icmp_le (tgt := 143) hx hb dX9_readName_135 (by decide) (fun c_8 => ?_) (fun c_8 => ?_)
            · have kc_8 := bI_le rfl L_30 c_8
              refine lv_aload_n hx hb dX9_readName_143 rfl (lv_at hl 1 rfl) ?_
              refine mg_0_48 (v := s11_c42) hx hb hts hinX9 hown hK hP (hts (.fieldLink RX9 191 "CensusDeskModel" "signs" "I") (List.mem_of_getElem? (i := 2) rfl)) rfl dX9_readName_144 ?_
              refine mp_0_48 (v := s11_c42) hx hb hts hinX9 hown hK hP hI hS (hts (.fieldLink RX9 191 "CensusDeskModel" "signs" "I") (List.mem_of_getElem? (i := 2) rfl)) dX9_readName_147 ?_
              clear hP hS; intro H locs hP hS
              subst eQ
              exact W.vret hx hb hr (fun t ht hW => ⟨⟨((up (up σ 11 s11_c42) 10 s10_6), (up φ 6 f6_6), γ_6, ψ_6), rfl, ⟨s11_c42, s10_6, f6_6, rfl, rfl, (show (Int32.toInt (σ 10)) ≤ (Int32.toInt s10_6) ∧ (Int32.toInt s10_6) ≤ (Int32.toInt (σ 10)) + 20004 from (by omega)), (show ∀ i : Nat, i < 300 → (i : Int) < (Int32.toInt s10_6) → Int32.toInt (f6_6 i) < i from (by with_reducible assumption)), (show 0 ≤ (Int32.toInt s11_c42) ∧ (Int32.toInt s11_c42) ≤ 30 ∧ (Int32.toInt s11_c42) ≤ (Int32.toInt (σ 6)) - (Int32.toInt (σ 5)) from (by omega))⟩, (by show va_P _ _ _ _; rw [ht]; exact hP)⟩, hS.F ht⟩) hS.2.2 dX9_readName_150
            · have kc_8 := bI_nle rfl L_30 c_8
              refine lv_bipush (v := 30) hx hb dX9_readName_138 (by decide) ?_
              refine lv_goto (tgt := 147) hx hb dX9_readName_140 (by decide) ?_
              refine mp_0_48 (v := 30) hx hb hts hinX9 hown hK hP hI hS (hts (.fieldLink RX9 191 "CensusDeskModel" "signs" "I") (List.mem_of_getElem? (i := 2) rfl)) dX9_readName_147 ?_
              clear hP hS; intro H locs hP hS
              subst eQ
              exact W.vret hx hb hr (fun t ht hW => ⟨⟨((up (up σ 11 30) 10 s10_6), (up φ 6 f6_6), γ_6, ψ_6), rfl, ⟨30, s10_6, f6_6, rfl, rfl, (show (Int32.toInt (σ 10)) ≤ (Int32.toInt s10_6) ∧ (Int32.toInt s10_6) ≤ (Int32.toInt (σ 10)) + 20004 from (by omega)), (show ∀ i : Nat, i < 300 → (i : Int) < (Int32.toInt s10_6) → Int32.toInt (f6_6 i) < i from (by with_reducible assumption)), (show 0 ≤ (Int32.toInt 30) ∧ (Int32.toInt 30) ≤ 30 ∧ (Int32.toInt 30) ≤ (Int32.toInt (σ 6)) - (Int32.toInt (σ 5)) from (by have := L_30; omega))⟩, (by show va_P _ _ _ _; rw [ht]; exact hP)⟩, hS.F ht⟩) hS.2.2 dX9_readName_150
          · have kc_7 := bI_ne rfl L_0 c_7
            refine lv_iconst (v := 0) hx hb dX9_readName_125 (by decide) ?_
            refine lv_goto (tgt := 147) hx hb dX9_readName_126 (by decide) ?_
            refine mp_0_48 (v := 0) hx hb hts hinX9 hown hK hP hI hS (hts (.fieldLink RX9 191 "CensusDeskModel" "signs" "I") (List.mem_of_getElem? (i := 2) rfl)) dX9_readName_147 ?_
            clear hP hS; intro H locs hP hS
            subst eQ
            exact W.vret hx hb hr (fun t ht hW => ⟨⟨((up (up σ 11 0) 10 s10_6), (up φ 6 f6_6), γ_6, ψ_6), rfl, ⟨0, s10_6, f6_6, rfl, rfl, (show (Int32.toInt (σ 10)) ≤ (Int32.toInt s10_6) ∧ (Int32.toInt s10_6) ≤ (Int32.toInt (σ 10)) + 20004 from (by omega)), (show ∀ i : Nat, i < 300 → (i : Int) < (Int32.toInt s10_6) → Int32.toInt (f6_6 i) < i from (by with_reducible assumption)), (show 0 ≤ (Int32.toInt 0) ∧ (Int32.toInt 0) ≤ 30 ∧ (Int32.toInt 0) ≤ (Int32.toInt (σ 6)) - (Int32.toInt (σ 5)) from (by have := L_0; omega))⟩, (by show va_P _ _ _ _; rw [ht]; exact hP)⟩, hS.F ht⟩) hS.2.2 dX9_readName_150
      · have kc_1 := bI_nle rfl rfl c_1
        refine lv_iload_n hx hb dX9_readName_50 rfl (lv_at hl 1 rfl) ?_
        refine lv_bipush (v := 30) hx hb dX9_readName_51 (by decide) ?_
        refine lv_icmp_ge (tgt := 96) hx hb dX9_readName_53 (by decide) (fun c_9 => ?_) (fun c_9 => ?_)
        · have kc_9 := bI_le L_30 rfl c_9
          refine lv_iload_n hx hb dX9_readName_96 rfl (lv_at hl 1 rfl) ?_
          refine lv_aload_n hx hb dX9_readName_97 rfl (lv_at hl 0 rfl) ?_
          refine mg_0_48 (v := s11_c42) hx hb hts hinX9 hown hK hP (hts (.fieldLink RX9 191 "CensusDeskModel" "signs" "I") (List.mem_of_getElem? (i := 2) rfl)) rfl dX9_readName_98 ?_
          refine lv_icmp_ge (tgt := 117) hx hb dX9_readName_101 (by decide) (fun c_10 => ?_) (fun c_10 => ?_)
          · have kc_10 := bI_le rfl rfl c_10
            refine lv_aload_n hx hb dX9_readName_117 rfl (lv_at hl 0 rfl) ?_
            refine lv_aload_n hx hb dX9_readName_118 rfl (lv_at hl 0 rfl) ?_
            refine mg_0_21 (v := (γ 10)) hx hb hts hinX9 hown hK hP (hts (.fieldLink RX9 184 "CensusDeskModel" "fieldLost" "Z") (List.mem_of_getElem? (i := 1) rfl)) rfl dX9_readName_119 ?_
            refine lv_if_eq (tgt := 129) hx hb dX9_readName_122 (by decide) (fun c_11 => ?_) (fun c_11 => ?_)
            · have kc_11 := bI_eq rfl L_0 c_11
              refine lv_aload_n hx hb dX9_readName_129 rfl (lv_at hl 0 rfl) ?_
              refine mg_0_48 (v := s11_c42) hx hb hts hinX9 hown hK hP (hts (.fieldLink RX9 191 "CensusDeskModel" "signs" "I") (List.mem_of_getElem? (i := 2) rfl)) rfl dX9_readName_130 ?_
              refine lv_bipush (v := 30) hx hb dX9_readName_133 (by decide) ?_
              refine lv_icmp_le (tgt := 143) hx hb dX9_readName_135 (by decide) (fun c_12 => ?_) (fun c_12 => ?_)
              · have kc_12 := bI_le rfl L_30 c_12
                refine lv_aload_n hx hb dX9_readName_143 rfl (lv_at hl 0 rfl) ?_
                refine mg_0_48 (v := s11_c42) hx hb hts hinX9 hown hK hP (hts (.fieldLink RX9 191 "CensusDeskModel" "signs" "I") (List.mem_of_getElem? (i := 2) rfl)) rfl dX9_readName_144 ?_
                refine mp_0_48 (v := s11_c42) hx hb hts hinX9 hown hK hP hI hS (hts (.fieldLink RX9 191 "CensusDeskModel" "signs" "I") (List.mem_of_getElem? (i := 2) rfl)) dX9_readName_147 ?_
                clear hP hS; intro H locs hP hS
                subst eQ
                exact W.vret hx hb hr (fun t ht hW => ⟨⟨((up (up σ 11 s11_c42) 10 s10_c42), (up φ 6 f6_c42), γ, ψ), rfl, ⟨s11_c42, s10_c42, f6_c42, rfl, rfl, (show (Int32.toInt (σ 10)) ≤ (Int32.toInt s10_c42) ∧ (Int32.toInt s10_c42) ≤ (Int32.toInt (σ 10)) + 20004 from (by omega)), (show ∀ i : Nat, i < 300 → (i : Int) < (Int32.toInt s10_c42) → Int32.toInt (f6_c42 i) < i from (by with_reducible assumption)), (show 0 ≤ (Int32.toInt s11_c42) ∧ (Int32.toInt s11_c42) ≤ 30 ∧ (Int32.toInt s11_c42) ≤ (Int32.toInt (σ 6)) - (Int32.toInt (σ 5)) from (by omega))⟩, (by show va_P _ _ _ _; rw [ht]; exact hP)⟩, hS.F ht⟩) hS.2.2 dX9_readName_150
              · have kc_12 := bI_nle rfl L_30 c_12
                refine lv_bipush (v := 30) hx hb dX9_readName_138 (by decide) ?_
                refine lv_goto (tgt := 147) hx hb dX9_readName_140 (by decide) ?_
                refine mp_0_48 (v := 30) hx hb hts hinX9 hown hK hP hI hS (hts (.fieldLink RX9 191 "CensusDeskModel" "signs" "I") (List.mem_of_getElem? (i := 2) rfl)) dX9_readName_147 ?_
                clear hP hS; intro H locs hP hS
                subst eQ
                exact W.vret hx hb hr (fun t ht hW => ⟨⟨((up (up σ 11 30) 10 s10_c42), (up φ 6 f6_c42), γ, ψ), rfl, ⟨30, s10_c42, f6_c42, rfl, rfl, (show (Int32.toInt (σ 10)) ≤ (Int32.toInt s10_c42) ∧ (Int32.toInt s10_c42) ≤ (Int32.toInt (σ 10)) + 20004 from (by omega)), (show ∀ i : Nat, i < 300 → (i : Int) < (Int32.toInt s10_c42) → Int32.toInt (f6_c42 i) < i from (by with_reducible assumption)), (show 0 ≤ (Int32.toInt 30) ∧ (Int32.toInt 30) ≤ 30 ∧ (Int32.toInt 30) ≤ (Int32.toInt (σ 6)) - (Int32.toInt (σ 5)) from (by have := L_30; omega))⟩, (by show va_P _ _ _ _; rw [ht]; exact hP)⟩, hS.F ht⟩) hS.2.2 dX9_readName_150
            · have kc_11 := bI_ne rfl L_0 c_11
              refine lv_iconst (v := 0) hx hb dX9_readName_125 (by decide) ?_
              refine lv_goto (tgt := 147) hx hb dX9_readName_126 (by decide) ?_
              refine mp_0_48 (v := 0) hx hb hts hinX9 hown hK hP hI hS (hts (.fieldLink RX9 191 "CensusDeskModel" "signs" "I") (List.mem_of_getElem? (i := 2) rfl)) dX9_readName_147 ?_
              clear hP hS; intro H locs hP hS
              subst eQ
              exact W.vret hx hb hr (fun t ht hW => ⟨⟨((up (up σ 11 0) 10 s10_c42), (up φ 6 f6_c42), γ, ψ), rfl, ⟨0, s10_c42, f6_c42, rfl, rfl, (show (Int32.toInt (σ 10)) ≤ (Int32.toInt s10_c42) ∧ (Int32.toInt s10_c42) ≤ (Int32.toInt (σ 10)) + 20004 from (by omega)), (show ∀ i : Nat, i < 300 → (i : Int) < (Int32.toInt s10_c42) → Int32.toInt (f6_c42 i) < i from (by with_reducible assumption)), (show 0 ≤ (Int32.toInt 0) ∧ (Int32.toInt 0) ≤ 30 ∧ (Int32.toInt 0) ≤ (Int32.toInt (σ 6)) - (Int32.toInt (σ 5)) from (by have := L_0; omega))⟩, (by show va_P _ _ _ _; rw [ht]; exact hP)⟩, hS.F ht⟩) hS.2.2 dX9_readName_150
          · have kc_10 := bI_nle rfl rfl c_10
            refine lv_aload_n hx hb dX9_readName_104 rfl (lv_at hl 0 rfl) ?_
            refine lv_iconst (v := 3) hx hb dX9_readName_105 (by decide) ?_
            refine lv_aload_n hx hb dX9_readName_106 rfl (lv_at hl 0 rfl) ?_
            refine mg_0_47 hx hb hts hinX9 hown hK hP (hts (.fieldLink RX9 77 "CensusDeskModel" "signAt" "[I") (List.mem_of_getElem? (i := 5) rfl)) dX9_readName_107 ?_
            refine lv_iload_n hx hb dX9_readName_110 rfl (lv_at hl 1 rfl) ?_
            refine ml_23 (f := (ψ 15)) hx hb hK hP (i := i) (vin rfl (by omega)) rfl dX9_readName_111 ?_
            refine lv_topi (fun z_13 ez_13 => ?_)
            refine lv_iconst (v := (-1)) hx hb dX9_readName_112 (by decide) ?_
            refine m_calli (va_runV (As := [.int 3, .int z_13, .int (-1)]) (rest := []) ⟨hx, hb, hml, hown, hts⟩ (c_X9_failField l dC dI a κ (up (up σ 11 s11_c42) 10 s10_c42) (up φ 6 f6_c42) γ ψ 3 z_13 (-1) (show 1 ≤ (Int32.toInt 3) ∧ (Int32.toInt 3) ≤ 21 from (by have := L_3; omega)) (show (Int32.toInt (-1)) < (Int32.toInt s10_c42) from (by have := L_m1; omega)) (show 0 ≤ (Int32.toInt s10_c42) ∧ (Int32.toInt s10_c42) ≤ 1999999960 from (by omega)) (show ∀ i : Nat, i < 300 → (i : Int) < (Int32.toInt s10_c42) → Int32.toInt (f6_c42 i) < i from (by with_reducible assumption))) (cwV 3 hts gX9_readName_X9_failField rfl rfl rfl ⟨rfl, hd_X9_failField⟩ ⟨Nat.le_of_ble_eq_true rfl, Nat.le_of_ble_eq_true rfl⟩) (mPreV hP hK hI hN hS (va_recv hK hP (ci := 9) (q0 := 0) rfl rfl)) rfl rfl hl.1 rfl (lv_room (Nat.le_of_ble_eq_true rfl)) dX9_readName_113 ⟨(by decide +kernel), (by decide +kernel)⟩) hS ?_
            clear hP hS; intro r_14 S_14 F_14 γ_14 ψ_14 H locs hw hP hS
            obtain ⟨s10_14, f6_14, rfl, rfl, (qf_14 : (Int32.toInt s10_c42) ≤ (Int32.toInt s10_14) ∧ (Int32.toInt s10_14) ≤ (Int32.toInt s10_c42) + 4), (qc_14 : ∀ i : Nat, i < 300 → (i : Int) < (Int32.toInt s10_14) → Int32.toInt (f6_14 i) < i)⟩ := hw
            have hLm1_14 := L_m1
            have hL3_14 := L_3
            refine lv_istore_n (lv' := [(3, .int r_14), (0, .ref (a 0)), (2, .int i)]) hx hb dX9_readName_116 rfl hl (by decide) rfl ?_
            clear hl; intro ls hl
            refine lv_aload_n hx hb dX9_readName_117 rfl (lv_at hl 1 rfl) ?_
            refine lv_aload_n hx hb dX9_readName_118 rfl (lv_at hl 1 rfl) ?_
            refine mg_0_21 (v := (γ_14 10)) hx hb hts hinX9 hown hK hP (hts (.fieldLink RX9 184 "CensusDeskModel" "fieldLost" "Z") (List.mem_of_getElem? (i := 1) rfl)) rfl dX9_readName_119 ?_
            refine lv_if_eq (tgt := 129) hx hb dX9_readName_122 (by decide) (fun c_15 => ?_) (fun c_15 => ?_)
            · have kc_15 := bI_eq rfl L_0 c_15
              refine lv_aload_n hx hb dX9_readName_129 rfl (lv_at hl 1 rfl) ?_
              refine mg_0_48 (v := s11_c42) hx hb hts hinX9 hown hK hP (hts (.fieldLink RX9 191 "CensusDeskModel" "signs" "I") (List.mem_of_getElem? (i := 2) rfl)) rfl dX9_readName_130 ?_
              refine lv_bipush (v := 30) hx hb dX9_readName_133 (by decide) ?_
              refine lv_icmp_le (tgt := 143) hx hb dX9_readName_135 (by decide) (fun c_16 => ?_) (fun c_16 => ?_)
              · have kc_16 := bI_le rfl L_30 c_16
                refine lv_aload_n hx hb dX9_readName_143 rfl (lv_at hl 1 rfl) ?_
                refine mg_0_48 (v := s11_c42) hx hb hts hinX9 hown hK hP (hts (.fieldLink RX9 191 "CensusDeskModel" "signs" "I") (List.mem_of_getElem? (i := 2) rfl)) rfl dX9_readName_144 ?_
                refine mp_0_48 (v := s11_c42) hx hb hts hinX9 hown hK hP hI hS (hts (.fieldLink RX9 191 "CensusDeskModel" "signs" "I") (List.mem_of_getElem? (i := 2) rfl)) dX9_readName_147 ?_
                clear hP hS; intro H locs hP hS
                subst eQ
                exact W.vret hx hb hr (fun t ht hW => ⟨⟨((up (up σ 11 s11_c42) 10 s10_14), (up φ 6 f6_14), γ_14, ψ_14), rfl, ⟨s11_c42, s10_14, f6_14, rfl, rfl, (show (Int32.toInt (σ 10)) ≤ (Int32.toInt s10_14) ∧ (Int32.toInt s10_14) ≤ (Int32.toInt (σ 10)) + 20004 from (by omega)), (show ∀ i : Nat, i < 300 → (i : Int) < (Int32.toInt s10_14) → Int32.toInt (f6_14 i) < i from (by with_reducible assumption)), (show 0 ≤ (Int32.toInt s11_c42) ∧ (Int32.toInt s11_c42) ≤ 30 ∧ (Int32.toInt s11_c42) ≤ (Int32.toInt (σ 6)) - (Int32.toInt (σ 5)) from (by omega))⟩, (by show va_P _ _ _ _; rw [ht]; exact hP)⟩, hS.F ht⟩) hS.2.2 dX9_readName_150
              · have kc_16 := bI_nle rfl L_30 c_16
                refine lv_bipush (v := 30) hx hb dX9_readName_138 (by decide) ?_
                refine lv_goto (tgt := 147) hx hb dX9_readName_140 (by decide) ?_
                refine mp_0_48 (v := 30) hx hb hts hinX9 hown hK hP hI hS (hts (.fieldLink RX9 191 "CensusDeskModel" "signs" "I") (List.mem_of_getElem? (i := 2) rfl)) dX9_readName_147 ?_
                clear hP hS; intro H locs hP hS
                subst eQ
                exact W.vret hx hb hr (fun t ht hW => ⟨⟨((up (up σ 11 30) 10 s10_14), (up φ 6 f6_14), γ_14, ψ_14), rfl, ⟨30, s10_14, f6_14, rfl, rfl, (show (Int32.toInt (σ 10)) ≤ (Int32.toInt s10_14) ∧ (Int32.toInt s10_14) ≤ (Int32.toInt (σ 10)) + 20004 from (by omega)), (show ∀ i : Nat, i < 300 → (i : Int) < (Int32.toInt s10_14) → Int32.toInt (f6_14 i) < i from (by with_reducible assumption)), (show 0 ≤ (Int32.toInt 30) ∧ (Int32.toInt 30) ≤ 30 ∧ (Int32.toInt 30) ≤ (Int32.toInt (σ 6)) - (Int32.toInt (σ 5)) from (by have := L_30; omega))⟩, (by show va_P _ _ _ _; rw [ht]; exact hP)⟩, hS.F ht⟩) hS.2.2 dX9_readName_150
            · have kc_15 := bI_ne rfl L_0 c_15
              refine lv_iconst (v := 0) hx hb dX9_readName_125 (by decide) ?_
              refine lv_goto (tgt := 147) hx hb dX9_readName_126 (by decide) ?_
              refine mp_0_48 (v := 0) hx hb hts hinX9 hown hK hP hI hS (hts (.fieldLink RX9 191 "CensusDeskModel" "signs" "I") (List.mem_of_getElem? (i := 2) rfl)) dX9_readName_147 ?_
              clear hP hS; intro H locs hP hS
              subst eQ
              exact W.vret hx hb hr (fun t ht hW => ⟨⟨((up (up σ 11 0) 10 s10_14), (up φ 6 f6_14), γ_14, ψ_14), rfl, ⟨0, s10_14, f6_14, rfl, rfl, (show (Int32.toInt (σ 10)) ≤ (Int32.toInt s10_14) ∧ (Int32.toInt s10_14) ≤ (Int32.toInt (σ 10)) + 20004 from (by omega)), (show ∀ i : Nat, i < 300 → (i : Int) < (Int32.toInt s10_14) → Int32.toInt (f6_14 i) < i from (by with_reducible assumption)), (show 0 ≤ (Int32.toInt 0) ∧ (Int32.toInt 0) ≤ 30 ∧ (Int32.toInt 0) ≤ (Int32.toInt (σ 6)) - (Int32.toInt (σ 5)) from (by have := L_0; omega))⟩, (by show va_P _ _ _ _; rw [ht]; exact hP)⟩, hS.F ht⟩) hS.2.2 dX9_readName_150
        · have kc_9 := bI_nle L_30 rfl c_9
          refine lv_aload_n hx hb dX9_readName_56 rfl (lv_at hl 0 rfl) ?_
          refine mg_0_46 hx hb hts hinX9 hown hK hP (hts (.fieldLink RX9 74 "CensusDeskModel" "sign" "[I") (List.mem_of_getElem? (i := 4) rfl)) dX9_readName_57 ?_
          refine lv_iload_n hx hb dX9_readName_60 rfl (lv_at hl 1 rfl) ?_
          refine ml_22 (f := (ψ 14)) hx hb hK hP (i := i) (vin rfl (by omega)) rfl dX9_readName_61 ?_
          refine lv_topi (fun z_17 ez_17 => ?_)
          refine m_calli (va_runS (As := [.int z_17]) (rest := []) ⟨hx, hb, hml, hown, hts⟩ (c_X9_isLetter l dC dI a κ (up (up σ 11 s11_c42) 10 s10_c42) (up φ 6 f6_c42) γ ψ z_17 ) (va_cwS 1 hts gX9_readName_X9_isLetter rfl rfl rfl hd_X9_isLetter ⟨Nat.le_of_ble_eq_true rfl, Nat.le_of_ble_eq_true rfl⟩) (mPreS hP hK hI hN hS) rfl rfl hl.1 rfl (lv_room (Nat.le_of_ble_eq_true rfl)) dX9_readName_62 ⟨(by decide +kernel), (by decide +kernel)⟩) hS ?_
          clear hP hS; intro r_18 S_18 F_18 γ_18 ψ_18 H locs hw hP hS
          obtain ⟨rfl, rfl, -⟩ := hw
          refine lv_if_ne (tgt := 90) hx hb dX9_readName_65 (by decide) (fun c_19 => ?_) (fun c_19 => ?_)
          · have kc_19 := bI_ne rfl L_0 c_19
            obtain ⟨i_20, ei_20⟩ : ∃ z : Int32, z = i + 1 := ⟨_, rfl⟩
            refine lv_iinc (v := i_20) (lv' := [(2, .int i_20), (0, .ref (a 0))]) hx hb dX9_readName_90 hl (k := 1) rfl (by rw [ei_20]; rfl) (by decide) rfl ?_
            clear hl; intro ls hl
            have ti_20 : (Int32.toInt i_20) = (Int32.toInt i) + 1 := aI_add rfl L_1 ei_20 (by have := rng i; have := rng s11_c42; omega)
            refine lv_goto (tgt := 42) hx hb dX9_readName_93 (by decide) ?_
            exact ih42 i_20 s11_c42 s10_c42 f6_c42 γ_18 ψ_18 _ _ _ (show 0 ≤ (Int32.toInt i_20) from (by omega)) (show 0 ≤ (Int32.toInt s11_c42) ∧ (Int32.toInt s11_c42) ≤ (Int32.toInt (σ 6)) - (Int32.toInt (σ 5)) from (by omega)) (show (Int32.toInt (σ 10)) ≤ (Int32.toInt s10_c42) ∧ (Int32.toInt s10_c42) ≤ (Int32.toInt (σ 10)) + 20000 from (by omega)) (show ∀ i : Nat, i < 300 → (i : Int) < (Int32.toInt s10_c42) → Int32.toInt (f6_c42 i) < i from (by with_reducible assumption)) (by omega) hP hS (lv_sub hl [1, 0] rfl)
          · have kc_19 := bI_eq rfl L_0 c_19
            refine lv_aload_n hx hb dX9_readName_68 rfl (lv_at hl 0 rfl) ?_
            refine mg_0_46 hx hb hts hinX9 hown hK hP (hts (.fieldLink RX9 74 "CensusDeskModel" "sign" "[I") (List.mem_of_getElem? (i := 4) rfl)) dX9_readName_69 ?_
            refine lv_iload_n hx hb dX9_readName_72 rfl (lv_at hl 1 rfl) ?_
            refine ml_22 (f := (ψ_18 14)) hx hb hK hP (i := i) (vin rfl (by omega)) rfl dX9_readName_73 ?_
            refine lv_topi (fun z_21 ez_21 => ?_)
            refine lv_bipush (v := 32) hx hb dX9_readName_74 (by decide) ?_
            refine lv_icmp_eq (tgt := 90) hx hb dX9_readName_76 (by decide) (fun c_22 => ?_) (fun c_22 => ?_)
            · have kc_22 := bI_eq rfl L_32 c_22
              obtain ⟨i_23, ei_23⟩ : ∃ z : Int32, z = i + 1 := ⟨_, rfl⟩
              refine lv_iinc (v := i_23) (lv' := [(2, .int i_23), (0, .ref (a 0))]) hx hb dX9_readName_90 hl (k := 1) rfl (by rw [ei_23]; rfl) (by decide) rfl ?_
              clear hl; intro ls hl
              have ti_23 : (Int32.toInt i_23) = (Int32.toInt i) + 1 := aI_add rfl L_1 ei_23 (by have := rng i; have := rng s11_c42; omega)
              refine lv_goto (tgt := 42) hx hb dX9_readName_93 (by decide) ?_
              exact ih42 i_23 s11_c42 s10_c42 f6_c42 γ_18 ψ_18 _ _ _ (show 0 ≤ (Int32.toInt i_23) from (by omega)) (show 0 ≤ (Int32.toInt s11_c42) ∧ (Int32.toInt s11_c42) ≤ (Int32.toInt (σ 6)) - (Int32.toInt (σ 5)) from (by omega)) (show (Int32.toInt (σ 10)) ≤ (Int32.toInt s10_c42) ∧ (Int32.toInt s10_c42) ≤ (Int32.toInt (σ 10)) + 20000 from (by omega)) (show ∀ i : Nat, i < 300 → (i : Int) < (Int32.toInt s10_c42) → Int32.toInt (f6_c42 i) < i from (by with_reducible assumption)) (by omega) hP hS (lv_sub hl [1, 0] rfl)
            · have kc_22 := bI_ne rfl L_32 c_22
              refine lv_aload_n hx hb dX9_readName_79 rfl (lv_at hl 0 rfl) ?_
              refine mg_0_46 hx hb hts hinX9 hown hK hP (hts (.fieldLink RX9 74 "CensusDeskModel" "sign" "[I") (List.mem_of_getElem? (i := 4) rfl)) dX9_readName_80 ?_
              refine lv_iload_n hx hb dX9_readName_83 rfl (lv_at hl 1 rfl) ?_
              refine ml_22 (f := (ψ_18 14)) hx hb hK hP (i := i) (vin rfl (by omega)) rfl dX9_readName_84 ?_
              refine lv_topi (fun z_24 ez_24 => ?_)
              refine lv_bipush (v := 45) hx hb dX9_readName_85 (by decide) ?_
              refine lv_icmp_ne (tgt := 96) hx hb dX9_readName_87 (by decide) (fun c_25 => ?_) (fun c_25 => ?_)
              · have kc_25 := bI_ne rfl L_45 c_25
                refine lv_iload_n hx hb dX9_readName_96 rfl (lv_at hl 1 rfl) ?_
                refine lv_aload_n hx hb dX9_readName_97 rfl (lv_at hl 0 rfl) ?_
                refine mg_0_48 (v := s11_c42) hx hb hts hinX9 hown hK hP (hts (.fieldLink RX9 191 "CensusDeskModel" "signs" "I") (List.mem_of_getElem? (i := 2) rfl)) rfl dX9_readName_98 ?_
                refine lv_icmp_ge (tgt := 117) hx hb dX9_readName_101 (by decide) (fun c_26 => ?_) (fun c_26 => ?_)
                · have kc_26 := bI_le rfl rfl c_26
                  refine lv_aload_n hx hb dX9_readName_117 rfl (lv_at hl 0 rfl) ?_
                  refine lv_aload_n hx hb dX9_readName_118 rfl (lv_at hl 0 rfl) ?_
                  refine mg_0_21 (v := (γ_18 10)) hx hb hts hinX9 hown hK hP (hts (.fieldLink RX9 184 "CensusDeskModel" "fieldLost" "Z") (List.mem_of_getElem? (i := 1) rfl)) rfl dX9_readName_119 ?_
                  refine lv_if_eq (tgt := 129) hx hb dX9_readName_122 (by decide) (fun c_27 => ?_) (fun c_27 => ?_)
                  · have kc_27 := bI_eq rfl L_0 c_27
                    refine lv_aload_n hx hb dX9_readName_129 rfl (lv_at hl 0 rfl) ?_
                    refine mg_0_48 (v := s11_c42) hx hb hts hinX9 hown hK hP (hts (.fieldLink RX9 191 "CensusDeskModel" "signs" "I") (List.mem_of_getElem? (i := 2) rfl)) rfl dX9_readName_130 ?_
                    refine lv_bipush (v := 30) hx hb dX9_readName_133 (by decide) ?_
                    refine lv_icmp_le (tgt := 143) hx hb dX9_readName_135 (by decide) (fun c_28 => ?_) (fun c_28 => ?_)
                    · have kc_28 := bI_le rfl L_30 c_28
                      refine lv_aload_n hx hb dX9_readName_143 rfl (lv_at hl 0 rfl) ?_
                      refine mg_0_48 (v := s11_c42) hx hb hts hinX9 hown hK hP (hts (.fieldLink RX9 191 "CensusDeskModel" "signs" "I") (List.mem_of_getElem? (i := 2) rfl)) rfl dX9_readName_144 ?_
                      refine mp_0_48 (v := s11_c42) hx hb hts hinX9 hown hK hP hI hS (hts (.fieldLink RX9 191 "CensusDeskModel" "signs" "I") (List.mem_of_getElem? (i := 2) rfl)) dX9_readName_147 ?_
                      clear hP hS; intro H locs hP hS
                      subst eQ
                      exact W.vret hx hb hr (fun t ht hW => ⟨⟨((up (up σ 11 s11_c42) 10 s10_c42), (up φ 6 f6_c42), γ_18, ψ_18), rfl, ⟨s11_c42, s10_c42, f6_c42, rfl, rfl, (show (Int32.toInt (σ 10)) ≤ (Int32.toInt s10_c42) ∧ (Int32.toInt s10_c42) ≤ (Int32.toInt (σ 10)) + 20004 from (by omega)), (show ∀ i : Nat, i < 300 → (i : Int) < (Int32.toInt s10_c42) → Int32.toInt (f6_c42 i) < i from (by with_reducible assumption)), (show 0 ≤ (Int32.toInt s11_c42) ∧ (Int32.toInt s11_c42) ≤ 30 ∧ (Int32.toInt s11_c42) ≤ (Int32.toInt (σ 6)) - (Int32.toInt (σ 5)) from (by omega))⟩, (by show va_P _ _ _ _; rw [ht]; exact hP)⟩, hS.F ht⟩) hS.2.2 dX9_readName_150
                    · have kc_28 := bI_nle rfl L_30 c_28
                      refine lv_bipush (v := 30) hx hb dX9_readName_138 (by decide) ?_
                      refine lv_goto (tgt := 147) hx hb dX9_readName_140 (by decide) ?_
                      refine mp_0_48 (v := 30) hx hb hts hinX9 hown hK hP hI hS (hts (.fieldLink RX9 191 "CensusDeskModel" "signs" "I") (List.mem_of_getElem? (i := 2) rfl)) dX9_readName_147 ?_
                      clear hP hS; intro H locs hP hS
                      subst eQ
                      exact W.vret hx hb hr (fun t ht hW => ⟨⟨((up (up σ 11 30) 10 s10_c42), (up φ 6 f6_c42), γ_18, ψ_18), rfl, ⟨30, s10_c42, f6_c42, rfl, rfl, (show (Int32.toInt (σ 10)) ≤ (Int32.toInt s10_c42) ∧ (Int32.toInt s10_c42) ≤ (Int32.toInt (σ 10)) + 20004 from (by omega)), (show ∀ i : Nat, i < 300 → (i : Int) < (Int32.toInt s10_c42) → Int32.toInt (f6_c42 i) < i from (by with_reducible assumption)), (show 0 ≤ (Int32.toInt 30) ∧ (Int32.toInt 30) ≤ 30 ∧ (Int32.toInt 30) ≤ (Int32.toInt (σ 6)) - (Int32.toInt (σ 5)) from (by have := L_30; omega))⟩, (by show va_P _ _ _ _; rw [ht]; exact hP)⟩, hS.F ht⟩) hS.2.2 dX9_readName_150
                  · have kc_27 := bI_ne rfl L_0 c_27
                    refine lv_iconst (v := 0) hx hb dX9_readName_125 (by decide) ?_
                    refine lv_goto (tgt := 147) hx hb dX9_readName_126 (by decide) ?_
                    refine mp_0_48 (v := 0) hx hb hts hinX9 hown hK hP hI hS (hts (.fieldLink RX9 191 "CensusDeskModel" "signs" "I") (List.mem_of_getElem? (i := 2) rfl)) dX9_readName_147 ?_
                    clear hP hS; intro H locs hP hS
                    subst eQ
                    exact W.vret hx hb hr (fun t ht hW => ⟨⟨((up (up σ 11 0) 10 s10_c42), (up φ 6 f6_c42), γ_18, ψ_18), rfl, ⟨0, s10_c42, f6_c42, rfl, rfl, (show (Int32.toInt (σ 10)) ≤ (Int32.toInt s10_c42) ∧ (Int32.toInt s10_c42) ≤ (Int32.toInt (σ 10)) + 20004 from (by omega)), (show ∀ i : Nat, i < 300 → (i : Int) < (Int32.toInt s10_c42) → Int32.toInt (f6_c42 i) < i from (by with_reducible assumption)), (show 0 ≤ (Int32.toInt 0) ∧ (Int32.toInt 0) ≤ 30 ∧ (Int32.toInt 0) ≤ (Int32.toInt (σ 6)) - (Int32.toInt (σ 5)) from (by have := L_0; omega))⟩, (by show va_P _ _ _ _; rw [ht]; exact hP)⟩, hS.F ht⟩) hS.2.2 dX9_readName_150
                · have kc_26 := bI_nle rfl rfl c_26
                  refine lv_aload_n hx hb dX9_readName_104 rfl (lv_at hl 0 rfl) ?_
                  refine lv_iconst (v := 3) hx hb dX9_readName_105 (by decide) ?_
                  refine lv_aload_n hx hb dX9_readName_106 rfl (lv_at hl 0 rfl) ?_
                  refine mg_0_47 hx hb hts hinX9 hown hK hP (hts (.fieldLink RX9 77 "CensusDeskModel" "signAt" "[I") (List.mem_of_getElem? (i := 5) rfl)) dX9_readName_107 ?_
                  refine lv_iload_n hx hb dX9_readName_110 rfl (lv_at hl 1 rfl) ?_
                  refine ml_23 (f := (ψ_18 15)) hx hb hK hP (i := i) (vin rfl (by omega)) rfl dX9_readName_111 ?_
                  refine lv_topi (fun z_29 ez_29 => ?_)
                  refine lv_iconst (v := (-1)) hx hb dX9_readName_112 (by decide) ?_
                  refine m_calli (va_runV (As := [.int 3, .int z_29, .int (-1)]) (rest := []) ⟨hx, hb, hml, hown, hts⟩ (c_X9_failField l dC dI a κ (up (up σ 11 s11_c42) 10 s10_c42) (up φ 6 f6_c42) γ_18 ψ_18 3 z_29 (-1) (show 1 ≤ (Int32.toInt 3) ∧ (Int32.toInt 3) ≤ 21 from (by have := L_3; omega)) (show (Int32.toInt (-1)) < (Int32.toInt s10_c42) from (by have := L_m1; omega)) (show 0 ≤ (Int32.toInt s10_c42) ∧ (Int32.toInt s10_c42) ≤ 1999999960 from (by omega)) (show ∀ i : Nat, i < 300 → (i : Int) < (Int32.toInt s10_c42) → Int32.toInt (f6_c42 i) < i from (by with_reducible assumption))) (cwV 3 hts gX9_readName_X9_failField rfl rfl rfl ⟨rfl, hd_X9_failField⟩ ⟨Nat.le_of_ble_eq_true rfl, Nat.le_of_ble_eq_true rfl⟩) (mPreV hP hK hI hN hS (va_recv hK hP (ci := 9) (q0 := 0) rfl rfl)) rfl rfl hl.1 rfl (lv_room (Nat.le_of_ble_eq_true rfl)) dX9_readName_113 ⟨(by decide +kernel), (by decide +kernel)⟩) hS ?_
                  clear hP hS; intro r_30 S_30 F_30 γ_30 ψ_30 H locs hw hP hS
                  obtain ⟨s10_30, f6_30, rfl, rfl, (qf_30 : (Int32.toInt s10_c42) ≤ (Int32.toInt s10_30) ∧ (Int32.toInt s10_30) ≤ (Int32.toInt s10_c42) + 4), (qc_30 : ∀ i : Nat, i < 300 → (i : Int) < (Int32.toInt s10_30) → Int32.toInt (f6_30 i) < i)⟩ := hw
                  have hLm1_30 := L_m1
                  have hL3_30 := L_3
                  refine lv_istore_n (lv' := [(3, .int r_30), (0, .ref (a 0)), (2, .int i)]) hx hb dX9_readName_116 rfl hl (by decide) rfl ?_
                  clear hl; intro ls hl
                  refine lv_aload_n hx hb dX9_readName_117 rfl (lv_at hl 1 rfl) ?_
                  refine lv_aload_n hx hb dX9_readName_118 rfl (lv_at hl 1 rfl) ?_
                  refine mg_0_21 (v := (γ_30 10)) hx hb hts hinX9 hown hK hP (hts (.fieldLink RX9 184 "CensusDeskModel" "fieldLost" "Z") (List.mem_of_getElem? (i := 1) rfl)) rfl dX9_readName_119 ?_
                  refine lv_if_eq (tgt := 129) hx hb dX9_readName_122 (by decide) (fun c_31 => ?_) (fun c_31 => ?_)
                  · have kc_31 := bI_eq rfl L_0 c_31
                    refine lv_aload_n hx hb dX9_readName_129 rfl (lv_at hl 1 rfl) ?_
                    refine mg_0_48 (v := s11_c42) hx hb hts hinX9 hown hK hP (hts (.fieldLink RX9 191 "CensusDeskModel" "signs" "I") (List.mem_of_getElem? (i := 2) rfl)) rfl dX9_readName_130 ?_
                    refine lv_bipush (v := 30) hx hb dX9_readName_133 (by decide) ?_
                    refine lv_icmp_le (tgt := 143) hx hb dX9_readName_135 (by decide) (fun c_32 => ?_) (fun c_32 => ?_)
                    · have kc_32 := bI_le rfl L_30 c_32
                      refine lv_aload_n hx hb dX9_readName_143 rfl (lv_at hl 1 rfl) ?_
                      refine mg_0_48 (v := s11_c42) hx hb hts hinX9 hown hK hP (hts (.fieldLink RX9 191 "CensusDeskModel" "signs" "I") (List.mem_of_getElem? (i := 2) rfl)) rfl dX9_readName_144 ?_
                      refine mp_0_48 (v := s11_c42) hx hb hts hinX9 hown hK hP hI hS (hts (.fieldLink RX9 191 "CensusDeskModel" "signs" "I") (List.mem_of_getElem? (i := 2) rfl)) dX9_readName_147 ?_
                      clear hP hS; intro H locs hP hS
                      subst eQ
                      exact W.vret hx hb hr (fun t ht hW => ⟨⟨((up (up σ 11 s11_c42) 10 s10_30), (up φ 6 f6_30), γ_30, ψ_30), rfl, ⟨s11_c42, s10_30, f6_30, rfl, rfl, (show (Int32.toInt (σ 10)) ≤ (Int32.toInt s10_30) ∧ (Int32.toInt s10_30) ≤ (Int32.toInt (σ 10)) + 20004 from (by omega)), (show ∀ i : Nat, i < 300 → (i : Int) < (Int32.toInt s10_30) → Int32.toInt (f6_30 i) < i from (by with_reducible assumption)), (show 0 ≤ (Int32.toInt s11_c42) ∧ (Int32.toInt s11_c42) ≤ 30 ∧ (Int32.toInt s11_c42) ≤ (Int32.toInt (σ 6)) - (Int32.toInt (σ 5)) from (by omega))⟩, (by show va_P _ _ _ _; rw [ht]; exact hP)⟩, hS.F ht⟩) hS.2.2 dX9_readName_150
                    · have kc_32 := bI_nle rfl L_30 c_32
                      refine lv_bipush (v := 30) hx hb dX9_readName_138 (by decide) ?_
                      refine lv_goto (tgt := 147) hx hb dX9_readName_140 (by decide) ?_
                      refine mp_0_48 (v := 30) hx hb hts hinX9 hown hK hP hI hS (hts (.fieldLink RX9 191 "CensusDeskModel" "signs" "I") (List.mem_of_getElem? (i := 2) rfl)) dX9_readName_147 ?_
                      clear hP hS; intro H locs hP hS
                      subst eQ
                      exact W.vret hx hb hr (fun t ht hW => ⟨⟨((up (up σ 11 30) 10 s10_30), (up φ 6 f6_30), γ_30, ψ_30), rfl, ⟨30, s10_30, f6_30, rfl, rfl, (show (Int32.toInt (σ 10)) ≤ (Int32.toInt s10_30) ∧ (Int32.toInt s10_30) ≤ (Int32.toInt (σ 10)) + 20004 from (by omega)), (show ∀ i : Nat, i < 300 → (i : Int) < (Int32.toInt s10_30) → Int32.toInt (f6_30 i) < i from (by with_reducible assumption)), (show 0 ≤ (Int32.toInt 30) ∧ (Int32.toInt 30) ≤ 30 ∧ (Int32.toInt 30) ≤ (Int32.toInt (σ 6)) - (Int32.toInt (σ 5)) from (by have := L_30; omega))⟩, (by show va_P _ _ _ _; rw [ht]; exact hP)⟩, hS.F ht⟩) hS.2.2 dX9_readName_150
                  · have kc_31 := bI_ne rfl L_0 c_31
                    refine lv_iconst (v := 0) hx hb dX9_readName_125 (by decide) ?_
                    refine lv_goto (tgt := 147) hx hb dX9_readName_126 (by decide) ?_
                    refine mp_0_48 (v := 0) hx hb hts hinX9 hown hK hP hI hS (hts (.fieldLink RX9 191 "CensusDeskModel" "signs" "I") (List.mem_of_getElem? (i := 2) rfl)) dX9_readName_147 ?_
                    clear hP hS; intro H locs hP hS
                    subst eQ
                    exact W.vret hx hb hr (fun t ht hW => ⟨⟨((up (up σ 11 0) 10 s10_30), (up φ 6 f6_30), γ_30, ψ_30), rfl, ⟨0, s10_30, f6_30, rfl, rfl, (show (Int32.toInt (σ 10)) ≤ (Int32.toInt s10_30) ∧ (Int32.toInt s10_30) ≤ (Int32.toInt (σ 10)) + 20004 from (by omega)), (show ∀ i : Nat, i < 300 → (i : Int) < (Int32.toInt s10_30) → Int32.toInt (f6_30 i) < i from (by with_reducible assumption)), (show 0 ≤ (Int32.toInt 0) ∧ (Int32.toInt 0) ≤ 30 ∧ (Int32.toInt 0) ≤ (Int32.toInt (σ 6)) - (Int32.toInt (σ 5)) from (by have := L_0; omega))⟩, (by show va_P _ _ _ _; rw [ht]; exact hP)⟩, hS.F ht⟩) hS.2.2 dX9_readName_150
              · have kc_25 := bI_eq rfl L_45 c_25
                obtain ⟨i_33, ei_33⟩ : ∃ z : Int32, z = i + 1 := ⟨_, rfl⟩
                refine lv_iinc (v := i_33) (lv' := [(2, .int i_33), (0, .ref (a 0))]) hx hb dX9_readName_90 hl (k := 1) rfl (by rw [ei_33]; rfl) (by decide) rfl ?_
                clear hl; intro ls hl
                have ti_33 : (Int32.toInt i_33) = (Int32.toInt i) + 1 := aI_add rfl L_1 ei_33 (by have := rng i; have := rng s11_c42; omega)
                refine lv_goto (tgt := 42) hx hb dX9_readName_93 (by decide) ?_
                exact ih42 i_33 s11_c42 s10_c42 f6_c42 γ_18 ψ_18 _ _ _ (show 0 ≤ (Int32.toInt i_33) from (by omega)) (show 0 ≤ (Int32.toInt s11_c42) ∧ (Int32.toInt s11_c42) ≤ (Int32.toInt (σ 6)) - (Int32.toInt (σ 5)) from (by omega)) (show (Int32.toInt (σ 10)) ≤ (Int32.toInt s10_c42) ∧ (Int32.toInt s10_c42) ≤ (Int32.toInt (σ 10)) + 20000 from (by omega)) (show ∀ i : Nat, i < 300 → (i : Int) < (Int32.toInt s10_c42) → Int32.toInt (f6_c42 i) < i from (by with_reducible assumption)) (by omega) hP hS (lv_sub hl [1, 0] rfl)
  refine lv_aload_n hx hb dX9_readName_0 rfl (lv_at hl 0 rfl) ?_
  refine lv_iload_n hx hb dX9_readName_1 rfl (lv_at hl 1 rfl) ?_
  refine m_callv (va_runV (As := [.int k]) (rest := []) ⟨hx, hb, hml, hown, hts⟩ (c_X9_readCell l dC dI a κ σ φ γ ψ k (show 0 ≤ (Int32.toInt (σ 5)) ∧ (Int32.toInt (σ 5)) ≤ (Int32.toInt (σ 6)) ∧ (Int32.toInt (σ 6)) ≤ 4000 from (by omega)) (show 0 ≤ (Int32.toInt (σ 10)) ∧ (Int32.toInt (σ 10)) ≤ 1500000000 from (by omega)) (show ∀ i : Nat, i < 300 → (i : Int) < (Int32.toInt (σ 10)) → Int32.toInt ((φ 6) i) < i from (by with_reducible assumption))) (cwV 1 hts gX9_readName_X9_readCell rfl rfl rfl ⟨rfl, hd_X9_readCell⟩ ⟨Nat.le_of_ble_eq_true rfl, Nat.le_of_ble_eq_true rfl⟩) (mPreV hP hK hI hN hS (va_recv hK hP (ci := 9) (q0 := 0) rfl rfl)) rfl rfl hl.1 rfl (lv_room (Nat.le_of_ble_eq_true rfl)) dX9_readName_2 ⟨(by decide +kernel), (by decide +kernel)⟩) hS ?_
  clear hP hS; intro S_34 F_34 γ_34 ψ_34 H locs hw hP hS
  obtain ⟨s11_34, s10_34, f6_34, rfl, rfl, (qf_34 : (Int32.toInt (σ 10)) ≤ (Int32.toInt s10_34) ∧ (Int32.toInt s10_34) ≤ (Int32.toInt (σ 10)) + 20000), (qc_34 : ∀ i : Nat, i < 300 → (i : Int) < (Int32.toInt s10_34) → Int32.toInt (f6_34 i) < i), (qs_34 : 0 ≤ (Int32.toInt s11_34) ∧ (Int32.toInt s11_34) ≤ (Int32.toInt (σ 6)) - (Int32.toInt (σ 5)))⟩ := hw
  refine lv_aload_n hx hb dX9_readName_5 rfl (lv_at hl 0 rfl) ?_
  refine mg_0_21 (v := (γ_34 10)) hx hb hts hinX9 hown hK hP (hts (.fieldLink RX9 184 "CensusDeskModel" "fieldLost" "Z") (List.mem_of_getElem? (i := 1) rfl)) rfl dX9_readName_6 ?_
  refine lv_if_ne (tgt := 33) hx hb dX9_readName_9 (by decide) (fun c_35 => ?_) (fun c_35 => ?_)
  · have kc_35 := bI_ne rfl L_0 c_35
    refine lv_aload_n hx hb dX9_readName_33 rfl (lv_at hl 0 rfl) ?_
    refine mg_0_21 (v := (γ_34 10)) hx hb hts hinX9 hown hK hP (hts (.fieldLink RX9 184 "CensusDeskModel" "fieldLost" "Z") (List.mem_of_getElem? (i := 1) rfl)) rfl dX9_readName_34 ?_
    refine lv_if_ne (tgt := 117) hx hb dX9_readName_37 (by decide) (fun c_36 => ?_) (fun c_36 => ?_)
    · have kc_36 := bI_ne rfl L_0 c_36
      refine lv_aload_n hx hb dX9_readName_117 rfl (lv_at hl 0 rfl) ?_
      refine lv_aload_n hx hb dX9_readName_118 rfl (lv_at hl 0 rfl) ?_
      refine mg_0_21 (v := (γ_34 10)) hx hb hts hinX9 hown hK hP (hts (.fieldLink RX9 184 "CensusDeskModel" "fieldLost" "Z") (List.mem_of_getElem? (i := 1) rfl)) rfl dX9_readName_119 ?_
      refine lv_if_eq (tgt := 129) hx hb dX9_readName_122 (by decide) (fun c_37 => ?_) (fun c_37 => ?_)
      · have kc_37 := bI_eq rfl L_0 c_37
        refine lv_aload_n hx hb dX9_readName_129 rfl (lv_at hl 0 rfl) ?_
        refine mg_0_48 (v := s11_34) hx hb hts hinX9 hown hK hP (hts (.fieldLink RX9 191 "CensusDeskModel" "signs" "I") (List.mem_of_getElem? (i := 2) rfl)) rfl dX9_readName_130 ?_
        refine lv_bipush (v := 30) hx hb dX9_readName_133 (by decide) ?_
        refine lv_icmp_le (tgt := 143) hx hb dX9_readName_135 (by decide) (fun c_38 => ?_) (fun c_38 => ?_)
        · have kc_38 := bI_le rfl L_30 c_38
          refine lv_aload_n hx hb dX9_readName_143 rfl (lv_at hl 0 rfl) ?_
          refine mg_0_48 (v := s11_34) hx hb hts hinX9 hown hK hP (hts (.fieldLink RX9 191 "CensusDeskModel" "signs" "I") (List.mem_of_getElem? (i := 2) rfl)) rfl dX9_readName_144 ?_
          refine mp_0_48 (v := s11_34) hx hb hts hinX9 hown hK hP hI hS (hts (.fieldLink RX9 191 "CensusDeskModel" "signs" "I") (List.mem_of_getElem? (i := 2) rfl)) dX9_readName_147 ?_
          clear hP hS; intro H locs hP hS
          subst eQ
          exact W.vret hx hb hr (fun t ht hW => ⟨⟨((up (up σ 11 s11_34) 10 s10_34), (up φ 6 f6_34), γ_34, ψ_34), rfl, ⟨s11_34, s10_34, f6_34, rfl, rfl, (show (Int32.toInt (σ 10)) ≤ (Int32.toInt s10_34) ∧ (Int32.toInt s10_34) ≤ (Int32.toInt (σ 10)) + 20004 from (by omega)), (show ∀ i : Nat, i < 300 → (i : Int) < (Int32.toInt s10_34) → Int32.toInt (f6_34 i) < i from (by with_reducible assumption)), (show 0 ≤ (Int32.toInt s11_34) ∧ (Int32.toInt s11_34) ≤ 30 ∧ (Int32.toInt s11_34) ≤ (Int32.toInt (σ 6)) - (Int32.toInt (σ 5)) from (by omega))⟩, (by show va_P _ _ _ _; rw [ht]; exact hP)⟩, hS.F ht⟩) hS.2.2 dX9_readName_150
        · have kc_38 := bI_nle rfl L_30 c_38
          refine lv_bipush (v := 30) hx hb dX9_readName_138 (by decide) ?_
          refine lv_goto (tgt := 147) hx hb dX9_readName_140 (by decide) ?_
          refine mp_0_48 (v := 30) hx hb hts hinX9 hown hK hP hI hS (hts (.fieldLink RX9 191 "CensusDeskModel" "signs" "I") (List.mem_of_getElem? (i := 2) rfl)) dX9_readName_147 ?_
          clear hP hS; intro H locs hP hS
          subst eQ
          exact W.vret hx hb hr (fun t ht hW => ⟨⟨((up (up σ 11 30) 10 s10_34), (up φ 6 f6_34), γ_34, ψ_34), rfl, ⟨30, s10_34, f6_34, rfl, rfl, (show (Int32.toInt (σ 10)) ≤ (Int32.toInt s10_34) ∧ (Int32.toInt s10_34) ≤ (Int32.toInt (σ 10)) + 20004 from (by omega)), (show ∀ i : Nat, i < 300 → (i : Int) < (Int32.toInt s10_34) → Int32.toInt (f6_34 i) < i from (by with_reducible assumption)), (show 0 ≤ (Int32.toInt 30) ∧ (Int32.toInt 30) ≤ 30 ∧ (Int32.toInt 30) ≤ (Int32.toInt (σ 6)) - (Int32.toInt (σ 5)) from (by have := L_30; omega))⟩, (by show va_P _ _ _ _; rw [ht]; exact hP)⟩, hS.F ht⟩) hS.2.2 dX9_readName_150
      · have kc_37 := bI_ne rfl L_0 c_37
        refine lv_iconst (v := 0) hx hb dX9_readName_125 (by decide) ?_
        refine lv_goto (tgt := 147) hx hb dX9_readName_126 (by decide) ?_
        refine mp_0_48 (v := 0) hx hb hts hinX9 hown hK hP hI hS (hts (.fieldLink RX9 191 "CensusDeskModel" "signs" "I") (List.mem_of_getElem? (i := 2) rfl)) dX9_readName_147 ?_
        clear hP hS; intro H locs hP hS
        subst eQ
        exact W.vret hx hb hr (fun t ht hW => ⟨⟨((up (up σ 11 0) 10 s10_34), (up φ 6 f6_34), γ_34, ψ_34), rfl, ⟨0, s10_34, f6_34, rfl, rfl, (show (Int32.toInt (σ 10)) ≤ (Int32.toInt s10_34) ∧ (Int32.toInt s10_34) ≤ (Int32.toInt (σ 10)) + 20004 from (by omega)), (show ∀ i : Nat, i < 300 → (i : Int) < (Int32.toInt s10_34) → Int32.toInt (f6_34 i) < i from (by with_reducible assumption)), (show 0 ≤ (Int32.toInt 0) ∧ (Int32.toInt 0) ≤ 30 ∧ (Int32.toInt 0) ≤ (Int32.toInt (σ 6)) - (Int32.toInt (σ 5)) from (by have := L_0; omega))⟩, (by show va_P _ _ _ _; rw [ht]; exact hP)⟩, hS.F ht⟩) hS.2.2 dX9_readName_150
    · have kc_36 := bI_eq rfl L_0 c_36
      refine lv_iconst (v := 0) hx hb dX9_readName_40 (by decide) ?_
      refine lv_istore_n (lv' := [(2, .int 0), (0, .ref (a 0)), (1, .int k)]) hx hb dX9_readName_41 rfl hl (by decide) rfl ?_
      clear hl; intro ls hl
      exact J42 (_ + 1) 0 s11_34 s10_34 f6_34 γ_34 ψ_34 _ _ _ (show 0 ≤ (Int32.toInt 0) from (by have := L_0; omega)) (show 0 ≤ (Int32.toInt s11_34) ∧ (Int32.toInt s11_34) ≤ (Int32.toInt (σ 6)) - (Int32.toInt (σ 5)) from (by omega)) (show (Int32.toInt (σ 10)) ≤ (Int32.toInt s10_34) ∧ (Int32.toInt s10_34) ≤ (Int32.toInt (σ 10)) + 20000 from (by omega)) (show ∀ i : Nat, i < 300 → (i : Int) < (Int32.toInt s10_34) → Int32.toInt (f6_34 i) < i from (by with_reducible assumption)) (Nat.lt_succ_self _) hP hS (lv_sub hl [1, 0] rfl)
  · have kc_35 := bI_eq rfl L_0 c_35
    refine lv_aload_n hx hb dX9_readName_12 rfl (lv_at hl 0 rfl) ?_
    refine mg_0_48 (v := s11_34) hx hb hts hinX9 hown hK hP (hts (.fieldLink RX9 191 "CensusDeskModel" "signs" "I") (List.mem_of_getElem? (i := 2) rfl)) rfl dX9_readName_13 ?_
    refine lv_if_ne (tgt := 33) hx hb dX9_readName_16 (by decide) (fun c_39 => ?_) (fun c_39 => ?_)
    · have kc_39 := bI_ne rfl L_0 c_39
      refine lv_aload_n hx hb dX9_readName_33 rfl (lv_at hl 0 rfl) ?_
      refine mg_0_21 (v := (γ_34 10)) hx hb hts hinX9 hown hK hP (hts (.fieldLink RX9 184 "CensusDeskModel" "fieldLost" "Z") (List.mem_of_getElem? (i := 1) rfl)) rfl dX9_readName_34 ?_
      refine lv_if_ne (tgt := 117) hx hb dX9_readName_37 (by decide) (fun c_40 => ?_) (fun c_40 => ?_)
      · have kc_40 := bI_ne rfl L_0 c_40
        refine lv_aload_n hx hb dX9_readName_117 rfl (lv_at hl 0 rfl) ?_
        refine lv_aload_n hx hb dX9_readName_118 rfl (lv_at hl 0 rfl) ?_
        refine mg_0_21 (v := (γ_34 10)) hx hb hts hinX9 hown hK hP (hts (.fieldLink RX9 184 "CensusDeskModel" "fieldLost" "Z") (List.mem_of_getElem? (i := 1) rfl)) rfl dX9_readName_119 ?_
        refine lv_if_eq (tgt := 129) hx hb dX9_readName_122 (by decide) (fun c_41 => ?_) (fun c_41 => ?_)
        · have kc_41 := bI_eq rfl L_0 c_41
          refine lv_aload_n hx hb dX9_readName_129 rfl (lv_at hl 0 rfl) ?_
          refine mg_0_48 (v := s11_34) hx hb hts hinX9 hown hK hP (hts (.fieldLink RX9 191 "CensusDeskModel" "signs" "I") (List.mem_of_getElem? (i := 2) rfl)) rfl dX9_readName_130 ?_
          refine lv_bipush (v := 30) hx hb dX9_readName_133 (by decide) ?_
          refine lv_icmp_le (tgt := 143) hx hb dX9_readName_135 (by decide) (fun c_42 => ?_) (fun c_42 => ?_)
          · have kc_42 := bI_le rfl L_30 c_42
            refine lv_aload_n hx hb dX9_readName_143 rfl (lv_at hl 0 rfl) ?_
            refine mg_0_48 (v := s11_34) hx hb hts hinX9 hown hK hP (hts (.fieldLink RX9 191 "CensusDeskModel" "signs" "I") (List.mem_of_getElem? (i := 2) rfl)) rfl dX9_readName_144 ?_
            refine mp_0_48 (v := s11_34) hx hb hts hinX9 hown hK hP hI hS (hts (.fieldLink RX9 191 "CensusDeskModel" "signs" "I") (List.mem_of_getElem? (i := 2) rfl)) dX9_readName_147 ?_
            clear hP hS; intro H locs hP hS
            subst eQ
            exact W.vret hx hb hr (fun t ht hW => ⟨⟨((up (up σ 11 s11_34) 10 s10_34), (up φ 6 f6_34), γ_34, ψ_34), rfl, ⟨s11_34, s10_34, f6_34, rfl, rfl, (show (Int32.toInt (σ 10)) ≤ (Int32.toInt s10_34) ∧ (Int32.toInt s10_34) ≤ (Int32.toInt (σ 10)) + 20004 from (by omega)), (show ∀ i : Nat, i < 300 → (i : Int) < (Int32.toInt s10_34) → Int32.toInt (f6_34 i) < i from (by with_reducible assumption)), (show 0 ≤ (Int32.toInt s11_34) ∧ (Int32.toInt s11_34) ≤ 30 ∧ (Int32.toInt s11_34) ≤ (Int32.toInt (σ 6)) - (Int32.toInt (σ 5)) from (by omega))⟩, (by show va_P _ _ _ _; rw [ht]; exact hP)⟩, hS.F ht⟩) hS.2.2 dX9_readName_150
          · have kc_42 := bI_nle rfl L_30 c_42
            refine lv_bipush (v := 30) hx hb dX9_readName_138 (by decide) ?_
            refine lv_goto (tgt := 147) hx hb dX9_readName_140 (by decide) ?_
            refine mp_0_48 (v := 30) hx hb hts hinX9 hown hK hP hI hS (hts (.fieldLink RX9 191 "CensusDeskModel" "signs" "I") (List.mem_of_getElem? (i := 2) rfl)) dX9_readName_147 ?_
            clear hP hS; intro H locs hP hS
            subst eQ
            exact W.vret hx hb hr (fun t ht hW => ⟨⟨((up (up σ 11 30) 10 s10_34), (up φ 6 f6_34), γ_34, ψ_34), rfl, ⟨30, s10_34, f6_34, rfl, rfl, (show (Int32.toInt (σ 10)) ≤ (Int32.toInt s10_34) ∧ (Int32.toInt s10_34) ≤ (Int32.toInt (σ 10)) + 20004 from (by omega)), (show ∀ i : Nat, i < 300 → (i : Int) < (Int32.toInt s10_34) → Int32.toInt (f6_34 i) < i from (by with_reducible assumption)), (show 0 ≤ (Int32.toInt 30) ∧ (Int32.toInt 30) ≤ 30 ∧ (Int32.toInt 30) ≤ (Int32.toInt (σ 6)) - (Int32.toInt (σ 5)) from (by have := L_30; omega))⟩, (by show va_P _ _ _ _; rw [ht]; exact hP)⟩, hS.F ht⟩) hS.2.2 dX9_readName_150
        · have kc_41 := bI_ne rfl L_0 c_41
          refine lv_iconst (v := 0) hx hb dX9_readName_125 (by decide) ?_
          refine lv_goto (tgt := 147) hx hb dX9_readName_126 (by decide) ?_
          refine mp_0_48 (v := 0) hx hb hts hinX9 hown hK hP hI hS (hts (.fieldLink RX9 191 "CensusDeskModel" "signs" "I") (List.mem_of_getElem? (i := 2) rfl)) dX9_readName_147 ?_
          clear hP hS; intro H locs hP hS
          subst eQ
          exact W.vret hx hb hr (fun t ht hW => ⟨⟨((up (up σ 11 0) 10 s10_34), (up φ 6 f6_34), γ_34, ψ_34), rfl, ⟨0, s10_34, f6_34, rfl, rfl, (show (Int32.toInt (σ 10)) ≤ (Int32.toInt s10_34) ∧ (Int32.toInt s10_34) ≤ (Int32.toInt (σ 10)) + 20004 from (by omega)), (show ∀ i : Nat, i < 300 → (i : Int) < (Int32.toInt s10_34) → Int32.toInt (f6_34 i) < i from (by with_reducible assumption)), (show 0 ≤ (Int32.toInt 0) ∧ (Int32.toInt 0) ≤ 30 ∧ (Int32.toInt 0) ≤ (Int32.toInt (σ 6)) - (Int32.toInt (σ 5)) from (by have := L_0; omega))⟩, (by show va_P _ _ _ _; rw [ht]; exact hP)⟩, hS.F ht⟩) hS.2.2 dX9_readName_150
      · have kc_40 := bI_eq rfl L_0 c_40
        refine lv_iconst (v := 0) hx hb dX9_readName_40 (by decide) ?_
        refine lv_istore_n (lv' := [(2, .int 0), (0, .ref (a 0)), (1, .int k)]) hx hb dX9_readName_41 rfl hl (by decide) rfl ?_
        clear hl; intro ls hl
        exact J42 (_ + 1) 0 s11_34 s10_34 f6_34 γ_34 ψ_34 _ _ _ (show 0 ≤ (Int32.toInt 0) from (by have := L_0; omega)) (show 0 ≤ (Int32.toInt s11_34) ∧ (Int32.toInt s11_34) ≤ (Int32.toInt (σ 6)) - (Int32.toInt (σ 5)) from (by omega)) (show (Int32.toInt (σ 10)) ≤ (Int32.toInt s10_34) ∧ (Int32.toInt s10_34) ≤ (Int32.toInt (σ 10)) + 20000 from (by omega)) (show ∀ i : Nat, i < 300 → (i : Int) < (Int32.toInt s10_34) → Int32.toInt (f6_34 i) < i from (by with_reducible assumption)) (Nat.lt_succ_self _) hP hS (lv_sub hl [1, 0] rfl)
    · have kc_39 := bI_eq rfl L_0 c_39
      refine lv_aload_n hx hb dX9_readName_19 rfl (lv_at hl 0 rfl) ?_
      refine lv_iconst (v := 2) hx hb dX9_readName_20 (by decide) ?_
      refine lv_aload_n hx hb dX9_readName_21 rfl (lv_at hl 0 rfl) ?_
      refine mg_0_50 (v := (γ_34 14)) hx hb hts hinX9 hown hK hP (hts (.fieldLink RX9 200 "CensusDeskModel" "cellAt" "I") (List.mem_of_getElem? (i := 3) rfl)) rfl dX9_readName_22 ?_
      refine lv_iconst (v := (-1)) hx hb dX9_readName_25 (by decide) ?_
      refine m_calli (va_runV (As := [.int 2, .int (γ_34 14), .int (-1)]) (rest := []) ⟨hx, hb, hml, hown, hts⟩ (c_X9_failField l dC dI a κ (up (up σ 11 s11_34) 10 s10_34) (up φ 6 f6_34) γ_34 ψ_34 2 (γ_34 14) (-1) (show 1 ≤ (Int32.toInt 2) ∧ (Int32.toInt 2) ≤ 21 from (by have := L_2; omega)) (show (Int32.toInt (-1)) < (Int32.toInt s10_34) from (by have := L_m1; omega)) (show 0 ≤ (Int32.toInt s10_34) ∧ (Int32.toInt s10_34) ≤ 1999999960 from (by omega)) (show ∀ i : Nat, i < 300 → (i : Int) < (Int32.toInt s10_34) → Int32.toInt (f6_34 i) < i from (by with_reducible assumption))) (cwV 3 hts gX9_readName_X9_failField rfl rfl rfl ⟨rfl, hd_X9_failField⟩ ⟨Nat.le_of_ble_eq_true rfl, Nat.le_of_ble_eq_true rfl⟩) (mPreV hP hK hI hN hS (va_recv hK hP (ci := 9) (q0 := 0) rfl rfl)) rfl rfl hl.1 rfl (lv_room (Nat.le_of_ble_eq_true rfl)) dX9_readName_26 ⟨(by decide +kernel), (by decide +kernel)⟩) hS ?_
      clear hP hS; intro r_43 S_43 F_43 γ_43 ψ_43 H locs hw hP hS
      obtain ⟨s10_43, f6_43, rfl, rfl, (qf_43 : (Int32.toInt s10_34) ≤ (Int32.toInt s10_43) ∧ (Int32.toInt s10_43) ≤ (Int32.toInt s10_34) + 4), (qc_43 : ∀ i : Nat, i < 300 → (i : Int) < (Int32.toInt s10_43) → Int32.toInt (f6_43 i) < i)⟩ := hw
      have hLm1_43 := L_m1
      have hL2_43 := L_2
      refine lv_istore_n (lv' := [(2, .int r_43), (0, .ref (a 0)), (1, .int k)]) hx hb dX9_readName_29 rfl hl (by decide) rfl ?_
      clear hl; intro ls hl
      refine lv_goto (tgt := 117) hx hb dX9_readName_30 (by decide) ?_
      refine lv_aload_n hx hb dX9_readName_117 rfl (lv_at hl 1 rfl) ?_
      refine lv_aload_n hx hb dX9_readName_118 rfl (lv_at hl 1 rfl) ?_
      refine mg_0_21 (v := (γ_43 10)) hx hb hts hinX9 hown hK hP (hts (.fieldLink RX9 184 "CensusDeskModel" "fieldLost" "Z") (List.mem_of_getElem? (i := 1) rfl)) rfl dX9_readName_119 ?_
      refine lv_if_eq (tgt := 129) hx hb dX9_readName_122 (by decide) (fun c_44 => ?_) (fun c_44 => ?_)
      · have kc_44 := bI_eq rfl L_0 c_44
        refine lv_aload_n hx hb dX9_readName_129 rfl (lv_at hl 1 rfl) ?_
        refine mg_0_48 (v := s11_34) hx hb hts hinX9 hown hK hP (hts (.fieldLink RX9 191 "CensusDeskModel" "signs" "I") (List.mem_of_getElem? (i := 2) rfl)) rfl dX9_readName_130 ?_
        refine lv_bipush (v := 30) hx hb dX9_readName_133 (by decide) ?_
        refine lv_icmp_le (tgt := 143) hx hb dX9_readName_135 (by decide) (fun c_45 => ?_) (fun c_45 => ?_)
        · have kc_45 := bI_le rfl L_30 c_45
          refine lv_aload_n hx hb dX9_readName_143 rfl (lv_at hl 1 rfl) ?_
          refine mg_0_48 (v := s11_34) hx hb hts hinX9 hown hK hP (hts (.fieldLink RX9 191 "CensusDeskModel" "signs" "I") (List.mem_of_getElem? (i := 2) rfl)) rfl dX9_readName_144 ?_
          refine mp_0_48 (v := s11_34) hx hb hts hinX9 hown hK hP hI hS (hts (.fieldLink RX9 191 "CensusDeskModel" "signs" "I") (List.mem_of_getElem? (i := 2) rfl)) dX9_readName_147 ?_
          clear hP hS; intro H locs hP hS
          subst eQ
          exact W.vret hx hb hr (fun t ht hW => ⟨⟨((up (up σ 11 s11_34) 10 s10_43), (up φ 6 f6_43), γ_43, ψ_43), rfl, ⟨s11_34, s10_43, f6_43, rfl, rfl, (show (Int32.toInt (σ 10)) ≤ (Int32.toInt s10_43) ∧ (Int32.toInt s10_43) ≤ (Int32.toInt (σ 10)) + 20004 from (by omega)), (show ∀ i : Nat, i < 300 → (i : Int) < (Int32.toInt s10_43) → Int32.toInt (f6_43 i) < i from (by with_reducible assumption)), (show 0 ≤ (Int32.toInt s11_34) ∧ (Int32.toInt s11_34) ≤ 30 ∧ (Int32.toInt s11_34) ≤ (Int32.toInt (σ 6)) - (Int32.toInt (σ 5)) from (by omega))⟩, (by show va_P _ _ _ _; rw [ht]; exact hP)⟩, hS.F ht⟩) hS.2.2 dX9_readName_150
        · have kc_45 := bI_nle rfl L_30 c_45
          refine lv_bipush (v := 30) hx hb dX9_readName_138 (by decide) ?_
          refine lv_goto (tgt := 147) hx hb dX9_readName_140 (by decide) ?_
          refine mp_0_48 (v := 30) hx hb hts hinX9 hown hK hP hI hS (hts (.fieldLink RX9 191 "CensusDeskModel" "signs" "I") (List.mem_of_getElem? (i := 2) rfl)) dX9_readName_147 ?_
          clear hP hS; intro H locs hP hS
          subst eQ
          exact W.vret hx hb hr (fun t ht hW => ⟨⟨((up (up σ 11 30) 10 s10_43), (up φ 6 f6_43), γ_43, ψ_43), rfl, ⟨30, s10_43, f6_43, rfl, rfl, (show (Int32.toInt (σ 10)) ≤ (Int32.toInt s10_43) ∧ (Int32.toInt s10_43) ≤ (Int32.toInt (σ 10)) + 20004 from (by omega)), (show ∀ i : Nat, i < 300 → (i : Int) < (Int32.toInt s10_43) → Int32.toInt (f6_43 i) < i from (by with_reducible assumption)), (show 0 ≤ (Int32.toInt 30) ∧ (Int32.toInt 30) ≤ 30 ∧ (Int32.toInt 30) ≤ (Int32.toInt (σ 6)) - (Int32.toInt (σ 5)) from (by have := L_30; omega))⟩, (by show va_P _ _ _ _; rw [ht]; exact hP)⟩, hS.F ht⟩) hS.2.2 dX9_readName_150
      · have kc_44 := bI_ne rfl L_0 c_44
        refine lv_iconst (v := 0) hx hb dX9_readName_125 (by decide) ?_
        refine lv_goto (tgt := 147) hx hb dX9_readName_126 (by decide) ?_
        refine mp_0_48 (v := 0) hx hb hts hinX9 hown hK hP hI hS (hts (.fieldLink RX9 191 "CensusDeskModel" "signs" "I") (List.mem_of_getElem? (i := 2) rfl)) dX9_readName_147 ?_
        clear hP hS; intro H locs hP hS
        subst eQ
        exact W.vret hx hb hr (fun t ht hW => ⟨⟨((up (up σ 11 0) 10 s10_43), (up φ 6 f6_43), γ_43, ψ_43), rfl, ⟨0, s10_43, f6_43, rfl, rfl, (show (Int32.toInt (σ 10)) ≤ (Int32.toInt s10_43) ∧ (Int32.toInt s10_43) ≤ (Int32.toInt (σ 10)) + 20004 from (by omega)), (show ∀ i : Nat, i < 300 → (i : Int) < (Int32.toInt s10_43) → Int32.toInt (f6_43 i) < i from (by with_reducible assumption)), (show 0 ≤ (Int32.toInt 0) ∧ (Int32.toInt 0) ≤ 30 ∧ (Int32.toInt 0) ≤ (Int32.toInt (σ 6)) - (Int32.toInt (σ 5)) from (by have := L_0; omega))⟩, (by show va_P _ _ _ _; rw [ht]; exact hP)⟩, hS.F ht⟩) hS.2.2 dX9_readName_150
