set_option maxHeartbeats 4000000 in
set_option maxRecDepth 100000 in
/-- hasRoomFor -/
theorem c_X7_hasRoomFor (l : Launch) (dC : Nat → ClassId) (dI : Nat → Nat → Nat) (a : Nat → Nat) (κ : Nat → ClassId) (σ : Nat → Int32) (φ : Nat → Nat → Int32) (γ : Nat → Int32) (ψ : Nat → Nat → Int32) (g1 g2 : Nat) (more : Int32) : Met l yX7_hasRoomFor wsX7_hasRoomFor ({ frames := 0, cells := 0, slots := 0, locals := 0 } : Room) (va_Pc [.ref (a 1), .int more] (cPre dC dI a κ (σ, φ, γ, ψ) g1 g2)) (va_Qi (QI (fun r S F => σ = S ∧ φ = F ∧ True)) (cB dC dI a κ) (cA a)) 0 0 (cA a) := by
  refine Met.ofW (cc := cX7_hasRoomFor) (maxL := 2) (ret := (some .boolean)) (by decide) rfl ?_
  intro p e s m args below meth c s₁ B hml hv
  obtain ⟨rfl, hP, hK, hI, hN, hX⟩ := hv
  have hx := B.exec
  have hb := B.bytes
  have hr := B.returns
  have hts := atoms_spec (ws := wsX7_hasRoomFor) B.pre
  have hown : s.vm.findClass RX7 = some m.cls := findClass_of_methodNamed B.named
  have hlocks := B.notSynchronized
  have hS : va_S (cA a) s.heap s.heap [] := va_S.rf
  have hinX7 : ∀ w ∈ wsX70, w ∈ wsX7_hasRoomFor := fun _ h => List.mem_cons_of_mem _ (List.mem_append_right _ h)
  have hl := lv_entry ([.ref (a 1), .int more]) (n := 2) (Nat.le_of_ble_eq_true rfl)
  rw [lg_entry_eq]
  generalize (lg_sl ([.ref (a 1), .int more]) ++ List.replicate (2 - (lg_sl ([.ref (a 1), .int more])).length) Slot.unset).toArray = ls at hl ⊢
  have hl : lv_has ls 2 [(0, .ref (a 1)), (1, .int more)] := hl
  refine lv_aload_n hx hb dX7_hasRoomFor_0 rfl (lv_at hl 0 rfl) ?_
  refine cg_1_1 (v := (σ 0)) hx hb hts hinX7 hown hK hP (hts (.fieldLink RX7 15 "CensusDesk$Tape" "length" "I") (List.mem_of_getElem? (i := 1) rfl)) rfl dX7_hasRoomFor_1 ?_
  refine lv_iload_n hx hb dX7_hasRoomFor_4 rfl (lv_at hl 1 rfl) ?_
  refine lv_iadd hx hb dX7_hasRoomFor_5 ?_
  refine lv_topi (fun z_1 ez_1 => ?_)
  refine lv_sipush (v := 4000) hx hb dX7_hasRoomFor_6 (by decide) ?_
  refine lv_icmp_gt (tgt := 16) hx hb dX7_hasRoomFor_9 (by decide) (fun c_2 => ?_) (fun c_2 => ?_)
  · have kc_2 := bI_lt L_4000 rfl c_2
    refine lv_iconst (v := 0) hx hb dX7_hasRoomFor_16 (by decide) ?_
    exact W.zret (v := 0) hx hb hr (by first | rfl | decide) (fun t ht hW => ⟨⟨0, (σ, φ, γ, ψ), rfl, ⟨rfl, rfl, trivial⟩, (by show va_P _ _ _ _; rw [ht]; exact hP)⟩, hS.F ht⟩) hS.2.2 dX7_hasRoomFor_17
  · have kc_2 := bI_nlt L_4000 rfl c_2
    refine lv_iconst (v := 1) hx hb dX7_hasRoomFor_12 (by decide) ?_
    refine lv_goto (tgt := 17) hx hb dX7_hasRoomFor_13 (by decide) ?_
    exact W.zret (v := 1) hx hb hr (by first | rfl | decide) (fun t ht hW => ⟨⟨1, (σ, φ, γ, ψ), rfl, ⟨rfl, rfl, trivial⟩, (by show va_P _ _ _ _; rw [ht]; exact hP)⟩, hS.F ht⟩) hS.2.2 dX7_hasRoomFor_17
set_option maxHeartbeats 4000000 in
set_option maxRecDepth 100000 in
theorem c_X7_append (l : Launch) (dC : Nat → ClassId) (dI : Nat → Nat → Nat) (a : Nat → Nat) (κ : Nat → ClassId) (σ : Nat → Int32) (φ : Nat → Nat → Int32) (γ : Nat → Int32) (ψ : Nat → Nat → Int32) (g1 g2 : Nat) (word : Int32) (hlen : 0 ≤ (Int32.toInt (σ 0)) ∧ (Int32.toInt (σ 0)) ≤ 4000) : Met l yX7_append wsX7_append ({ frames := 0, cells := 0, slots := 0, locals := 0 } : Room) (va_Pc [.ref (a 1), .int word] (cPre dC dI a κ (σ, φ, γ, ψ) g1 g2)) (va_Qv (QV (fun S F => ∃ (s0 : Int32) (f0 : Nat → Int32), (up σ 0 s0) = S ∧ (up φ 0 f0) = F ∧ (0 ≤ (Int32.toInt s0) ∧ (Int32.toInt s0) ≤ 4000))) (cB dC dI a κ) (cA a)) 0 0 (cA a) := by
  refine Met.ofW (cc := cX7_append) (maxL := 3) (ret := none) (by decide) rfl ?_
  intro p e s m args below meth c s₁ B hml hv
  obtain ⟨rfl, hP, hK, hI, hN, hX⟩ := hv
  have hx := B.exec
  have hb := B.bytes
  have hr := B.returns
  have hts := atoms_spec (ws := wsX7_append) B.pre
  have hown : s.vm.findClass RX7 = some m.cls := findClass_of_methodNamed B.named
  have hlocks := B.notSynchronized
  have hS : va_S (cA a) s.heap s.heap [] := va_S.rf
  have hinX7 : ∀ w ∈ wsX70, w ∈ wsX7_append := fun _ h => List.mem_cons_of_mem _ (List.mem_append_right _ h)
  have hl := lv_entry ([.ref (a 1), .int word]) (n := 3) (Nat.le_of_ble_eq_true rfl)
  rw [lg_entry_eq]
  generalize (lg_sl ([.ref (a 1), .int word]) ++ List.replicate (3 - (lg_sl ([.ref (a 1), .int word])).length) Slot.unset).toArray = ls at hl ⊢
  have hl : lv_has ls 3 [(0, .ref (a 1)), (1, .int word)] := hl
  refine k_gen (fun QQ eQ => ?_)
  have J3 : ∀ (n3 : Nat), ∀ (shift : Int32) (s0_c3 : Int32) (f0_c3 : Nat → Int32) (γ : Nat → Int32) (ψ : Nat → Nat → Int32) (H : Heap) (locs : List Loc) (ls : Array Slot), (0 ≤ (Int32.toInt s0_c3) ∧ (Int32.toInt s0_c3) ≤ 4000) → (((Int32.toInt shift) + 8).toNat < n3) → va_P (dC, dI) vwCl (cw a κ ((up σ 0 s0_c3), (up φ 0 f0_c3), γ, ψ)) H → va_S (cA a) s.heap H locs → lv_has ls 3 [(0, .ref (a 1)), (1, .int word), (2, .int shift)] → W p l e ({ frames := 0, cells := 0, slots := 0, locals := 0 } : Room) s m ([.ref (a 1), .int word] : List Value).toArray below meth c H locs 0 0 QQ (F0 m 3 ls []) := by
    intro n3
    induction n3 with
    | zero =>
      intro shift s0_c3 f0_c3 γ ψ H locs ls vl hm
      exact absurd hm (Nat.not_lt_zero _)
    | succ n3 ih3 =>
      intro shift s0_c3 f0_c3 γ ψ H locs ls vl hm hP hS hl
      refine lv_iload_n hx hb dX7_append_3 rfl (lv_at hl 2 rfl) ?_
      refine lv_if_lt (tgt := 46) hx hb dX7_append_4 (by decide) (fun c_1 => ?_) (fun c_1 => ?_)
      · have kc_1 := bI_lt rfl L_0 c_1
        subst eQ
        exact W.vret hx hb hr (fun t ht hW => ⟨⟨((up σ 0 s0_c3), (up φ 0 f0_c3), γ, ψ), rfl, ⟨s0_c3, f0_c3, rfl, rfl, (show 0 ≤ (Int32.toInt s0_c3) ∧ (Int32.toInt s0_c3) ≤ 4000 from (by omega))⟩, (by show va_P _ _ _ _; rw [ht]; exact hP)⟩, hS.F ht⟩) hS.2.2 dX7_append_46
      · have kc_1 := bI_nlt rfl L_0 c_1
        refine lv_aload_n hx hb dX7_append_7 rfl (lv_at hl 0 rfl) ?_
        refine cg_1_1 (v := s0_c3) hx hb hts hinX7 hown hK hP (hts (.fieldLink RX7 15 "CensusDesk$Tape" "length" "I") (List.mem_of_getElem? (i := 1) rfl)) rfl dX7_append_8 ?_
        refine lv_sipush (v := 4000) hx hb dX7_append_11 (by decide) ?_
        refine lv_icmp_ge (tgt := 40) hx hb dX7_append_14 (by decide) (fun c_2 => ?_) (fun c_2 => ?_)
        · have kc_2 := bI_le L_4000 rfl c_2
          obtain ⟨i_3, ei_3⟩ : ∃ z : Int32, z = shift + (-8) := ⟨_, rfl⟩
          refine lv_iinc (v := i_3) (lv' := [(2, .int i_3), (0, .ref (a 1)), (1, .int word)]) hx hb dX7_append_40 hl (k := 2) rfl (by rw [ei_3]; rfl) (by decide) rfl ?_
          clear hl; intro ls hl
          have ti_3 : (Int32.toInt i_3) = (Int32.toInt shift) + (-8) := aI_add rfl L_m8 ei_3 (by have := rng shift; omega)
          refine lv_goto (tgt := 3) hx hb dX7_append_43 (by decide) ?_
          exact ih3 i_3 s0_c3 f0_c3 γ ψ _ _ _ (show 0 ≤ (Int32.toInt s0_c3) ∧ (Int32.toInt s0_c3) ≤ 4000 from (by omega)) (by omega) hP hS (lv_sub hl [1, 2, 0] rfl)
        · have kc_2 := bI_nle L_4000 rfl c_2
          refine lv_aload_n hx hb dX7_append_17 rfl (lv_at hl 0 rfl) ?_
          refine cg_1_0 hx hb hts hinX7 hown hK hP (hts (.fieldLink RX7 11 "CensusDesk$Tape" "bytes" "[B") (List.mem_of_getElem? (i := 2) rfl)) dX7_append_18 ?_
          refine lv_aload_n hx hb dX7_append_21 rfl (lv_at hl 0 rfl) ?_
          refine cg_1_1 (v := s0_c3) hx hb hts hinX7 hown hK hP (hts (.fieldLink RX7 15 "CensusDesk$Tape" "length" "I") (List.mem_of_getElem? (i := 1) rfl)) rfl dX7_append_22 ?_
          refine lv_iload_n hx hb dX7_append_25 rfl (lv_at hl 1 rfl) ?_
          refine lv_iload_n hx hb dX7_append_26 rfl (lv_at hl 2 rfl) ?_
          obtain ⟨z_4, ez_4⟩ : ∃ z : Int32, (Int32.toUInt32 word >>> (Int32.toUInt32 shift &&& Int32.toUInt32 31)).toInt32 = z := ⟨_, rfl⟩
          refine lv_iushr (v := z_4) hx hb dX7_append_27 ez_4 ?_
          obtain ⟨z_5, ez_5⟩ : ∃ z : Int32, (Int32.toInt8 z_4).toInt32 = z := ⟨_, rfl⟩
          refine lv_i2b (v := z_5) hx hb dX7_append_28 ez_5 ?_
          refine cs_9 (f := f0_c3) hx hb hK hP hI hS (i := s0_c3) (x := z_5) (vin rfl (by omega)) rfl dX7_append_29 ?_
          clear hP hS; intro H locs hP hS
          obtain ⟨f_6, ef_6⟩ : ∃ z : Nat → Int32, z = upd f0_c3 (Int32.toNatClampNeg s0_c3) (vp_nar .byte z_5) := ⟨_, rfl⟩
          rw [← ef_6] at hP
          refine lv_aload_n hx hb dX7_append_30 rfl (lv_at hl 0 rfl) ?_
          refine lv_dup hx hb dX7_append_31 rfl ?_
          refine cg_1_1 (v := s0_c3) hx hb hts hinX7 hown hK hP (hts (.fieldLink RX7 15 "CensusDesk$Tape" "length" "I") (List.mem_of_getElem? (i := 1) rfl)) rfl dX7_append_32 ?_
          refine lv_iconst (v := 1) hx hb dX7_append_35 (by decide) ?_
          refine lv_iadd hx hb dX7_append_36 ?_
          refine lv_topi (fun z_7 ez_7 => ?_)
          have tz_7 : (Int32.toInt z_7) = (Int32.toInt s0_c3) + 1 := aI_add rfl L_1 ez_7 (by have := rng s0_c3; omega)
          refine cp_1_1 (v := z_7) hx hb hts hinX7 hown hK hP hI hS (hts (.fieldLink RX7 15 "CensusDesk$Tape" "length" "I") (List.mem_of_getElem? (i := 1) rfl)) dX7_append_37 ?_
          clear hP hS; intro H locs hP hS
          obtain ⟨i_8, ei_8⟩ : ∃ z : Int32, z = shift + (-8) := ⟨_, rfl⟩
          refine lv_iinc (v := i_8) (lv' := [(2, .int i_8), (0, .ref (a 1)), (1, .int word)]) hx hb dX7_append_40 hl (k := 2) rfl (by rw [ei_8]; rfl) (by decide) rfl ?_
          clear hl; intro ls hl
          have ti_8 : (Int32.toInt i_8) = (Int32.toInt shift) + (-8) := aI_add rfl L_m8 ei_8 (by have := rng shift; omega)
          refine lv_goto (tgt := 3) hx hb dX7_append_43 (by decide) ?_
          exact ih3 i_8 z_7 f_6 γ ψ _ _ _ (show 0 ≤ (Int32.toInt z_7) ∧ (Int32.toInt z_7) ≤ 4000 from (by omega)) (by omega) hP hS (lv_sub hl [1, 2, 0] rfl)
  refine lv_bipush (v := 24) hx hb dX7_append_0 (by decide) ?_
  refine lv_istore_n (lv' := [(2, .int 24), (0, .ref (a 1)), (1, .int word)]) hx hb dX7_append_2 rfl hl (by decide) rfl ?_
  clear hl; intro ls hl
  exact J3 (_ + 1) 24 (σ 0) (φ 0) γ ψ _ _ _ (show 0 ≤ (Int32.toInt (σ 0)) ∧ (Int32.toInt (σ 0)) ≤ 4000 from (by omega)) (Nat.lt_succ_self _) hP hS (lv_sub hl [1, 2, 0] rfl)
set_option maxHeartbeats 4000000 in
set_option maxRecDepth 100000 in
theorem c_X7_keepFirst (l : Launch) (dC : Nat → ClassId) (dI : Nat → Nat → Nat) (a : Nat → Nat) (κ : Nat → ClassId) (σ : Nat → Int32) (φ : Nat → Nat → Int32) (γ : Nat → Int32) (ψ : Nat → Nat → Int32) (g1 g2 : Nat) (n : Int32) (hlen : 0 ≤ (Int32.toInt (σ 0)) ∧ (Int32.toInt (σ 0)) ≤ 4000) : Met l yX7_keepFirst wsX7_keepFirst ({ frames := 0, cells := 0, slots := 0, locals := 0 } : Room) (va_Pc [.ref (a 1), .int n] (cPre dC dI a κ (σ, φ, γ, ψ) g1 g2)) (va_Qv (QV (fun S F => ∃ (s0 : Int32), (up σ 0 s0) = S ∧ φ = F ∧ (0 ≤ (Int32.toInt s0) ∧ (Int32.toInt s0) ≤ 4000))) (cB dC dI a κ) (cA a)) 0 0 (cA a) := by
  refine Met.ofW (cc := cX7_keepFirst) (maxL := 2) (ret := none) (by decide) rfl ?_
  intro p e s m args below meth c s₁ B hml hv
  obtain ⟨rfl, hP, hK, hI, hN, hX⟩ := hv
  have hx := B.exec
  have hb := B.bytes
  have hr := B.returns
  have hts := atoms_spec (ws := wsX7_keepFirst) B.pre
  have hown : s.vm.findClass RX7 = some m.cls := findClass_of_methodNamed B.named
  have hlocks := B.notSynchronized
  have hS : va_S (cA a) s.heap s.heap [] := va_S.rf
  have hinX7 : ∀ w ∈ wsX70, w ∈ wsX7_keepFirst := fun _ h => List.mem_cons_of_mem _ (List.mem_append_right _ h)
  have hl := lv_entry ([.ref (a 1), .int n]) (n := 2) (Nat.le_of_ble_eq_true rfl)
  rw [lg_entry_eq]
  generalize (lg_sl ([.ref (a 1), .int n]) ++ List.replicate (2 - (lg_sl ([.ref (a 1), .int n])).length) Slot.unset).toArray = ls at hl ⊢
  have hl : lv_has ls 2 [(0, .ref (a 1)), (1, .int n)] := hl
  refine lv_iload_n hx hb dX7_keepFirst_0 rfl (lv_at hl 1 rfl) ?_
  refine lv_if_lt (tgt := 17) hx hb dX7_keepFirst_1 (by decide) (fun c_1 => ?_) (fun c_1 => ?_)
  · have kc_1 := bI_lt rfl L_0 c_1
    exact W.vret hx hb hr (fun t ht hW => ⟨⟨((up σ 0 (σ 0)), φ, γ, ψ), rfl, ⟨(σ 0), rfl, rfl, (show 0 ≤ (Int32.toInt (σ 0)) ∧ (Int32.toInt (σ 0)) ≤ 4000 from (by omega))⟩, (by show va_P _ _ _ _; rw [ht]; exact hP)⟩, hS.F ht⟩) hS.2.2 dX7_keepFirst_17
  · have kc_1 := bI_nlt rfl L_0 c_1
    refine lv_iload_n hx hb dX7_keepFirst_4 rfl (lv_at hl 1 rfl) ?_
    refine lv_aload_n hx hb dX7_keepFirst_5 rfl (lv_at hl 0 rfl) ?_
    refine cg_1_1 (v := (σ 0)) hx hb hts hinX7 hown hK hP (hts (.fieldLink RX7 15 "CensusDesk$Tape" "length" "I") (List.mem_of_getElem? (i := 1) rfl)) rfl dX7_keepFirst_6 ?_
    refine lv_icmp_gt (tgt := 17) hx hb dX7_keepFirst_9 (by decide) (fun c_2 => ?_) (fun c_2 => ?_)
    · have kc_2 := bI_lt rfl rfl c_2
      exact W.vret hx hb hr (fun t ht hW => ⟨⟨((up σ 0 (σ 0)), φ, γ, ψ), rfl, ⟨(σ 0), rfl, rfl, (show 0 ≤ (Int32.toInt (σ 0)) ∧ (Int32.toInt (σ 0)) ≤ 4000 from (by omega))⟩, (by show va_P _ _ _ _; rw [ht]; exact hP)⟩, hS.F ht⟩) hS.2.2 dX7_keepFirst_17
    · have kc_2 := bI_nlt rfl rfl c_2
      refine lv_aload_n hx hb dX7_keepFirst_12 rfl (lv_at hl 0 rfl) ?_
      refine lv_iload_n hx hb dX7_keepFirst_13 rfl (lv_at hl 1 rfl) ?_
      refine cp_1_1 (v := n) hx hb hts hinX7 hown hK hP hI hS (hts (.fieldLink RX7 15 "CensusDesk$Tape" "length" "I") (List.mem_of_getElem? (i := 1) rfl)) dX7_keepFirst_14 ?_
      clear hP hS; intro H locs hP hS
      exact W.vret hx hb hr (fun t ht hW => ⟨⟨((up σ 0 n), φ, γ, ψ), rfl, ⟨n, rfl, rfl, (show 0 ≤ (Int32.toInt n) ∧ (Int32.toInt n) ≤ 4000 from (by omega))⟩, (by show va_P _ _ _ _; rw [ht]; exact hP)⟩, hS.F ht⟩) hS.2.2 dX7_keepFirst_17
set_option maxHeartbeats 4000000 in
set_option maxRecDepth 100000 in
theorem c_X7_at (l : Launch) (dC : Nat → ClassId) (dI : Nat → Nat → Nat) (a : Nat → Nat) (κ : Nat → ClassId) (σ : Nat → Int32) (φ : Nat → Nat → Int32) (γ : Nat → Int32) (ψ : Nat → Nat → Int32) (g1 g2 : Nat) (place : Int32) (hlen : 0 ≤ (Int32.toInt (σ 0)) ∧ (Int32.toInt (σ 0)) ≤ 4000) : Met l yX7_at wsX7_at ({ frames := 0, cells := 0, slots := 0, locals := 0 } : Room) (va_Pc [.ref (a 1), .int place] (cPre dC dI a κ (σ, φ, γ, ψ) g1 g2)) (va_Qi (QI (fun r S F => σ = S ∧ φ = F ∧ (r = tat (σ 0) (φ 0) place))) (cB dC dI a κ) (cA a)) 0 0 (cA a) := by
  refine Met.ofW (cc := cX7_at) (maxL := 2) (ret := (some .int)) (by decide) rfl ?_
  intro p e s m args below meth c s₁ B hml hv
  obtain ⟨rfl, hP, hK, hI, hN, hX⟩ := hv
  have hx := B.exec
  have hb := B.bytes
  have hr := B.returns
  have hts := atoms_spec (ws := wsX7_at) B.pre
  have hown : s.vm.findClass RX7 = some m.cls := findClass_of_methodNamed B.named
  have hlocks := B.notSynchronized
  have hS : va_S (cA a) s.heap s.heap [] := va_S.rf
  have hinX7 : ∀ w ∈ wsX70, w ∈ wsX7_at := fun _ h => List.mem_cons_of_mem _ (List.mem_append_right _ h)
  have hl := lv_entry ([.ref (a 1), .int place]) (n := 2) (Nat.le_of_ble_eq_true rfl)
  rw [lg_entry_eq]
  generalize (lg_sl ([.ref (a 1), .int place]) ++ List.replicate (2 - (lg_sl ([.ref (a 1), .int place])).length) Slot.unset).toArray = ls at hl ⊢
  have hl : lv_has ls 2 [(0, .ref (a 1)), (1, .int place)] := hl
  refine lv_iload_n hx hb dX7_at_0 rfl (lv_at hl 1 rfl) ?_
  refine lv_if_lt (tgt := 25) hx hb dX7_at_1 (by decide) (fun c_1 => ?_) (fun c_1 => ?_)
  · have kc_1 := bI_lt rfl L_0 c_1
    refine lv_iconst (v := (-1)) hx hb dX7_at_25 (by decide) ?_
    exact W.iret (v := (-1)) hx hb hr (fun t ht hW => ⟨⟨(-1), (σ, φ, γ, ψ), rfl, ⟨rfl, rfl, (tat_out (by omega))⟩, (by show va_P _ _ _ _; rw [ht]; exact hP)⟩, hS.F ht⟩) hS.2.2 dX7_at_26
  · have kc_1 := bI_nlt rfl L_0 c_1
    refine lv_iload_n hx hb dX7_at_4 rfl (lv_at hl 1 rfl) ?_
    refine lv_aload_n hx hb dX7_at_5 rfl (lv_at hl 0 rfl) ?_
    refine cg_1_1 (v := (σ 0)) hx hb hts hinX7 hown hK hP (hts (.fieldLink RX7 15 "CensusDesk$Tape" "length" "I") (List.mem_of_getElem? (i := 1) rfl)) rfl dX7_at_6 ?_
    refine lv_icmp_ge (tgt := 25) hx hb dX7_at_9 (by decide) (fun c_2 => ?_) (fun c_2 => ?_)
    · have kc_2 := bI_le rfl rfl c_2
      refine lv_iconst (v := (-1)) hx hb dX7_at_25 (by decide) ?_
      exact W.iret (v := (-1)) hx hb hr (fun t ht hW => ⟨⟨(-1), (σ, φ, γ, ψ), rfl, ⟨rfl, rfl, (tat_out (by omega))⟩, (by show va_P _ _ _ _; rw [ht]; exact hP)⟩, hS.F ht⟩) hS.2.2 dX7_at_26
    · have kc_2 := bI_nle rfl rfl c_2
      refine lv_aload_n hx hb dX7_at_12 rfl (lv_at hl 0 rfl) ?_
      refine cg_1_0 hx hb hts hinX7 hown hK hP (hts (.fieldLink RX7 11 "CensusDesk$Tape" "bytes" "[B") (List.mem_of_getElem? (i := 2) rfl)) dX7_at_13 ?_
      refine lv_iload_n hx hb dX7_at_16 rfl (lv_at hl 1 rfl) ?_
      refine cl_9 (f := (φ 0)) hx hb hK hP (i := place) (vin rfl (by omega)) rfl dX7_at_17 ?_
      refine lv_topi (fun z_3 ez_3 => ?_)
      have tz_3 : (Int32.toInt z_3) = Int32.toInt ((φ 0) (Int32.toNatClampNeg place)) := congrArg Int32.toInt ez_3
      refine lv_sipush (v := 255) hx hb dX7_at_18 (by decide) ?_
      refine lv_iand hx hb dX7_at_21 ?_
      refine lv_topi (fun z_4 ez_4 => ?_)
      refine lv_goto (tgt := 26) hx hb dX7_at_22 (by decide) ?_
      exact W.iret (v := z_4) hx hb hr (fun t ht hW => ⟨⟨z_4, (σ, φ, γ, ψ), rfl, ⟨rfl, rfl, (tat_in (by omega) ez_3 ez_4)⟩, (by show va_P _ _ _ _; rw [ht]; exact hP)⟩, hS.F ht⟩) hS.2.2 dX7_at_26
set_option maxHeartbeats 4000000 in
set_option maxRecDepth 100000 in
theorem c_X7_lineEnd (l : Launch) (dC : Nat → ClassId) (dI : Nat → Nat → Nat) (a : Nat → Nat) (κ : Nat → ClassId) (σ : Nat → Int32) (φ : Nat → Nat → Int32) (γ : Nat → Int32) (ψ : Nat → Nat → Int32) (g1 g2 : Nat) (frm : Int32) (hlen : 0 ≤ (Int32.toInt (σ 0)) ∧ (Int32.toInt (σ 0)) ≤ 4000) (hf : 0 ≤ (Int32.toInt frm) ∧ (Int32.toInt frm) ≤ (Int32.toInt (σ 0))) : Met l yX7_lineEnd wsX7_lineEnd ({ frames := 1, cells := 0, slots := 0, locals := 21 } : Room) (va_Pc [.ref (a 1), .int frm] (cPre dC dI a κ (σ, φ, γ, ψ) g1 g2)) (va_Qi (QI (fun r S F => σ = S ∧ φ = F ∧ ((Int32.toInt frm) ≤ (Int32.toInt r) ∧ (Int32.toInt r) ≤ (Int32.toInt (σ 0))))) (cB dC dI a κ) (cA a)) 0 0 (cA a) := by
  refine Met.ofW (cc := cX7_lineEnd) (maxL := 3) (ret := (some .int)) (by decide) rfl ?_
  intro p e s m args below meth c s₁ B hml hv
  obtain ⟨rfl, hP, hK, hI, hN, hX⟩ := hv
  have hx := B.exec
  have hb := B.bytes
  have hr := B.returns
  have hts := atoms_spec (ws := wsX7_lineEnd) B.pre
  have hown : s.vm.findClass RX7 = some m.cls := findClass_of_methodNamed B.named
  have hlocks := B.notSynchronized
  have hS : va_S (cA a) s.heap s.heap [] := va_S.rf
  have hinX7 : ∀ w ∈ wsX70, w ∈ wsX7_lineEnd := fun _ h => List.mem_cons_of_mem _ (List.mem_append_right _ h)
  have hl := lv_entry ([.ref (a 1), .int frm]) (n := 3) (Nat.le_of_ble_eq_true rfl)
  rw [lg_entry_eq]
  generalize (lg_sl ([.ref (a 1), .int frm]) ++ List.replicate (3 - (lg_sl ([.ref (a 1), .int frm])).length) Slot.unset).toArray = ls at hl ⊢
  have hl : lv_has ls 3 [(0, .ref (a 1)), (1, .int frm)] := hl
  refine k_gen (fun QQ eQ => ?_)
  have J2 : ∀ (n2 : Nat), ∀ (q : Int32) (γ : Nat → Int32) (ψ : Nat → Nat → Int32) (H : Heap) (locs : List Loc) (ls : Array Slot), ((Int32.toInt frm) ≤ (Int32.toInt q) ∧ (Int32.toInt q) ≤ (Int32.toInt (σ 0))) → (((Int32.toInt (σ 0)) - (Int32.toInt q)).toNat < n2) → va_P (dC, dI) vwCl (cw a κ (σ, φ, γ, ψ)) H → va_S (cA a) s.heap H locs → lv_has ls 3 [(0, .ref (a 1)), (2, .int q)] → W p l e ({ frames := 1, cells := 0, slots := 0, locals := 21 } : Room) s m ([.ref (a 1), .int frm] : List Value).toArray below meth c H locs 0 0 QQ (F0 m 2 ls []) := by
    intro n2
    induction n2 with
    | zero =>
      intro q γ ψ H locs ls vp hm
      exact absurd hm (Nat.not_lt_zero _)
    | succ n2 ih2 =>
      intro q γ ψ H locs ls vp hm hP hS hl
      refine lv_iload_n hx hb dX7_lineEnd_2 rfl (lv_at hl 1 rfl) ?_
      refine lv_aload_n hx hb dX7_lineEnd_3 rfl (lv_at hl 0 rfl) ?_
      refine cg_1_1 (v := (σ 0)) hx hb hts hinX7 hown hK hP (hts (.fieldLink RX7 15 "CensusDesk$Tape" "length" "I") (List.mem_of_getElem? (i := 1) rfl)) rfl dX7_lineEnd_4 ?_
      refine lv_icmp_ge (tgt := 28) hx hb dX7_lineEnd_7 (by decide) (fun c_1 => ?_) (fun c_1 => ?_)
      · have kc_1 := bI_le rfl rfl c_1
        refine lv_aload_n hx hb dX7_lineEnd_28 rfl (lv_at hl 0 rfl) ?_
        refine cg_1_1 (v := (σ 0)) hx hb hts hinX7 hown hK hP (hts (.fieldLink RX7 15 "CensusDesk$Tape" "length" "I") (List.mem_of_getElem? (i := 1) rfl)) rfl dX7_lineEnd_29 ?_
        subst eQ
        exact W.iret (v := (σ 0)) hx hb hr (fun t ht hW => ⟨⟨(σ 0), (σ, φ, γ, ψ), rfl, ⟨rfl, rfl, (show (Int32.toInt frm) ≤ (Int32.toInt (σ 0)) ∧ (Int32.toInt (σ 0)) ≤ (Int32.toInt (σ 0)) from (by omega))⟩, (by show va_P _ _ _ _; rw [ht]; exact hP)⟩, hS.F ht⟩) hS.2.2 dX7_lineEnd_32
      · have kc_1 := bI_nle rfl rfl c_1
        refine lv_aload_n hx hb dX7_lineEnd_10 rfl (lv_at hl 0 rfl) ?_
        refine lv_iload_n hx hb dX7_lineEnd_11 rfl (lv_at hl 1 rfl) ?_
        refine c_calli (va_runV (As := [.int q]) (rest := []) ⟨hx, hb, hml, hown, hts⟩ (c_X7_at l dC dI a κ σ φ γ ψ g1 g2 q (show 0 ≤ (Int32.toInt (σ 0)) ∧ (Int32.toInt (σ 0)) ≤ 4000 from (by omega))) (cwV 1 hts gX7_lineEnd_X7_at rfl rfl rfl ⟨rfl, hd_X7_at⟩ ⟨Nat.le_of_ble_eq_true rfl, Nat.le_of_ble_eq_true rfl⟩) (cPreV hP hK hI hN hX hS (va_recv hK hP (ci := 7) (q0 := 1) rfl rfl)) rfl rfl hl.1 rfl (lv_room (Nat.le_of_ble_eq_true rfl)) dX7_lineEnd_12 ⟨(by decide +kernel), (by decide +kernel)⟩) hS ?_
        clear hP hS; intro r_2 S_2 F_2 γ_2 ψ_2 H locs hw hP hS
        obtain ⟨rfl, rfl, (ra_2 : r_2 = tat (σ 0) (φ 0) q)⟩ := hw
        refine lv_bipush (v := 10) hx hb dX7_lineEnd_15 (by decide) ?_
        refine lv_icmp_ne (tgt := 22) hx hb dX7_lineEnd_17 (by decide) (fun c_3 => ?_) (fun c_3 => ?_)
        · have kc_3 := bI_ne rfl L_10 c_3
          obtain ⟨i_4, ei_4⟩ : ∃ z : Int32, z = q + 1 := ⟨_, rfl⟩
          refine lv_iinc (v := i_4) (lv' := [(2, .int i_4), (0, .ref (a 1))]) hx hb dX7_lineEnd_22 hl (k := 1) rfl (by rw [ei_4]; rfl) (by decide) rfl ?_
          clear hl; intro ls hl
          have ti_4 : (Int32.toInt i_4) = (Int32.toInt q) + 1 := aI_add rfl L_1 ei_4 (by have := rng q; have := rng (σ 0); omega)
          refine lv_goto (tgt := 2) hx hb dX7_lineEnd_25 (by decide) ?_
          exact ih2 i_4 γ_2 ψ_2 _ _ _ (show (Int32.toInt frm) ≤ (Int32.toInt i_4) ∧ (Int32.toInt i_4) ≤ (Int32.toInt (σ 0)) from (by omega)) (by omega) hP hS (lv_sub hl [1, 0] rfl)
        · have kc_3 := bI_eq rfl L_10 c_3
          refine lv_iload_n hx hb dX7_lineEnd_20 rfl (lv_at hl 1 rfl) ?_
          subst eQ
          exact W.iret (v := q) hx hb hr (fun t ht hW => ⟨⟨q, (σ, φ, γ_2, ψ_2), rfl, ⟨rfl, rfl, (show (Int32.toInt frm) ≤ (Int32.toInt q) ∧ (Int32.toInt q) ≤ (Int32.toInt (σ 0)) from (by omega))⟩, (by show va_P _ _ _ _; rw [ht]; exact hP)⟩, hS.F ht⟩) hS.2.2 dX7_lineEnd_21
  refine lv_iload_n hx hb dX7_lineEnd_0 rfl (lv_at hl 1 rfl) ?_
  refine lv_istore_n (lv' := [(2, .int frm), (0, .ref (a 1)), (1, .int frm)]) hx hb dX7_lineEnd_1 rfl hl (by decide) rfl ?_
  clear hl; intro ls hl
  exact J2 (_ + 1) frm γ ψ _ _ _ (show (Int32.toInt frm) ≤ (Int32.toInt frm) ∧ (Int32.toInt frm) ≤ (Int32.toInt (σ 0)) from (by omega)) (Nat.lt_succ_self _) hP hS (lv_sub hl [1, 0] rfl)
set_option maxHeartbeats 4000000 in
set_option maxRecDepth 100000 in
theorem c_X7_behindEmptyLines (l : Launch) (dC : Nat → ClassId) (dI : Nat → Nat → Nat) (a : Nat → Nat) (κ : Nat → ClassId) (σ : Nat → Int32) (φ : Nat → Nat → Int32) (γ : Nat → Int32) (ψ : Nat → Nat → Int32) (g1 g2 : Nat) (frm : Int32) (hlen : 0 ≤ (Int32.toInt (σ 0)) ∧ (Int32.toInt (σ 0)) ≤ 4000) (hf : 0 ≤ (Int32.toInt frm) ∧ (Int32.toInt frm) ≤ (Int32.toInt (σ 0))) : Met l yX7_behindEmptyLines wsX7_behindEmptyLines ({ frames := 1, cells := 0, slots := 0, locals := 21 } : Room) (va_Pc [.ref (a 1), .int frm] (cPre dC dI a κ (σ, φ, γ, ψ) g1 g2)) (va_Qi (QI (fun r S F => σ = S ∧ φ = F ∧ ((Int32.toInt frm) ≤ (Int32.toInt r) ∧ (Int32.toInt r) ≤ (Int32.toInt (σ 0))))) (cB dC dI a κ) (cA a)) 0 0 (cA a) := by
  refine Met.ofW (cc := cX7_behindEmptyLines) (maxL := 3) (ret := (some .int)) (by decide) rfl ?_
  intro p e s m args below meth c s₁ B hml hv
  obtain ⟨rfl, hP, hK, hI, hN, hX⟩ := hv
  have hx := B.exec
  have hb := B.bytes
  have hr := B.returns
  have hts := atoms_spec (ws := wsX7_behindEmptyLines) B.pre
  have hown : s.vm.findClass RX7 = some m.cls := findClass_of_methodNamed B.named
  have hlocks := B.notSynchronized
  have hS : va_S (cA a) s.heap s.heap [] := va_S.rf
  have hinX7 : ∀ w ∈ wsX70, w ∈ wsX7_behindEmptyLines := fun _ h => List.mem_cons_of_mem _ (List.mem_append_right _ h)
  have hl := lv_entry ([.ref (a 1), .int frm]) (n := 3) (Nat.le_of_ble_eq_true rfl)
  rw [lg_entry_eq]
  generalize (lg_sl ([.ref (a 1), .int frm]) ++ List.replicate (3 - (lg_sl ([.ref (a 1), .int frm])).length) Slot.unset).toArray = ls at hl ⊢
  have hl : lv_has ls 3 [(0, .ref (a 1)), (1, .int frm)] := hl
  refine k_gen (fun QQ eQ => ?_)
  have J2 : ∀ (n2 : Nat), ∀ (q : Int32) (γ : Nat → Int32) (ψ : Nat → Nat → Int32) (H : Heap) (locs : List Loc) (ls : Array Slot), ((Int32.toInt frm) ≤ (Int32.toInt q) ∧ (Int32.toInt q) ≤ (Int32.toInt (σ 0))) → (((Int32.toInt (σ 0)) - (Int32.toInt q)).toNat < n2) → va_P (dC, dI) vwCl (cw a κ (σ, φ, γ, ψ)) H → va_S (cA a) s.heap H locs → lv_has ls 3 [(0, .ref (a 1)), (2, .int q)] → W p l e ({ frames := 1, cells := 0, slots := 0, locals := 21 } : Room) s m ([.ref (a 1), .int frm] : List Value).toArray below meth c H locs 0 0 QQ (F0 m 2 ls []) := by
    intro n2
    induction n2 with
    | zero =>
      intro q γ ψ H locs ls vp hm
      exact absurd hm (Nat.not_lt_zero _)
    | succ n2 ih2 =>
      intro q γ ψ H locs ls vp hm hP hS hl
      refine lv_iload_n hx hb dX7_behindEmptyLines_2 rfl (lv_at hl 1 rfl) ?_
      refine lv_aload_n hx hb dX7_behindEmptyLines_3 rfl (lv_at hl 0 rfl) ?_
      refine cg_1_1 (v := (σ 0)) hx hb hts hinX7 hown hK hP (hts (.fieldLink RX7 15 "CensusDesk$Tape" "length" "I") (List.mem_of_getElem? (i := 1) rfl)) rfl dX7_behindEmptyLines_4 ?_
      refine lv_icmp_ge (tgt := 28) hx hb dX7_behindEmptyLines_7 (by decide) (fun c_1 => ?_) (fun c_1 => ?_)
      · have kc_1 := bI_le rfl rfl c_1
        refine lv_aload_n hx hb dX7_behindEmptyLines_28 rfl (lv_at hl 0 rfl) ?_
        refine cg_1_1 (v := (σ 0)) hx hb hts hinX7 hown hK hP (hts (.fieldLink RX7 15 "CensusDesk$Tape" "length" "I") (List.mem_of_getElem? (i := 1) rfl)) rfl dX7_behindEmptyLines_29 ?_
        subst eQ
        exact W.iret (v := (σ 0)) hx hb hr (fun t ht hW => ⟨⟨(σ 0), (σ, φ, γ, ψ), rfl, ⟨rfl, rfl, (show (Int32.toInt frm) ≤ (Int32.toInt (σ 0)) ∧ (Int32.toInt (σ 0)) ≤ (Int32.toInt (σ 0)) from (by omega))⟩, (by show va_P _ _ _ _; rw [ht]; exact hP)⟩, hS.F ht⟩) hS.2.2 dX7_behindEmptyLines_32
      · have kc_1 := bI_nle rfl rfl c_1
        refine lv_aload_n hx hb dX7_behindEmptyLines_10 rfl (lv_at hl 0 rfl) ?_
        refine lv_iload_n hx hb dX7_behindEmptyLines_11 rfl (lv_at hl 1 rfl) ?_
        refine c_calli (va_runV (As := [.int q]) (rest := []) ⟨hx, hb, hml, hown, hts⟩ (c_X7_at l dC dI a κ σ φ γ ψ g1 g2 q (show 0 ≤ (Int32.toInt (σ 0)) ∧ (Int32.toInt (σ 0)) ≤ 4000 from (by omega))) (cwV 1 hts gX7_behindEmptyLines_X7_at rfl rfl rfl ⟨rfl, hd_X7_at⟩ ⟨Nat.le_of_ble_eq_true rfl, Nat.le_of_ble_eq_true rfl⟩) (cPreV hP hK hI hN hX hS (va_recv hK hP (ci := 7) (q0 := 1) rfl rfl)) rfl rfl hl.1 rfl (lv_room (Nat.le_of_ble_eq_true rfl)) dX7_behindEmptyLines_12 ⟨(by decide +kernel), (by decide +kernel)⟩) hS ?_
        clear hP hS; intro r_2 S_2 F_2 γ_2 ψ_2 H locs hw hP hS
        obtain ⟨rfl, rfl, (ra_2 : r_2 = tat (σ 0) (φ 0) q)⟩ := hw
        refine lv_bipush (v := 10) hx hb dX7_behindEmptyLines_15 (by decide) ?_
        refine lv_icmp_eq (tgt := 22) hx hb dX7_behindEmptyLines_17 (by decide) (fun c_3 => ?_) (fun c_3 => ?_)
        · have kc_3 := bI_eq rfl L_10 c_3
          obtain ⟨i_4, ei_4⟩ : ∃ z : Int32, z = q + 1 := ⟨_, rfl⟩
          refine lv_iinc (v := i_4) (lv' := [(2, .int i_4), (0, .ref (a 1))]) hx hb dX7_behindEmptyLines_22 hl (k := 1) rfl (by rw [ei_4]; rfl) (by decide) rfl ?_
          clear hl; intro ls hl
          have ti_4 : (Int32.toInt i_4) = (Int32.toInt q) + 1 := aI_add rfl L_1 ei_4 (by have := rng q; have := rng (σ 0); omega)
          refine lv_goto (tgt := 2) hx hb dX7_behindEmptyLines_25 (by decide) ?_
          exact ih2 i_4 γ_2 ψ_2 _ _ _ (show (Int32.toInt frm) ≤ (Int32.toInt i_4) ∧ (Int32.toInt i_4) ≤ (Int32.toInt (σ 0)) from (by omega)) (by omega) hP hS (lv_sub hl [1, 0] rfl)
        · have kc_3 := bI_ne rfl L_10 c_3
          refine lv_iload_n hx hb dX7_behindEmptyLines_20 rfl (lv_at hl 1 rfl) ?_
          subst eQ
          exact W.iret (v := q) hx hb hr (fun t ht hW => ⟨⟨q, (σ, φ, γ_2, ψ_2), rfl, ⟨rfl, rfl, (show (Int32.toInt frm) ≤ (Int32.toInt q) ∧ (Int32.toInt q) ≤ (Int32.toInt (σ 0)) from (by omega))⟩, (by show va_P _ _ _ _; rw [ht]; exact hP)⟩, hS.F ht⟩) hS.2.2 dX7_behindEmptyLines_21
  refine lv_iload_n hx hb dX7_behindEmptyLines_0 rfl (lv_at hl 1 rfl) ?_
  refine lv_istore_n (lv' := [(2, .int frm), (0, .ref (a 1)), (1, .int frm)]) hx hb dX7_behindEmptyLines_1 rfl hl (by decide) rfl ?_
  clear hl; intro ls hl
  exact J2 (_ + 1) frm γ ψ _ _ _ (show (Int32.toInt frm) ≤ (Int32.toInt frm) ∧ (Int32.toInt frm) ≤ (Int32.toInt (σ 0)) from (by omega)) (Nat.lt_succ_self _) hP hS (lv_sub hl [1, 0] rfl)
set_option maxHeartbeats 4000000 in
set_option maxRecDepth 100000 in
theorem c_X5_change (l : Launch) (dC : Nat → ClassId) (dI : Nat → Nat → Nat) (a : Nat → Nat) (κ : Nat → ClassId) (σ : Nat → Int32) (φ : Nat → Nat → Int32) (γ : Nat → Int32) (ψ : Nat → Nat → Int32) (g1 g2 : Nat) (kind : Int32) (newWay : Int32) (newNumber : Int32) : Met l yX5_change wsX5_change ({ frames := 0, cells := 0, slots := 0, locals := 0 } : Room) (va_Pc [.ref (a 2), .int kind, .int newWay, .int newNumber] (cPre dC dI a κ (σ, φ, γ, ψ) g1 g2)) (va_Qi (QI (fun r S F => σ = S ∧ φ = F ∧ True)) (cB dC dI a κ) (cA a)) 0 0 (cA a) := by
  refine Met.ofW (cc := cX5_change) (maxL := 5) (ret := (some .int)) (by decide) rfl ?_
  intro p e s m args below meth c s₁ B hml hv
  obtain ⟨rfl, hP, hK, hI, hN, hX⟩ := hv
  have hx := B.exec
  have hb := B.bytes
  have hr := B.returns
  have hts := atoms_spec (ws := wsX5_change) B.pre
  have hown : s.vm.findClass RX5 = some m.cls := findClass_of_methodNamed B.named
  have hlocks := B.notSynchronized
  have hS : va_S (cA a) s.heap s.heap [] := va_S.rf
  have hinX5 : ∀ w ∈ wsX50, w ∈ wsX5_change := fun _ h => List.mem_cons_of_mem _ (List.mem_append_right _ h)
  have hl := lv_entry ([.ref (a 2), .int kind, .int newWay, .int newNumber]) (n := 5) (Nat.le_of_ble_eq_true rfl)
  rw [lg_entry_eq]
  generalize (lg_sl ([.ref (a 2), .int kind, .int newWay, .int newNumber]) ++ List.replicate (5 - (lg_sl ([.ref (a 2), .int kind, .int newWay, .int newNumber])).length) Slot.unset).toArray = ls at hl ⊢
  have hl : lv_has ls 5 [(0, .ref (a 2)), (1, .int kind), (2, .int newWay), (3, .int newNumber)] := hl
  refine lv_iload_n hx hb dX5_change_0 rfl (lv_at hl 1 rfl) ?_
  refine lv_iconst (v := 1) hx hb dX5_change_1 (by decide) ?_
  refine lv_icmp_lt (tgt := 11) hx hb dX5_change_2 (by decide) (fun c_1 => ?_) (fun c_1 => ?_)
  · have kc_1 := bI_lt rfl L_1 c_1
    refine lv_bipush (v := (-3)) hx hb dX5_change_11 (by decide) ?_
    exact W.iret (v := (-3)) hx hb hr (fun t ht hW => ⟨⟨(-3), (σ, φ, γ, ψ), rfl, ⟨rfl, rfl, trivial⟩, (by show va_P _ _ _ _; rw [ht]; exact hP)⟩, hS.F ht⟩) hS.2.2 dX5_change_13
  · have kc_1 := bI_nlt rfl L_1 c_1
    refine lv_iload_n hx hb dX5_change_5 rfl (lv_at hl 1 rfl) ?_
    refine lv_bipush (v := 29) hx hb dX5_change_6 (by decide) ?_
    refine lv_icmp_le (tgt := 14) hx hb dX5_change_8 (by decide) (fun c_2 => ?_) (fun c_2 => ?_)
    · have kc_2 := bI_le rfl L_29 c_2
      refine lv_aload_n hx hb dX5_change_14 rfl (lv_at hl 0 rfl) ?_
      refine cg_2_0 hx hb hts hinX5 hown hK hP (hts (.fieldLink RX5 9 "CensusDesk$Rules" "way" "[I") (List.mem_of_getElem? (i := 1) rfl)) dX5_change_15 ?_
      refine lv_iload_n hx hb dX5_change_18 rfl (lv_at hl 1 rfl) ?_
      refine cl_10 (f := (ψ 0)) hx hb hK hP (i := kind) (vin rfl (by omega)) rfl dX5_change_19 ?_
      refine lv_topi (fun z_3 ez_3 => ?_)
      refine lv_istore (lv' := [(4, .int z_3), (0, .ref (a 2)), (1, .int kind), (2, .int newWay), (3, .int newNumber)]) hx hb dX5_change_20 hl (by decide) rfl ?_
      clear hl; intro ls hl
      refine lv_aload_n hx hb dX5_change_22 rfl (lv_at hl 1 rfl) ?_
      refine cg_2_0 hx hb hts hinX5 hown hK hP (hts (.fieldLink RX5 9 "CensusDesk$Rules" "way" "[I") (List.mem_of_getElem? (i := 1) rfl)) dX5_change_23 ?_
      refine lv_iload_n hx hb dX5_change_26 rfl (lv_at hl 2 rfl) ?_
      refine lv_iload_n hx hb dX5_change_27 rfl (lv_at hl 3 rfl) ?_
      refine cs_10 (f := (ψ 0)) hx hb hK hP hI hS (i := kind) (x := newWay) (vin rfl (by omega)) rfl dX5_change_28 ?_
      clear hP hS; intro H locs hP hS
      obtain ⟨f_4, ef_4⟩ : ∃ z : Nat → Int32, z = upd (ψ 0) (Int32.toNatClampNeg kind) newWay := ⟨_, rfl⟩
      rw [← ef_4] at hP
      refine lv_aload_n hx hb dX5_change_29 rfl (lv_at hl 1 rfl) ?_
      refine cg_2_1 hx hb hts hinX5 hown hK hP (hts (.fieldLink RX5 15 "CensusDesk$Rules" "number" "[I") (List.mem_of_getElem? (i := 2) rfl)) dX5_change_30 ?_
      refine lv_iload_n hx hb dX5_change_33 rfl (lv_at hl 2 rfl) ?_
      refine lv_iload_n hx hb dX5_change_34 rfl (lv_at hl 4 rfl) ?_
      refine cs_11 (f := (ψ 1)) hx hb hK hP hI hS (i := kind) (x := newNumber) (vin rfl (by omega)) rfl dX5_change_35 ?_
      clear hP hS; intro H locs hP hS
      obtain ⟨f_5, ef_5⟩ : ∃ z : Nat → Int32, z = upd (ψ 1) (Int32.toNatClampNeg kind) newNumber := ⟨_, rfl⟩
      rw [← ef_5] at hP
      refine lv_iload hx hb dX5_change_36 (lv_at hl 0 rfl) ?_
      exact W.iret (v := z_3) hx hb hr (fun t ht hW => ⟨⟨z_3, (σ, φ, γ, (up (up ψ 0 f_4) 1 f_5)), rfl, ⟨rfl, rfl, trivial⟩, (by show va_P _ _ _ _; rw [ht]; exact hP)⟩, hS.F ht⟩) hS.2.2 dX5_change_38
    · have kc_2 := bI_nle rfl L_29 c_2
      refine lv_bipush (v := (-3)) hx hb dX5_change_11 (by decide) ?_
      exact W.iret (v := (-3)) hx hb hr (fun t ht hW => ⟨⟨(-3), (σ, φ, γ, ψ), rfl, ⟨rfl, rfl, trivial⟩, (by show va_P _ _ _ _; rw [ht]; exact hP)⟩, hS.F ht⟩) hS.2.2 dX5_change_13
set_option maxHeartbeats 4000000 in
set_option maxRecDepth 100000 in
theorem c_X5_rowFor (l : Launch) (dC : Nat → ClassId) (dI : Nat → Nat → Nat) (a : Nat → Nat) (κ : Nat → ClassId) (σ : Nat → Int32) (φ : Nat → Nat → Int32) (γ : Nat → Int32) (ψ : Nat → Nat → Int32) (g1 g2 : Nat) (kind : Int32) : Met l yX5_rowFor wsX5_rowFor ({ frames := 0, cells := 0, slots := 0, locals := 0 } : Room) (va_Pc [.ref (a 2), .int kind] (cPre dC dI a κ (σ, φ, γ, ψ) g1 g2)) (va_Qi (QI (fun r S F => σ = S ∧ φ = F ∧ True)) (cB dC dI a κ) (cA a)) 0 0 (cA a) := by
  refine Met.ofW (cc := cX5_rowFor) (maxL := 4) (ret := (some .int)) (by decide) rfl ?_
  intro p e s m args below meth c s₁ B hml hv
  obtain ⟨rfl, hP, hK, hI, hN, hX⟩ := hv
  have hx := B.exec
  have hb := B.bytes
  have hr := B.returns
  have hts := atoms_spec (ws := wsX5_rowFor) B.pre
  have hown : s.vm.findClass RX5 = some m.cls := findClass_of_methodNamed B.named
  have hlocks := B.notSynchronized
  have hS : va_S (cA a) s.heap s.heap [] := va_S.rf
  have hinX5 : ∀ w ∈ wsX50, w ∈ wsX5_rowFor := fun _ h => List.mem_cons_of_mem _ (List.mem_append_right _ h)
  have hl := lv_entry ([.ref (a 2), .int kind]) (n := 4) (Nat.le_of_ble_eq_true rfl)
  rw [lg_entry_eq]
  generalize (lg_sl ([.ref (a 2), .int kind]) ++ List.replicate (4 - (lg_sl ([.ref (a 2), .int kind])).length) Slot.unset).toArray = ls at hl ⊢
  have hl : lv_has ls 4 [(0, .ref (a 2)), (1, .int kind)] := hl
  refine k_gen (fun QQ eQ => ?_)
  have J4 : ∀ (n4 : Nat), ∀ (at_ : Int32) (step : Int32) (γ : Nat → Int32) (ψ : Nat → Nat → Int32) (H : Heap) (locs : List Loc) (ls : Array Slot), (0 ≤ (Int32.toInt step)) → ((5 - (Int32.toInt step)).toNat < n4) → va_P (dC, dI) vwCl (cw a κ (σ, φ, γ, ψ)) H → va_S (cA a) s.heap H locs → lv_has ls 4 [(0, .ref (a 2)), (2, .int at_), (3, .int step)] → W p l e ({ frames := 0, cells := 0, slots := 0, locals := 0 } : Room) s m ([.ref (a 2), .int kind] : List Value).toArray below meth c H locs 0 0 QQ (F0 m 4 ls []) := by
    intro n4
    induction n4 with
    | zero =>
      intro at_ step γ ψ H locs ls v0 hm
      exact absurd hm (Nat.not_lt_zero _)
    | succ n4 ih4 =>
      intro at_ step γ ψ H locs ls v0 hm hP hS hl
      refine lv_iload_n hx hb dX5_rowFor_4 rfl (lv_at hl 2 rfl) ?_
      refine lv_iconst (v := 5) hx hb dX5_rowFor_5 (by decide) ?_
      refine lv_icmp_ge (tgt := 45) hx hb dX5_rowFor_6 (by decide) (fun c_1 => ?_) (fun c_1 => ?_)
      · have kc_1 := bI_le L_5 rfl c_1
        refine lv_iconst (v := 0) hx hb dX5_rowFor_45 (by decide) ?_
        subst eQ
        exact W.iret (v := 0) hx hb hr (fun t ht hW => ⟨⟨0, (σ, φ, γ, ψ), rfl, ⟨rfl, rfl, trivial⟩, (by show va_P _ _ _ _; rw [ht]; exact hP)⟩, hS.F ht⟩) hS.2.2 dX5_rowFor_46
      · have kc_1 := bI_nle L_5 rfl c_1
        refine lv_iload_n hx hb dX5_rowFor_9 rfl (lv_at hl 1 rfl) ?_
        refine lv_iconst (v := 1) hx hb dX5_rowFor_10 (by decide) ?_
        refine lv_icmp_lt (tgt := 20) hx hb dX5_rowFor_11 (by decide) (fun c_2 => ?_) (fun c_2 => ?_)
        · have kc_2 := bI_lt rfl L_1 c_2
          refine lv_iconst (v := 0) hx hb dX5_rowFor_20 (by decide) ?_
          subst eQ
          exact W.iret (v := 0) hx hb hr (fun t ht hW => ⟨⟨0, (σ, φ, γ, ψ), rfl, ⟨rfl, rfl, trivial⟩, (by show va_P _ _ _ _; rw [ht]; exact hP)⟩, hS.F ht⟩) hS.2.2 dX5_rowFor_21
        · have kc_2 := bI_nlt rfl L_1 c_2
          refine lv_iload_n hx hb dX5_rowFor_14 rfl (lv_at hl 1 rfl) ?_
          refine lv_bipush (v := 29) hx hb dX5_rowFor_15 (by decide) ?_
          refine lv_icmp_le (tgt := 22) hx hb dX5_rowFor_17 (by decide) (fun c_3 => ?_) (fun c_3 => ?_)
          · have kc_3 := bI_le rfl L_29 c_3
            refine lv_aload_n hx hb dX5_rowFor_22 rfl (lv_at hl 0 rfl) ?_
            refine cg_2_0 hx hb hts hinX5 hown hK hP (hts (.fieldLink RX5 9 "CensusDesk$Rules" "way" "[I") (List.mem_of_getElem? (i := 1) rfl)) dX5_rowFor_23 ?_
            refine lv_iload_n hx hb dX5_rowFor_26 rfl (lv_at hl 1 rfl) ?_
            refine cl_10 (f := (ψ 0)) hx hb hK hP (i := at_) (vin rfl (by omega)) rfl dX5_rowFor_27 ?_
            refine lv_topi (fun z_4 ez_4 => ?_)
            refine lv_if_lt (tgt := 33) hx hb dX5_rowFor_28 (by decide) (fun c_5 => ?_) (fun c_5 => ?_)
            · have kc_5 := bI_lt rfl L_0 c_5
              refine va_gets (C := RX5) (n := "GROUP_OF") (d := "[I") (v := .ref g1) hx hb hX.1 hS hown (hts (.fieldLink RX5 24 "CensusDesk$Rules" "GROUP_OF" "[I") (List.mem_of_getElem? (i := 2) rfl)) (fun _ h9 => h9) dX5_rowFor_33 ?_
              refine lv_iload_n hx hb dX5_rowFor_36 rfl (lv_at hl 1 rfl) ?_
              refine va_ti (v := .int (gof (Int32.toNatClampNeg at_))) hx hb hX.2.1 hS (i := at_) (vin rfl (by omega)) rfl dX5_rowFor_37 ?_
              refine lv_topi (fun z_6 ez_6 => ?_)
              refine lv_istore_n (lv' := [(2, .int z_6), (0, .ref (a 2)), (3, .int step)]) hx hb dX5_rowFor_38 rfl hl (by decide) rfl ?_
              clear hl; intro ls hl
              obtain ⟨i_7, ei_7⟩ : ∃ z : Int32, z = step + 1 := ⟨_, rfl⟩
              refine lv_iinc (v := i_7) (lv' := [(3, .int i_7), (2, .int z_6), (0, .ref (a 2))]) hx hb dX5_rowFor_39 hl (k := 2) rfl (by rw [ei_7]; rfl) (by decide) rfl ?_
              clear hl; intro ls hl
              have ti_7 : (Int32.toInt i_7) = (Int32.toInt step) + 1 := aI_add rfl L_1 ei_7 (by have := rng step; omega)
              refine lv_goto (tgt := 4) hx hb dX5_rowFor_42 (by decide) ?_
              exact ih4 z_6 i_7 γ ψ _ _ _ (show 0 ≤ (Int32.toInt i_7) from (by omega)) (by omega) hP hS (lv_sub hl [2, 1, 0] rfl)
            · have kc_5 := bI_nlt rfl L_0 c_5
              refine lv_iload_n hx hb dX5_rowFor_31 rfl (lv_at hl 1 rfl) ?_
              subst eQ
              exact W.iret (v := at_) hx hb hr (fun t ht hW => ⟨⟨at_, (σ, φ, γ, ψ), rfl, ⟨rfl, rfl, trivial⟩, (by show va_P _ _ _ _; rw [ht]; exact hP)⟩, hS.F ht⟩) hS.2.2 dX5_rowFor_32
          · have kc_3 := bI_nle rfl L_29 c_3
            refine lv_iconst (v := 0) hx hb dX5_rowFor_20 (by decide) ?_
            subst eQ
            exact W.iret (v := 0) hx hb hr (fun t ht hW => ⟨⟨0, (σ, φ, γ, ψ), rfl, ⟨rfl, rfl, trivial⟩, (by show va_P _ _ _ _; rw [ht]; exact hP)⟩, hS.F ht⟩) hS.2.2 dX5_rowFor_21
  refine lv_iload_n hx hb dX5_rowFor_0 rfl (lv_at hl 1 rfl) ?_
  refine lv_istore_n (lv' := [(2, .int kind), (0, .ref (a 2)), (1, .int kind)]) hx hb dX5_rowFor_1 rfl hl (by decide) rfl ?_
  clear hl; intro ls hl
  refine lv_iconst (v := 0) hx hb dX5_rowFor_2 (by decide) ?_
  refine lv_istore_n (lv' := [(3, .int 0), (2, .int kind), (0, .ref (a 2)), (1, .int kind)]) hx hb dX5_rowFor_3 rfl hl (by decide) rfl ?_
  clear hl; intro ls hl
  exact J4 (_ + 1) kind 0 γ ψ _ _ _ (show 0 ≤ (Int32.toInt 0) from (by have := L_0; omega)) (Nat.lt_succ_self _) hP hS (lv_sub hl [2, 1, 0] rfl)
set_option maxHeartbeats 4000000 in
set_option maxRecDepth 100000 in
theorem c_X5_wayAt (l : Launch) (dC : Nat → ClassId) (dI : Nat → Nat → Nat) (a : Nat → Nat) (κ : Nat → ClassId) (σ : Nat → Int32) (φ : Nat → Nat → Int32) (γ : Nat → Int32) (ψ : Nat → Nat → Int32) (g1 g2 : Nat) (row : Int32) : Met l yX5_wayAt wsX5_wayAt ({ frames := 0, cells := 0, slots := 0, locals := 0 } : Room) (va_Pc [.ref (a 2), .int row] (cPre dC dI a κ (σ, φ, γ, ψ) g1 g2)) (va_Qi (QI (fun r S F => σ = S ∧ φ = F ∧ True)) (cB dC dI a κ) (cA a)) 0 0 (cA a) := by
  refine Met.ofW (cc := cX5_wayAt) (maxL := 2) (ret := (some .int)) (by decide) rfl ?_
  intro p e s m args below meth c s₁ B hml hv
  obtain ⟨rfl, hP, hK, hI, hN, hX⟩ := hv
  have hx := B.exec
  have hb := B.bytes
  have hr := B.returns
  have hts := atoms_spec (ws := wsX5_wayAt) B.pre
  have hown : s.vm.findClass RX5 = some m.cls := findClass_of_methodNamed B.named
  have hlocks := B.notSynchronized
  have hS : va_S (cA a) s.heap s.heap [] := va_S.rf
  have hinX5 : ∀ w ∈ wsX50, w ∈ wsX5_wayAt := fun _ h => List.mem_cons_of_mem _ (List.mem_append_right _ h)
  have hl := lv_entry ([.ref (a 2), .int row]) (n := 2) (Nat.le_of_ble_eq_true rfl)
  rw [lg_entry_eq]
  generalize (lg_sl ([.ref (a 2), .int row]) ++ List.replicate (2 - (lg_sl ([.ref (a 2), .int row])).length) Slot.unset).toArray = ls at hl ⊢
  have hl : lv_has ls 2 [(0, .ref (a 2)), (1, .int row)] := hl
  refine lv_iload_n hx hb dX5_wayAt_0 rfl (lv_at hl 1 rfl) ?_
  refine lv_if_lt (tgt := 19) hx hb dX5_wayAt_1 (by decide) (fun c_1 => ?_) (fun c_1 => ?_)
  · have kc_1 := bI_lt rfl L_0 c_1
    refine lv_iconst (v := 0) hx hb dX5_wayAt_19 (by decide) ?_
    exact W.iret (v := 0) hx hb hr (fun t ht hW => ⟨⟨0, (σ, φ, γ, ψ), rfl, ⟨rfl, rfl, trivial⟩, (by show va_P _ _ _ _; rw [ht]; exact hP)⟩, hS.F ht⟩) hS.2.2 dX5_wayAt_20
  · have kc_1 := bI_nlt rfl L_0 c_1
    refine lv_iload_n hx hb dX5_wayAt_4 rfl (lv_at hl 1 rfl) ?_
    refine lv_bipush (v := 29) hx hb dX5_wayAt_5 (by decide) ?_
    refine lv_icmp_gt (tgt := 19) hx hb dX5_wayAt_7 (by decide) (fun c_2 => ?_) (fun c_2 => ?_)
    · have kc_2 := bI_lt L_29 rfl c_2
      refine lv_iconst (v := 0) hx hb dX5_wayAt_19 (by decide) ?_
      exact W.iret (v := 0) hx hb hr (fun t ht hW => ⟨⟨0, (σ, φ, γ, ψ), rfl, ⟨rfl, rfl, trivial⟩, (by show va_P _ _ _ _; rw [ht]; exact hP)⟩, hS.F ht⟩) hS.2.2 dX5_wayAt_20
    · have kc_2 := bI_nlt L_29 rfl c_2
      refine lv_aload_n hx hb dX5_wayAt_10 rfl (lv_at hl 0 rfl) ?_
      refine cg_2_0 hx hb hts hinX5 hown hK hP (hts (.fieldLink RX5 9 "CensusDesk$Rules" "way" "[I") (List.mem_of_getElem? (i := 1) rfl)) dX5_wayAt_11 ?_
      refine lv_iload_n hx hb dX5_wayAt_14 rfl (lv_at hl 1 rfl) ?_
      refine cl_10 (f := (ψ 0)) hx hb hK hP (i := row) (vin rfl (by omega)) rfl dX5_wayAt_15 ?_
      refine lv_topi (fun z_3 ez_3 => ?_)
      refine lv_goto (tgt := 20) hx hb dX5_wayAt_16 (by decide) ?_
      exact W.iret (v := z_3) hx hb hr (fun t ht hW => ⟨⟨z_3, (σ, φ, γ, ψ), rfl, ⟨rfl, rfl, trivial⟩, (by show va_P _ _ _ _; rw [ht]; exact hP)⟩, hS.F ht⟩) hS.2.2 dX5_wayAt_20
set_option maxHeartbeats 4000000 in
set_option maxRecDepth 100000 in
theorem c_X5_numberAt (l : Launch) (dC : Nat → ClassId) (dI : Nat → Nat → Nat) (a : Nat → Nat) (κ : Nat → ClassId) (σ : Nat → Int32) (φ : Nat → Nat → Int32) (γ : Nat → Int32) (ψ : Nat → Nat → Int32) (g1 g2 : Nat) (row : Int32) : Met l yX5_numberAt wsX5_numberAt ({ frames := 0, cells := 0, slots := 0, locals := 0 } : Room) (va_Pc [.ref (a 2), .int row] (cPre dC dI a κ (σ, φ, γ, ψ) g1 g2)) (va_Qi (QI (fun r S F => σ = S ∧ φ = F ∧ True)) (cB dC dI a κ) (cA a)) 0 0 (cA a) := by
  refine Met.ofW (cc := cX5_numberAt) (maxL := 2) (ret := (some .int)) (by decide) rfl ?_
  intro p e s m args below meth c s₁ B hml hv
  obtain ⟨rfl, hP, hK, hI, hN, hX⟩ := hv
  have hx := B.exec
  have hb := B.bytes
  have hr := B.returns
  have hts := atoms_spec (ws := wsX5_numberAt) B.pre
  have hown : s.vm.findClass RX5 = some m.cls := findClass_of_methodNamed B.named
  have hlocks := B.notSynchronized
  have hS : va_S (cA a) s.heap s.heap [] := va_S.rf
  have hinX5 : ∀ w ∈ wsX50, w ∈ wsX5_numberAt := fun _ h => List.mem_cons_of_mem _ (List.mem_append_right _ h)
  have hl := lv_entry ([.ref (a 2), .int row]) (n := 2) (Nat.le_of_ble_eq_true rfl)
  rw [lg_entry_eq]
  generalize (lg_sl ([.ref (a 2), .int row]) ++ List.replicate (2 - (lg_sl ([.ref (a 2), .int row])).length) Slot.unset).toArray = ls at hl ⊢
  have hl : lv_has ls 2 [(0, .ref (a 2)), (1, .int row)] := hl
  refine lv_iload_n hx hb dX5_numberAt_0 rfl (lv_at hl 1 rfl) ?_
  refine lv_if_lt (tgt := 19) hx hb dX5_numberAt_1 (by decide) (fun c_1 => ?_) (fun c_1 => ?_)
  · have kc_1 := bI_lt rfl L_0 c_1
    refine lv_iconst (v := 0) hx hb dX5_numberAt_19 (by decide) ?_
    exact W.iret (v := 0) hx hb hr (fun t ht hW => ⟨⟨0, (σ, φ, γ, ψ), rfl, ⟨rfl, rfl, trivial⟩, (by show va_P _ _ _ _; rw [ht]; exact hP)⟩, hS.F ht⟩) hS.2.2 dX5_numberAt_20
  · have kc_1 := bI_nlt rfl L_0 c_1
    refine lv_iload_n hx hb dX5_numberAt_4 rfl (lv_at hl 1 rfl) ?_
    refine lv_bipush (v := 29) hx hb dX5_numberAt_5 (by decide) ?_
    refine lv_icmp_gt (tgt := 19) hx hb dX5_numberAt_7 (by decide) (fun c_2 => ?_) (fun c_2 => ?_)
    · have kc_2 := bI_lt L_29 rfl c_2
      refine lv_iconst (v := 0) hx hb dX5_numberAt_19 (by decide) ?_
      exact W.iret (v := 0) hx hb hr (fun t ht hW => ⟨⟨0, (σ, φ, γ, ψ), rfl, ⟨rfl, rfl, trivial⟩, (by show va_P _ _ _ _; rw [ht]; exact hP)⟩, hS.F ht⟩) hS.2.2 dX5_numberAt_20
    · have kc_2 := bI_nlt L_29 rfl c_2
      refine lv_aload_n hx hb dX5_numberAt_10 rfl (lv_at hl 0 rfl) ?_
      refine cg_2_1 hx hb hts hinX5 hown hK hP (hts (.fieldLink RX5 15 "CensusDesk$Rules" "number" "[I") (List.mem_of_getElem? (i := 1) rfl)) dX5_numberAt_11 ?_
      refine lv_iload_n hx hb dX5_numberAt_14 rfl (lv_at hl 1 rfl) ?_
      refine cl_11 (f := (ψ 1)) hx hb hK hP (i := row) (vin rfl (by omega)) rfl dX5_numberAt_15 ?_
      refine lv_topi (fun z_3 ez_3 => ?_)
      refine lv_goto (tgt := 20) hx hb dX5_numberAt_16 (by decide) ?_
      exact W.iret (v := z_3) hx hb hr (fun t ht hW => ⟨⟨z_3, (σ, φ, γ, ψ), rfl, ⟨rfl, rfl, trivial⟩, (by show va_P _ _ _ _; rw [ht]; exact hP)⟩, hS.F ht⟩) hS.2.2 dX5_numberAt_20
set_option maxHeartbeats 4000000 in
set_option maxRecDepth 100000 in
theorem c_X5_isWithin (l : Launch) (dC : Nat → ClassId) (dI : Nat → Nat → Nat) (a : Nat → Nat) (κ : Nat → ClassId) (σ : Nat → Int32) (φ : Nat → Nat → Int32) (γ : Nat → Int32) (ψ : Nat → Nat → Int32) (g1 g2 : Nat) (kind : Int32) (group : Int32) : Met l yX5_isWithin wsX5_isWithin ({ frames := 0, cells := 0, slots := 0, locals := 0 } : Room) (va_Pc [.ref (a 2), .int kind, .int group] (cPre dC dI a κ (σ, φ, γ, ψ) g1 g2)) (va_Qi (QI (fun r S F => σ = S ∧ φ = F ∧ True)) (cB dC dI a κ) (cA a)) 0 0 (cA a) := by
  refine Met.ofW (cc := cX5_isWithin) (maxL := 5) (ret := (some .boolean)) (by decide) rfl ?_
  intro p e s m args below meth c s₁ B hml hv
  obtain ⟨rfl, hP, hK, hI, hN, hX⟩ := hv
  have hx := B.exec
  have hb := B.bytes
  have hr := B.returns
  have hts := atoms_spec (ws := wsX5_isWithin) B.pre
  have hown : s.vm.findClass RX5 = some m.cls := findClass_of_methodNamed B.named
  have hlocks := B.notSynchronized
  have hS : va_S (cA a) s.heap s.heap [] := va_S.rf
  have hl := lv_entry ([.ref (a 2), .int kind, .int group]) (n := 5) (Nat.le_of_ble_eq_true rfl)
  rw [lg_entry_eq]
  generalize (lg_sl ([.ref (a 2), .int kind, .int group]) ++ List.replicate (5 - (lg_sl ([.ref (a 2), .int kind, .int group])).length) Slot.unset).toArray = ls at hl ⊢
  have hl : lv_has ls 5 [(0, .ref (a 2)), (1, .int kind), (2, .int group)] := hl
  refine k_gen (fun QQ eQ => ?_)
  have J5 : ∀ (n5 : Nat), ∀ (at_ : Int32) (step : Int32) (γ : Nat → Int32) (ψ : Nat → Nat → Int32) (H : Heap) (locs : List Loc) (ls : Array Slot), (0 ≤ (Int32.toInt step)) → ((5 - (Int32.toInt step)).toNat < n5) → va_P (dC, dI) vwCl (cw a κ (σ, φ, γ, ψ)) H → va_S (cA a) s.heap H locs → lv_has ls 5 [(2, .int group), (3, .int at_), (4, .int step)] → W p l e ({ frames := 0, cells := 0, slots := 0, locals := 0 } : Room) s m ([.ref (a 2), .int kind, .int group] : List Value).toArray below meth c H locs 0 0 QQ (F0 m 5 ls []) := by
    intro n5
    induction n5 with
    | zero =>
      intro at_ step γ ψ H locs ls v0 hm
      exact absurd hm (Nat.not_lt_zero _)
    | succ n5 ih5 =>
      intro at_ step γ ψ H locs ls v0 hm hP hS hl
      refine lv_iload hx hb dX5_isWithin_5 (lv_at hl 2 rfl) ?_
      refine lv_iconst (v := 5) hx hb dX5_isWithin_7 (by decide) ?_
      refine lv_icmp_ge (tgt := 43) hx hb dX5_isWithin_8 (by decide) (fun c_1 => ?_) (fun c_1 => ?_)
      · have kc_1 := bI_le L_5 rfl c_1
        refine lv_iconst (v := 0) hx hb dX5_isWithin_43 (by decide) ?_
        subst eQ
        exact W.zret (v := 0) hx hb hr (by first | rfl | decide) (fun t ht hW => ⟨⟨0, (σ, φ, γ, ψ), rfl, ⟨rfl, rfl, trivial⟩, (by show va_P _ _ _ _; rw [ht]; exact hP)⟩, hS.F ht⟩) hS.2.2 dX5_isWithin_44
      · have kc_1 := bI_nle L_5 rfl c_1
        refine lv_iload_n hx hb dX5_isWithin_11 rfl (lv_at hl 1 rfl) ?_
        refine lv_iload_n hx hb dX5_isWithin_12 rfl (lv_at hl 0 rfl) ?_
        refine lv_icmp_ne (tgt := 18) hx hb dX5_isWithin_13 (by decide) (fun c_2 => ?_) (fun c_2 => ?_)
        · have kc_2 := bI_ne rfl rfl c_2
          refine lv_iload_n hx hb dX5_isWithin_18 rfl (lv_at hl 1 rfl) ?_
          refine lv_iconst (v := 1) hx hb dX5_isWithin_19 (by decide) ?_
          refine lv_icmp_lt (tgt := 29) hx hb dX5_isWithin_20 (by decide) (fun c_3 => ?_) (fun c_3 => ?_)
          · have kc_3 := bI_lt rfl L_1 c_3
            refine lv_iconst (v := 0) hx hb dX5_isWithin_29 (by decide) ?_
            subst eQ
            exact W.zret (v := 0) hx hb hr (by first | rfl | decide) (fun t ht hW => ⟨⟨0, (σ, φ, γ, ψ), rfl, ⟨rfl, rfl, trivial⟩, (by show va_P _ _ _ _; rw [ht]; exact hP)⟩, hS.F ht⟩) hS.2.2 dX5_isWithin_30
          · have kc_3 := bI_nlt rfl L_1 c_3
            refine lv_iload_n hx hb dX5_isWithin_23 rfl (lv_at hl 1 rfl) ?_
            refine lv_bipush (v := 29) hx hb dX5_isWithin_24 (by decide) ?_
            refine lv_icmp_le (tgt := 31) hx hb dX5_isWithin_26 (by decide) (fun c_4 => ?_) (fun c_4 => ?_)
            · have kc_4 := bI_le rfl L_29 c_4
              refine va_gets (C := RX5) (n := "GROUP_OF") (d := "[I") (v := .ref g1) hx hb hX.1 hS hown (hts (.fieldLink RX5 24 "CensusDesk$Rules" "GROUP_OF" "[I") (List.mem_of_getElem? (i := 1) rfl)) (fun _ h9 => h9) dX5_isWithin_31 ?_
              refine lv_iload_n hx hb dX5_isWithin_34 rfl (lv_at hl 1 rfl) ?_
              refine va_ti (v := .int (gof (Int32.toNatClampNeg at_))) hx hb hX.2.1 hS (i := at_) (vin rfl (by omega)) rfl dX5_isWithin_35 ?_
              refine lv_topi (fun z_5 ez_5 => ?_)
              refine lv_istore_n (lv' := [(3, .int z_5), (2, .int group), (4, .int step)]) hx hb dX5_isWithin_36 rfl hl (by decide) rfl ?_
              clear hl; intro ls hl
              obtain ⟨i_6, ei_6⟩ : ∃ z : Int32, z = step + 1 := ⟨_, rfl⟩
              refine lv_iinc (v := i_6) (lv' := [(4, .int i_6), (3, .int z_5), (2, .int group)]) hx hb dX5_isWithin_37 hl (k := 2) rfl (by rw [ei_6]; rfl) (by decide) rfl ?_
              clear hl; intro ls hl
              have ti_6 : (Int32.toInt i_6) = (Int32.toInt step) + 1 := aI_add rfl L_1 ei_6 (by have := rng step; omega)
              refine lv_goto (tgt := 5) hx hb dX5_isWithin_40 (by decide) ?_
              exact ih5 z_5 i_6 γ ψ _ _ _ (show 0 ≤ (Int32.toInt i_6) from (by omega)) (by omega) hP hS (lv_sub hl [2, 1, 0] rfl)
            · have kc_4 := bI_nle rfl L_29 c_4
              refine lv_iconst (v := 0) hx hb dX5_isWithin_29 (by decide) ?_
              subst eQ
              exact W.zret (v := 0) hx hb hr (by first | rfl | decide) (fun t ht hW => ⟨⟨0, (σ, φ, γ, ψ), rfl, ⟨rfl, rfl, trivial⟩, (by show va_P _ _ _ _; rw [ht]; exact hP)⟩, hS.F ht⟩) hS.2.2 dX5_isWithin_30
        · have kc_2 := bI_eq rfl rfl c_2
          refine lv_iconst (v := 1) hx hb dX5_isWithin_16 (by decide) ?_
          subst eQ
          exact W.zret (v := 1) hx hb hr (by first | rfl | decide) (fun t ht hW => ⟨⟨1, (σ, φ, γ, ψ), rfl, ⟨rfl, rfl, trivial⟩, (by show va_P _ _ _ _; rw [ht]; exact hP)⟩, hS.F ht⟩) hS.2.2 dX5_isWithin_17
  refine lv_iload_n hx hb dX5_isWithin_0 rfl (lv_at hl 1 rfl) ?_
  refine lv_istore_n (lv' := [(3, .int kind), (0, .ref (a 2)), (1, .int kind), (2, .int group)]) hx hb dX5_isWithin_1 rfl hl (by decide) rfl ?_
  clear hl; intro ls hl
  refine lv_iconst (v := 0) hx hb dX5_isWithin_2 (by decide) ?_
  refine lv_istore (lv' := [(4, .int 0), (3, .int kind), (0, .ref (a 2)), (1, .int kind), (2, .int group)]) hx hb dX5_isWithin_3 hl (by decide) rfl ?_
  clear hl; intro ls hl
  exact J5 (_ + 1) kind 0 γ ψ _ _ _ (show 0 ≤ (Int32.toInt 0) from (by have := L_0; omega)) (Nat.lt_succ_self _) hP hS (lv_sub hl [4, 1, 0] rfl)
set_option maxHeartbeats 4000000 in
set_option maxRecDepth 100000 in
theorem c_fill_18 (l : Launch) (dC : Nat → ClassId) (dI : Nat → Nat → Nat) (a : Nat → Nat) (κ : Nat → ClassId) (σ : Nat → Int32) (φ : Nat → Nat → Int32) (γ : Nat → Int32) (ψ : Nat → Nat → Int32) (g1 g2 : Nat) (val : Int32) : Met l yJ7_fill_53178 wsJ7_fill_53178 ({ frames := 0, cells := 0, slots := 0, locals := 0 } : Room) (va_Pc [.ref (a 18), .int val] (cPre dC dI a κ (σ, φ, γ, ψ) g1 g2)) (va_Qv (QV (fun S F => σ = S ∧ φ = F ∧ True)) (cB dC dI a κ) (cA a)) 0 0 (cA a) := by
  refine Met.ofW (cc := cJ7_fill_53178) (maxL := 4) (ret := none) (by decide) rfl ?_
  intro p e s m args below meth c s₁ B hml hv
  obtain ⟨rfl, hP, hK, hI, hN, hX⟩ := hv
  have hx := B.exec
  have hb := B.bytes
  have hr := B.returns
  have hts := atoms_spec (ws := wsJ7_fill_53178) B.pre
  have hown : s.vm.findClass RJ7 = some m.cls := findClass_of_methodNamed B.named
  have hlocks := B.notSynchronized
  have hS : va_S (cA a) s.heap s.heap [] := va_S.rf
  have hl := lv_entry ([.ref (a 18), .int val]) (n := 4) (Nat.le_of_ble_eq_true rfl)
  rw [lg_entry_eq]
  generalize (lg_sl ([.ref (a 18), .int val]) ++ List.replicate (4 - (lg_sl ([.ref (a 18), .int val])).length) Slot.unset).toArray = ls at hl ⊢
  have hl : lv_has ls 4 [(0, .ref (a 18)), (1, .int val)] := hl
  refine k_gen (fun QQ eQ => ?_)
  have J5 : ∀ (n5 : Nat), ∀ (i : Int32) (len : Int32) (γ : Nat → Int32) (ψ : Nat → Nat → Int32) (H : Heap) (locs : List Loc) (ls : Array Slot), (0 ≤ (Int32.toInt i) ∧ (Int32.toInt len) = 22) → ((22 - (Int32.toInt i)).toNat < n5) → va_P (dC, dI) vwCl (cw a κ (σ, φ, γ, ψ)) H → va_S (cA a) s.heap H locs → lv_has ls 4 [(0, .ref (a 18)), (1, .int val), (2, .int i), (3, .int len)] → W p l e ({ frames := 0, cells := 0, slots := 0, locals := 0 } : Room) s m ([.ref (a 18), .int val] : List Value).toArray below meth c H locs 0 0 QQ (F0 m 5 ls []) := by
    intro n5
    induction n5 with
    | zero =>
      intro i len γ ψ H locs ls v0 hm
      exact absurd hm (Nat.not_lt_zero _)
    | succ n5 ih5 =>
      intro i len γ ψ H locs ls v0 hm hP hS hl
      refine lv_iload_n hx hb dJ7_fill_53178_5 rfl (lv_at hl 2 rfl) ?_
      refine lv_iload_n hx hb dJ7_fill_53178_6 rfl (lv_at hl 3 rfl) ?_
      refine lv_icmp_ge (tgt := 20) hx hb dJ7_fill_53178_7 (by decide) (fun c_1 => ?_) (fun c_1 => ?_)
      · have kc_1 := bI_le rfl rfl c_1
        subst eQ
        exact W.vret hx hb hr (fun t ht hW => ⟨⟨(σ, φ, γ, ψ), rfl, ⟨rfl, rfl, trivial⟩, (by show va_P _ _ _ _; rw [ht]; exact hP)⟩, hS.F ht⟩) hS.2.2 dJ7_fill_53178_20
      · have kc_1 := bI_nle rfl rfl c_1
        refine lv_aload_n hx hb dJ7_fill_53178_10 rfl (lv_at hl 0 rfl) ?_
        refine lv_iload_n hx hb dJ7_fill_53178_11 rfl (lv_at hl 2 rfl) ?_
        refine lv_iload_n hx hb dJ7_fill_53178_12 rfl (lv_at hl 1 rfl) ?_
        refine cs_18 (f := (ψ 7)) hx hb hK hP hI hS (i := i) (x := val) (vin rfl (by omega)) rfl dJ7_fill_53178_13 ?_
        clear hP hS; intro H locs hP hS
        obtain ⟨f_2, ef_2⟩ : ∃ z : Nat → Int32, z = upd (ψ 7) (Int32.toNatClampNeg i) val := ⟨_, rfl⟩
        rw [← ef_2] at hP
        obtain ⟨i_3, ei_3⟩ : ∃ z : Int32, z = i + 1 := ⟨_, rfl⟩
        refine lv_iinc (v := i_3) (lv' := [(2, .int i_3), (0, .ref (a 18)), (1, .int val), (3, .int len)]) hx hb dJ7_fill_53178_14 hl (k := 2) rfl (by rw [ei_3]; rfl) (by decide) rfl ?_
        clear hl; intro ls hl
        have ti_3 : (Int32.toInt i_3) = (Int32.toInt i) + 1 := aI_add rfl L_1 ei_3 (by have := rng i; have := rng len; omega)
        refine lv_goto (tgt := 5) hx hb dJ7_fill_53178_17 (by decide) ?_
        exact ih5 i_3 len γ (up ψ 7 f_2) _ _ _ (show 0 ≤ (Int32.toInt i_3) ∧ (Int32.toInt len) = 22 from (by omega)) (by omega) hP hS (lv_sub hl [1, 2, 0, 3] rfl)
  refine lv_iconst (v := 0) hx hb dJ7_fill_53178_0 (by decide) ?_
  refine lv_istore_n (lv' := [(2, .int 0), (0, .ref (a 18)), (1, .int val)]) hx hb dJ7_fill_53178_1 rfl hl (by decide) rfl ?_
  clear hl; intro ls hl
  refine lv_aload_n hx hb dJ7_fill_53178_2 rfl (lv_at hl 1 rfl) ?_
  refine cn_18 hx hb hK hP dJ7_fill_53178_3 ?_
  refine lv_istore_n (lv' := [(3, .int 22), (2, .int 0), (0, .ref (a 18)), (1, .int val)]) hx hb dJ7_fill_53178_4 rfl hl (by decide) rfl ?_
  clear hl; intro ls hl
  exact J5 (_ + 1) 0 22 γ ψ _ _ _ (show 0 ≤ (Int32.toInt 0) ∧ (Int32.toInt 22) = 22 from (by have := L_0; have := L_22; omega)) (Nat.lt_succ_self _) hP hS (lv_sub hl [2, 3, 1, 0] rfl)
set_option maxHeartbeats 4000000 in
set_option maxRecDepth 100000 in
theorem c_fill_19 (l : Launch) (dC : Nat → ClassId) (dI : Nat → Nat → Nat) (a : Nat → Nat) (κ : Nat → ClassId) (σ : Nat → Int32) (φ : Nat → Nat → Int32) (γ : Nat → Int32) (ψ : Nat → Nat → Int32) (g1 g2 : Nat) (val : Int32) : Met l yJ7_fill_53178 wsJ7_fill_53178 ({ frames := 0, cells := 0, slots := 0, locals := 0 } : Room) (va_Pc [.ref (a 19), .int val] (cPre dC dI a κ (σ, φ, γ, ψ) g1 g2)) (va_Qv (QV (fun S F => σ = S ∧ φ = F ∧ True)) (cB dC dI a κ) (cA a)) 0 0 (cA a) := by
  refine Met.ofW (cc := cJ7_fill_53178) (maxL := 4) (ret := none) (by decide) rfl ?_
  intro p e s m args below meth c s₁ B hml hv
  obtain ⟨rfl, hP, hK, hI, hN, hX⟩ := hv
  have hx := B.exec
  have hb := B.bytes
  have hr := B.returns
  have hts := atoms_spec (ws := wsJ7_fill_53178) B.pre
  have hown : s.vm.findClass RJ7 = some m.cls := findClass_of_methodNamed B.named
  have hlocks := B.notSynchronized
  have hS : va_S (cA a) s.heap s.heap [] := va_S.rf
  have hl := lv_entry ([.ref (a 19), .int val]) (n := 4) (Nat.le_of_ble_eq_true rfl)
  rw [lg_entry_eq]
  generalize (lg_sl ([.ref (a 19), .int val]) ++ List.replicate (4 - (lg_sl ([.ref (a 19), .int val])).length) Slot.unset).toArray = ls at hl ⊢
  have hl : lv_has ls 4 [(0, .ref (a 19)), (1, .int val)] := hl
  refine k_gen (fun QQ eQ => ?_)
  have J5 : ∀ (n5 : Nat), ∀ (i : Int32) (len : Int32) (γ : Nat → Int32) (ψ : Nat → Nat → Int32) (H : Heap) (locs : List Loc) (ls : Array Slot), (0 ≤ (Int32.toInt i) ∧ (Int32.toInt len) = 5) → ((5 - (Int32.toInt i)).toNat < n5) → va_P (dC, dI) vwCl (cw a κ (σ, φ, γ, ψ)) H → va_S (cA a) s.heap H locs → lv_has ls 4 [(0, .ref (a 19)), (1, .int val), (2, .int i), (3, .int len)] → W p l e ({ frames := 0, cells := 0, slots := 0, locals := 0 } : Room) s m ([.ref (a 19), .int val] : List Value).toArray below meth c H locs 0 0 QQ (F0 m 5 ls []) := by
    intro n5
    induction n5 with
    | zero =>
      intro i len γ ψ H locs ls v0 hm
      exact absurd hm (Nat.not_lt_zero _)
    | succ n5 ih5 =>
      intro i len γ ψ H locs ls v0 hm hP hS hl
      refine lv_iload_n hx hb dJ7_fill_53178_5 rfl (lv_at hl 2 rfl) ?_
      refine lv_iload_n hx hb dJ7_fill_53178_6 rfl (lv_at hl 3 rfl) ?_
      refine lv_icmp_ge (tgt := 20) hx hb dJ7_fill_53178_7 (by decide) (fun c_1 => ?_) (fun c_1 => ?_)
      · have kc_1 := bI_le rfl rfl c_1
        subst eQ
        exact W.vret hx hb hr (fun t ht hW => ⟨⟨(σ, φ, γ, ψ), rfl, ⟨rfl, rfl, trivial⟩, (by show va_P _ _ _ _; rw [ht]; exact hP)⟩, hS.F ht⟩) hS.2.2 dJ7_fill_53178_20
      · have kc_1 := bI_nle rfl rfl c_1
        refine lv_aload_n hx hb dJ7_fill_53178_10 rfl (lv_at hl 0 rfl) ?_
        refine lv_iload_n hx hb dJ7_fill_53178_11 rfl (lv_at hl 2 rfl) ?_
        refine lv_iload_n hx hb dJ7_fill_53178_12 rfl (lv_at hl 1 rfl) ?_
        refine cs_19 (f := (ψ 8)) hx hb hK hP hI hS (i := i) (x := val) (vin rfl (by omega)) rfl dJ7_fill_53178_13 ?_
        clear hP hS; intro H locs hP hS
        obtain ⟨f_2, ef_2⟩ : ∃ z : Nat → Int32, z = upd (ψ 8) (Int32.toNatClampNeg i) val := ⟨_, rfl⟩
        rw [← ef_2] at hP
        obtain ⟨i_3, ei_3⟩ : ∃ z : Int32, z = i + 1 := ⟨_, rfl⟩
        refine lv_iinc (v := i_3) (lv' := [(2, .int i_3), (0, .ref (a 19)), (1, .int val), (3, .int len)]) hx hb dJ7_fill_53178_14 hl (k := 2) rfl (by rw [ei_3]; rfl) (by decide) rfl ?_
        clear hl; intro ls hl
        have ti_3 : (Int32.toInt i_3) = (Int32.toInt i) + 1 := aI_add rfl L_1 ei_3 (by have := rng i; have := rng len; omega)
        refine lv_goto (tgt := 5) hx hb dJ7_fill_53178_17 (by decide) ?_
        exact ih5 i_3 len γ (up ψ 8 f_2) _ _ _ (show 0 ≤ (Int32.toInt i_3) ∧ (Int32.toInt len) = 5 from (by omega)) (by omega) hP hS (lv_sub hl [1, 2, 0, 3] rfl)
  refine lv_iconst (v := 0) hx hb dJ7_fill_53178_0 (by decide) ?_
  refine lv_istore_n (lv' := [(2, .int 0), (0, .ref (a 19)), (1, .int val)]) hx hb dJ7_fill_53178_1 rfl hl (by decide) rfl ?_
  clear hl; intro ls hl
  refine lv_aload_n hx hb dJ7_fill_53178_2 rfl (lv_at hl 1 rfl) ?_
  refine cn_19 hx hb hK hP dJ7_fill_53178_3 ?_
  refine lv_istore_n (lv' := [(3, .int 5), (2, .int 0), (0, .ref (a 19)), (1, .int val)]) hx hb dJ7_fill_53178_4 rfl hl (by decide) rfl ?_
  clear hl; intro ls hl
  exact J5 (_ + 1) 0 5 γ ψ _ _ _ (show 0 ≤ (Int32.toInt 0) ∧ (Int32.toInt 5) = 5 from (by have := L_0; have := L_5; omega)) (Nat.lt_succ_self _) hP hS (lv_sub hl [2, 3, 1, 0] rfl)
set_option maxHeartbeats 4000000 in
set_option maxRecDepth 100000 in
theorem c_fill_20 (l : Launch) (dC : Nat → ClassId) (dI : Nat → Nat → Nat) (a : Nat → Nat) (κ : Nat → ClassId) (σ : Nat → Int32) (φ : Nat → Nat → Int32) (γ : Nat → Int32) (ψ : Nat → Nat → Int32) (g1 g2 : Nat) (val : Int32) : Met l yJ7_fill_53178 wsJ7_fill_53178 ({ frames := 0, cells := 0, slots := 0, locals := 0 } : Room) (va_Pc [.ref (a 20), .int val] (cPre dC dI a κ (σ, φ, γ, ψ) g1 g2)) (va_Qv (QV (fun S F => σ = S ∧ φ = F ∧ True)) (cB dC dI a κ) (cA a)) 0 0 (cA a) := by
  refine Met.ofW (cc := cJ7_fill_53178) (maxL := 4) (ret := none) (by decide) rfl ?_
  intro p e s m args below meth c s₁ B hml hv
  obtain ⟨rfl, hP, hK, hI, hN, hX⟩ := hv
  have hx := B.exec
  have hb := B.bytes
  have hr := B.returns
  have hts := atoms_spec (ws := wsJ7_fill_53178) B.pre
  have hown : s.vm.findClass RJ7 = some m.cls := findClass_of_methodNamed B.named
  have hlocks := B.notSynchronized
  have hS : va_S (cA a) s.heap s.heap [] := va_S.rf
  have hl := lv_entry ([.ref (a 20), .int val]) (n := 4) (Nat.le_of_ble_eq_true rfl)
  rw [lg_entry_eq]
  generalize (lg_sl ([.ref (a 20), .int val]) ++ List.replicate (4 - (lg_sl ([.ref (a 20), .int val])).length) Slot.unset).toArray = ls at hl ⊢
  have hl : lv_has ls 4 [(0, .ref (a 20)), (1, .int val)] := hl
  refine k_gen (fun QQ eQ => ?_)
  have J5 : ∀ (n5 : Nat), ∀ (i : Int32) (len : Int32) (γ : Nat → Int32) (ψ : Nat → Nat → Int32) (H : Heap) (locs : List Loc) (ls : Array Slot), (0 ≤ (Int32.toInt i) ∧ (Int32.toInt len) = 5) → ((5 - (Int32.toInt i)).toNat < n5) → va_P (dC, dI) vwCl (cw a κ (σ, φ, γ, ψ)) H → va_S (cA a) s.heap H locs → lv_has ls 4 [(0, .ref (a 20)), (1, .int val), (2, .int i), (3, .int len)] → W p l e ({ frames := 0, cells := 0, slots := 0, locals := 0 } : Room) s m ([.ref (a 20), .int val] : List Value).toArray below meth c H locs 0 0 QQ (F0 m 5 ls []) := by
    intro n5
    induction n5 with
    | zero =>
      intro i len γ ψ H locs ls v0 hm
      exact absurd hm (Nat.not_lt_zero _)
    | succ n5 ih5 =>
      intro i len γ ψ H locs ls v0 hm hP hS hl
      refine lv_iload_n hx hb dJ7_fill_53178_5 rfl (lv_at hl 2 rfl) ?_
      refine lv_iload_n hx hb dJ7_fill_53178_6 rfl (lv_at hl 3 rfl) ?_
      refine lv_icmp_ge (tgt := 20) hx hb dJ7_fill_53178_7 (by decide) (fun c_1 => ?_) (fun c_1 => ?_)
      · have kc_1 := bI_le rfl rfl c_1
        subst eQ
        exact W.vret hx hb hr (fun t ht hW => ⟨⟨(σ, φ, γ, ψ), rfl, ⟨rfl, rfl, trivial⟩, (by show va_P _ _ _ _; rw [ht]; exact hP)⟩, hS.F ht⟩) hS.2.2 dJ7_fill_53178_20
      · have kc_1 := bI_nle rfl rfl c_1
        refine lv_aload_n hx hb dJ7_fill_53178_10 rfl (lv_at hl 0 rfl) ?_
        refine lv_iload_n hx hb dJ7_fill_53178_11 rfl (lv_at hl 2 rfl) ?_
        refine lv_iload_n hx hb dJ7_fill_53178_12 rfl (lv_at hl 1 rfl) ?_
        refine cs_20 (f := (ψ 9)) hx hb hK hP hI hS (i := i) (x := val) (vin rfl (by omega)) rfl dJ7_fill_53178_13 ?_
        clear hP hS; intro H locs hP hS
        obtain ⟨f_2, ef_2⟩ : ∃ z : Nat → Int32, z = upd (ψ 9) (Int32.toNatClampNeg i) val := ⟨_, rfl⟩
        rw [← ef_2] at hP
        obtain ⟨i_3, ei_3⟩ : ∃ z : Int32, z = i + 1 := ⟨_, rfl⟩
        refine lv_iinc (v := i_3) (lv' := [(2, .int i_3), (0, .ref (a 20)), (1, .int val), (3, .int len)]) hx hb dJ7_fill_53178_14 hl (k := 2) rfl (by rw [ei_3]; rfl) (by decide) rfl ?_
        clear hl; intro ls hl
        have ti_3 : (Int32.toInt i_3) = (Int32.toInt i) + 1 := aI_add rfl L_1 ei_3 (by have := rng i; have := rng len; omega)
        refine lv_goto (tgt := 5) hx hb dJ7_fill_53178_17 (by decide) ?_
        exact ih5 i_3 len γ (up ψ 9 f_2) _ _ _ (show 0 ≤ (Int32.toInt i_3) ∧ (Int32.toInt len) = 5 from (by omega)) (by omega) hP hS (lv_sub hl [1, 2, 0, 3] rfl)
  refine lv_iconst (v := 0) hx hb dJ7_fill_53178_0 (by decide) ?_
  refine lv_istore_n (lv' := [(2, .int 0), (0, .ref (a 20)), (1, .int val)]) hx hb dJ7_fill_53178_1 rfl hl (by decide) rfl ?_
  clear hl; intro ls hl
  refine lv_aload_n hx hb dJ7_fill_53178_2 rfl (lv_at hl 1 rfl) ?_
  refine cn_20 hx hb hK hP dJ7_fill_53178_3 ?_
  refine lv_istore_n (lv' := [(3, .int 5), (2, .int 0), (0, .ref (a 20)), (1, .int val)]) hx hb dJ7_fill_53178_4 rfl hl (by decide) rfl ?_
  clear hl; intro ls hl
  exact J5 (_ + 1) 0 5 γ ψ _ _ _ (show 0 ≤ (Int32.toInt 0) ∧ (Int32.toInt 5) = 5 from (by have := L_0; have := L_5; omega)) (Nat.lt_succ_self _) hP hS (lv_sub hl [2, 3, 1, 0] rfl)
set_option maxHeartbeats 4000000 in
set_option maxRecDepth 100000 in
theorem c_X1_forgetHousehold (l : Launch) (dC : Nat → ClassId) (dI : Nat → Nat → Nat) (a : Nat → Nat) (κ : Nat → ClassId) (σ : Nat → Int32) (φ : Nat → Nat → Int32) (γ : Nat → Int32) (ψ : Nat → Nat → Int32) (g1 g2 : Nat)  : Met l yX1_forgetHousehold wsX1_forgetHousehold ({ frames := 1, cells := 0, slots := 0, locals := 23 } : Room) (va_Pc [.ref (a 3)] (cPre dC dI a κ (σ, φ, γ, ψ) g1 g2)) (va_Qv (QV (fun S F => σ = S ∧ φ = F ∧ True)) (cB dC dI a κ) (cA a)) 0 0 (cA a) := by
  refine Met.ofW (cc := cX1_forgetHousehold) (maxL := 1) (ret := none) (by decide) rfl ?_
  intro p e s m args below meth c s₁ B hml hv
  obtain ⟨rfl, hP, hK, hI, hN, hX⟩ := hv
  have hx := B.exec
  have hb := B.bytes
  have hr := B.returns
  have hts := atoms_spec (ws := wsX1_forgetHousehold) B.pre
  have hown : s.vm.findClass RX1 = some m.cls := findClass_of_methodNamed B.named
  have hlocks := B.notSynchronized
  have hS : va_S (cA a) s.heap s.heap [] := va_S.rf
  have hinX1 : ∀ w ∈ wsX10, w ∈ wsX1_forgetHousehold := fun _ h => List.mem_cons_of_mem _ (List.mem_append_right _ h)
  have hl := lv_entry ([.ref (a 3)]) (n := 1) (Nat.le_of_ble_eq_true rfl)
  rw [lg_entry_eq]
  generalize (lg_sl ([.ref (a 3)]) ++ List.replicate (1 - (lg_sl ([.ref (a 3)])).length) Slot.unset).toArray = ls at hl ⊢
  have hl : lv_has ls 1 [(0, .ref (a 3))] := hl
  refine lv_aload_n hx hb dX1_forgetHousehold_0 rfl (lv_at hl 0 rfl) ?_
  refine cg_3_2 hx hb hts hinX1 hown hK hP (hts (.fieldLink RX1 20 "CensusDesk$Failures" "firstInHousehold" "[I") (List.mem_of_getElem? (i := 1) rfl)) dX1_forgetHousehold_1 ?_
  refine lv_iconst (v := (-1)) hx hb dX1_forgetHousehold_4 (by decide) ?_
  refine c_callv (va_runS (As := [.ref (a 19), .int (-1)]) (rest := []) ⟨hx, hb, hml, hown, hts⟩ (c_fill_19 l dC dI a κ σ φ γ ψ g1 g2 (-1) ) (va_cwS 2 hts gX1_forgetHousehold_J7_fill_53178 rfl rfl rfl hd_J7_fill_53178 ⟨Nat.le_of_ble_eq_true rfl, Nat.le_of_ble_eq_true rfl⟩) (cPreS hP hK hI hN hX hS) rfl rfl hl.1 rfl (lv_room (Nat.le_of_ble_eq_true rfl)) dX1_forgetHousehold_5 ⟨(by decide +kernel), (by decide +kernel)⟩) hS ?_
  clear hP hS; intro S_1 F_1 γ_1 ψ_1 H locs hw hP hS
  obtain ⟨rfl, rfl, -⟩ := hw
  exact W.vret hx hb hr (fun t ht hW => ⟨⟨(σ, φ, γ_1, ψ_1), rfl, ⟨rfl, rfl, trivial⟩, (by show va_P _ _ _ _; rw [ht]; exact hP)⟩, hS.F ht⟩) hS.2.2 dX1_forgetHousehold_8
set_option maxHeartbeats 4000000 in
set_option maxRecDepth 100000 in
theorem c_X1_forget (l : Launch) (dC : Nat → ClassId) (dI : Nat → Nat → Nat) (a : Nat → Nat) (κ : Nat → ClassId) (σ : Nat → Int32) (φ : Nat → Nat → Int32) (γ : Nat → Int32) (ψ : Nat → Nat → Int32) (g1 g2 : Nat)  : Met l yX1_forget wsX1_forget ({ frames := 2, cells := 0, slots := 0, locals := 43 } : Room) (va_Pc [.ref (a 3)] (cPre dC dI a κ (σ, φ, γ, ψ) g1 g2)) (va_Qv (QV (fun S F => ∃ (s1 : Int32), (up σ 1 s1) = S ∧ φ = F ∧ ((Int32.toInt s1) = 0))) (cB dC dI a κ) (cA a)) 0 0 (cA a) := by
  refine Met.ofW (cc := cX1_forget) (maxL := 1) (ret := none) (by decide) rfl ?_
  intro p e s m args below meth c s₁ B hml hv
  obtain ⟨rfl, hP, hK, hI, hN, hX⟩ := hv
  have hx := B.exec
  have hb := B.bytes
  have hr := B.returns
  have hts := atoms_spec (ws := wsX1_forget) B.pre
  have hown : s.vm.findClass RX1 = some m.cls := findClass_of_methodNamed B.named
  have hlocks := B.notSynchronized
  have hS : va_S (cA a) s.heap s.heap [] := va_S.rf
  have hinX1 : ∀ w ∈ wsX10, w ∈ wsX1_forget := fun _ h => List.mem_cons_of_mem _ (List.mem_append_right _ h)
  have hl := lv_entry ([.ref (a 3)]) (n := 1) (Nat.le_of_ble_eq_true rfl)
  rw [lg_entry_eq]
  generalize (lg_sl ([.ref (a 3)]) ++ List.replicate (1 - (lg_sl ([.ref (a 3)])).length) Slot.unset).toArray = ls at hl ⊢
  have hl : lv_has ls 1 [(0, .ref (a 3))] := hl
  refine lv_aload_n hx hb dX1_forget_0 rfl (lv_at hl 0 rfl) ?_
  refine lv_iconst (v := 0) hx hb dX1_forget_1 (by decide) ?_
  refine cp_3_4 (v := 0) hx hb hts hinX1 hown hK hP hI hS (hts (.fieldLink RX1 26 "CensusDesk$Failures" "count" "I") (List.mem_of_getElem? (i := 1) rfl)) dX1_forget_2 ?_
  clear hP hS; intro H locs hP hS
  refine lv_aload_n hx hb dX1_forget_5 rfl (lv_at hl 0 rfl) ?_
  refine cg_3_1 hx hb hts hinX1 hown hK hP (hts (.fieldLink RX1 16 "CensusDesk$Failures" "byKind" "[I") (List.mem_of_getElem? (i := 2) rfl)) dX1_forget_6 ?_
  refine lv_iconst (v := 0) hx hb dX1_forget_9 (by decide) ?_
  refine c_callv (va_runS (As := [.ref (a 18), .int 0]) (rest := []) ⟨hx, hb, hml, hown, hts⟩ (c_fill_18 l dC dI a κ (up σ 1 0) φ γ ψ g1 g2 0 ) (va_cwS 2 hts gX1_forget_J7_fill_53178 rfl rfl rfl hd_J7_fill_53178 ⟨Nat.le_of_ble_eq_true rfl, Nat.le_of_ble_eq_true rfl⟩) (cPreS hP hK hI hN hX hS) rfl rfl hl.1 rfl (lv_room (Nat.le_of_ble_eq_true rfl)) dX1_forget_10 ⟨(by decide +kernel), (by decide +kernel)⟩) hS ?_
  clear hP hS; intro S_1 F_1 γ_1 ψ_1 H locs hw hP hS
  obtain ⟨rfl, rfl, -⟩ := hw
  refine lv_aload_n hx hb dX1_forget_13 rfl (lv_at hl 0 rfl) ?_
  refine cg_3_3 hx hb hts hinX1 hown hK hP (hts (.fieldLink RX1 23 "CensusDesk$Failures" "firstOutside" "[I") (List.mem_of_getElem? (i := 3) rfl)) dX1_forget_14 ?_
  refine lv_iconst (v := (-1)) hx hb dX1_forget_17 (by decide) ?_
  refine c_callv (va_runS (As := [.ref (a 20), .int (-1)]) (rest := []) ⟨hx, hb, hml, hown, hts⟩ (c_fill_20 l dC dI a κ (up σ 1 0) φ γ_1 ψ_1 g1 g2 (-1) ) (va_cwS 2 hts gX1_forget_J7_fill_53178 rfl rfl rfl hd_J7_fill_53178 ⟨Nat.le_of_ble_eq_true rfl, Nat.le_of_ble_eq_true rfl⟩) (cPreS hP hK hI hN hX hS) rfl rfl hl.1 rfl (lv_room (Nat.le_of_ble_eq_true rfl)) dX1_forget_18 ⟨(by decide +kernel), (by decide +kernel)⟩) hS ?_
  clear hP hS; intro S_2 F_2 γ_2 ψ_2 H locs hw hP hS
  obtain ⟨rfl, rfl, -⟩ := hw
  refine lv_aload_n hx hb dX1_forget_21 rfl (lv_at hl 0 rfl) ?_
  refine c_callv (va_runV (As := []) (rest := []) ⟨hx, hb, hml, hown, hts⟩ (c_X1_forgetHousehold l dC dI a κ (up σ 1 0) φ γ_2 ψ_2 g1 g2  ) (cwV 0 hts gX1_forget_X1_forgetHousehold rfl rfl rfl ⟨rfl, hd_X1_forgetHousehold⟩ ⟨Nat.le_of_ble_eq_true rfl, Nat.le_of_ble_eq_true rfl⟩) (cPreV hP hK hI hN hX hS (va_recv hK hP (ci := 1) (q0 := 3) rfl rfl)) rfl rfl hl.1 rfl (lv_room (Nat.le_of_ble_eq_true rfl)) dX1_forget_22 ⟨(by decide +kernel), (by decide +kernel)⟩) hS ?_
  clear hP hS; intro S_3 F_3 γ_3 ψ_3 H locs hw hP hS
  obtain ⟨rfl, rfl, -⟩ := hw
  exact W.vret hx hb hr (fun t ht hW => ⟨⟨((up σ 1 0), φ, γ_3, ψ_3), rfl, ⟨0, rfl, rfl, (show (Int32.toInt 0) = 0 from (by have := L_0; omega))⟩, (by show va_P _ _ _ _; rw [ht]; exact hP)⟩, hS.F ht⟩) hS.2.2 dX1_forget_25
