set_option maxHeartbeats 4000000 in
set_option maxRecDepth 100000 in
theorem c_X8_many (l : Launch) (dC : Nat → ClassId) (dI : Nat → Nat → Nat) (a : Nat → Nat) (κ : Nat → ClassId) (σ : Nat → Int32) (φ : Nat → Nat → Int32) (γ : Nat → Int32) (ψ : Nat → Nat → Int32) (g1 g2 : Nat) (kind : Int32) : Met l yX8_many wsX8_many ({ frames := 1, cells := 0, slots := 0, locals := 24 } : Room) (va_Pc [.ref (a 0), .int kind] (cPre dC dI a κ (σ, φ, γ, ψ) g1 g2)) (va_Qi (QI (fun r S F => σ = S ∧ φ = F ∧ True)) (cB dC dI a κ) (cA a)) 0 0 (cA a) := by
  refine Met.ofW (cc := cX8_many) (maxL := 4) (ret := (some .int)) (by decide) rfl ?_
  intro p e s m args below meth c s₁ B hml hv
  obtain ⟨rfl, hP, hK, hI, hN, hX⟩ := hv
  have hx := B.exec
  have hb := B.bytes
  have hr := B.returns
  have hts := atoms_spec (ws := wsX8_many) B.pre
  have hown : s.vm.findClass RX8 = some m.cls := findClass_of_methodNamed B.named
  have hlocks := B.notSynchronized
  have hS : va_S (cA a) s.heap s.heap [] := va_S.rf
  have hinX8 : ∀ w ∈ wsX80, w ∈ wsX8_many := fun _ h => List.mem_cons_of_mem _ (List.mem_append_left _ (List.mem_append_right _ h))
  have hinX1 : ∀ w ∈ wsX10, w ∈ wsX8_many := fun _ h => List.mem_cons_of_mem _ (List.mem_append_right _ h)
  have hl := lv_entry ([.ref (a 0), .int kind]) (n := 4) (Nat.le_of_ble_eq_true rfl)
  rw [lg_entry_eq]
  generalize (lg_sl ([.ref (a 0), .int kind]) ++ List.replicate (4 - (lg_sl ([.ref (a 0), .int kind])).length) Slot.unset).toArray = ls at hl ⊢
  have hl : lv_has ls 4 [(0, .ref (a 0)), (1, .int kind)] := hl
  refine k_gen (fun QQ eQ => ?_)
  have J17 : ∀ (n17 : Nat), ∀ (found : Int32) (k : Int32) (γ : Nat → Int32) (ψ : Nat → Nat → Int32) (H : Heap) (locs : List Loc) (ls : Array Slot), (1 ≤ (Int32.toInt k)) → ((22 - (Int32.toInt k)).toNat < n17) → va_P (dC, dI) vwCl (cw a κ (σ, φ, γ, ψ)) H → va_S (cA a) s.heap H locs → lv_has ls 4 [(0, .ref (a 0)), (1, .int kind), (2, .int found), (3, .int k)] → W p l e ({ frames := 1, cells := 0, slots := 0, locals := 24 } : Room) s m ([.ref (a 0), .int kind] : List Value).toArray below meth c H locs 0 0 QQ (F0 m 17 ls []) := by
    intro n17
    induction n17 with
    | zero =>
      intro found k γ ψ H locs ls v0 hm
      exact absurd hm (Nat.not_lt_zero _)
    | succ n17 ih17 =>
      intro found k γ ψ H locs ls v0 hm hP hS hl
      refine lv_iload_n hx hb dX8_many_17 rfl (lv_at hl 3 rfl) ?_
      refine lv_bipush (v := 21) hx hb dX8_many_18 (by decide) ?_
      refine lv_icmp_gt (tgt := 52) hx hb dX8_many_20 (by decide) (fun c_1 => ?_) (fun c_1 => ?_)
      · have kc_1 := bI_lt L_21 rfl c_1
        refine lv_iload_n hx hb dX8_many_52 rfl (lv_at hl 2 rfl) ?_
        subst eQ
        exact W.iret (v := found) hx hb hr (fun t ht hW => ⟨⟨found, (σ, φ, γ, ψ), rfl, ⟨rfl, rfl, trivial⟩, (by show va_P _ _ _ _; rw [ht]; exact hP)⟩, hS.F ht⟩) hS.2.2 dX8_many_53
      · have kc_1 := bI_nlt L_21 rfl c_1
        refine lv_aload_n hx hb dX8_many_23 rfl (lv_at hl 0 rfl) ?_
        refine cg_0_1 hx hb hts hinX8 hown hK hP (hts (.fieldLink RX8 19 "CensusDesk" "rules" "LCensusDesk$Rules;") (List.mem_of_getElem? (i := 1) rfl)) dX8_many_24 ?_
        refine lv_iload_n hx hb dX8_many_27 rfl (lv_at hl 3 rfl) ?_
        refine lv_iload_n hx hb dX8_many_28 rfl (lv_at hl 1 rfl) ?_
        refine c_calli (va_runV (As := [.int k, .int kind]) (rest := []) ⟨hx, hb, hml, hown, hts⟩ (c_X5_isWithin l dC dI a κ σ φ γ ψ g1 g2 k kind ) (cwV 2 hts gX8_many_X5_isWithin rfl rfl rfl ⟨rfl, hd_X5_isWithin⟩ ⟨Nat.le_of_ble_eq_true rfl, Nat.le_of_ble_eq_true rfl⟩) (cPreV hP hK hI hN hX hS (va_recv hK hP (ci := 5) (q0 := 2) rfl rfl)) rfl rfl hl.1 rfl (lv_room (Nat.le_of_ble_eq_true rfl)) dX8_many_29 ⟨(by decide +kernel), (by decide +kernel)⟩) hS ?_
        clear hP hS; intro r_2 S_2 F_2 γ_2 ψ_2 H locs hw hP hS
        obtain ⟨rfl, rfl, -⟩ := hw
        refine lv_if_eq (tgt := 46) hx hb dX8_many_32 (by decide) (fun c_3 => ?_) (fun c_3 => ?_)
        · have kc_3 := bI_eq rfl L_0 c_3
          obtain ⟨i_4, ei_4⟩ : ∃ z : Int32, z = k + 1 := ⟨_, rfl⟩
          refine lv_iinc (v := i_4) (lv' := [(3, .int i_4), (0, .ref (a 0)), (1, .int kind), (2, .int found)]) hx hb dX8_many_46 hl (k := 3) rfl (by rw [ei_4]; rfl) (by decide) rfl ?_
          clear hl; intro ls hl
          have ti_4 : (Int32.toInt i_4) = (Int32.toInt k) + 1 := aI_add rfl L_1 ei_4 (by have := rng k; omega)
          refine lv_goto (tgt := 17) hx hb dX8_many_49 (by decide) ?_
          exact ih17 found i_4 γ_2 ψ_2 _ _ _ (show 1 ≤ (Int32.toInt i_4) from (by omega)) (by omega) hP hS (lv_sub hl [1, 2, 3, 0] rfl)
        · have kc_3 := bI_ne rfl L_0 c_3
          refine lv_iload_n hx hb dX8_many_35 rfl (lv_at hl 2 rfl) ?_
          refine lv_aload_n hx hb dX8_many_36 rfl (lv_at hl 0 rfl) ?_
          refine cg_0_2 hx hb hts hinX8 hown hK hP (hts (.fieldLink RX8 26 "CensusDesk" "log" "LCensusDesk$Failures;") (List.mem_of_getElem? (i := 2) rfl)) dX8_many_37 ?_
          refine lv_iload_n hx hb dX8_many_40 rfl (lv_at hl 3 rfl) ?_
          refine c_calli (va_runV (As := [.int k]) (rest := [.int found]) ⟨hx, hb, hml, hown, hts⟩ (c_X1_ofKind l dC dI a κ σ φ γ_2 ψ_2 g1 g2 k ) (cwV 1 hts gX8_many_X1_ofKind rfl rfl rfl ⟨rfl, hd_X1_ofKind⟩ ⟨Nat.le_of_ble_eq_true rfl, Nat.le_of_ble_eq_true rfl⟩) (cPreV hP hK hI hN hX hS (va_recv hK hP (ci := 1) (q0 := 3) rfl rfl)) rfl rfl hl.1 rfl (lv_room (Nat.le_of_ble_eq_true rfl)) dX8_many_41 ⟨(by decide +kernel), (by decide +kernel)⟩) hS ?_
          clear hP hS; intro r_5 S_5 F_5 γ_5 ψ_5 H locs hw hP hS
          obtain ⟨rfl, rfl, -⟩ := hw
          refine lv_iadd hx hb dX8_many_44 ?_
          refine lv_topi (fun z_6 ez_6 => ?_)
          refine lv_istore_n (lv' := [(2, .int z_6), (0, .ref (a 0)), (1, .int kind), (3, .int k)]) hx hb dX8_many_45 rfl hl (by decide) rfl ?_
          clear hl; intro ls hl
          obtain ⟨i_7, ei_7⟩ : ∃ z : Int32, z = k + 1 := ⟨_, rfl⟩
          refine lv_iinc (v := i_7) (lv' := [(3, .int i_7), (2, .int z_6), (0, .ref (a 0)), (1, .int kind)]) hx hb dX8_many_46 hl (k := 3) rfl (by rw [ei_7]; rfl) (by decide) rfl ?_
          clear hl; intro ls hl
          have ti_7 : (Int32.toInt i_7) = (Int32.toInt k) + 1 := aI_add rfl L_1 ei_7 (by have := rng k; omega)
          refine lv_goto (tgt := 17) hx hb dX8_many_49 (by decide) ?_
          exact ih17 z_6 i_7 γ_5 ψ_5 _ _ _ (show 1 ≤ (Int32.toInt i_7) from (by omega)) (by omega) hP hS (lv_sub hl [2, 3, 1, 0] rfl)
  refine lv_iload_n hx hb dX8_many_0 rfl (lv_at hl 1 rfl) ?_
  refine lv_iconst (v := 1) hx hb dX8_many_1 (by decide) ?_
  refine lv_icmp_lt (tgt := 11) hx hb dX8_many_2 (by decide) (fun c_8 => ?_) (fun c_8 => ?_)
  · have kc_8 := bI_lt rfl L_1 c_8
    refine lv_iconst (v := (-1)) hx hb dX8_many_11 (by decide) ?_
    subst eQ
    exact W.iret (v := (-1)) hx hb hr (fun t ht hW => ⟨⟨(-1), (σ, φ, γ, ψ), rfl, ⟨rfl, rfl, trivial⟩, (by show va_P _ _ _ _; rw [ht]; exact hP)⟩, hS.F ht⟩) hS.2.2 dX8_many_12
  · have kc_8 := bI_nlt rfl L_1 c_8
    refine lv_iload_n hx hb dX8_many_5 rfl (lv_at hl 1 rfl) ?_
    refine lv_bipush (v := 29) hx hb dX8_many_6 (by decide) ?_
    refine lv_icmp_le (tgt := 13) hx hb dX8_many_8 (by decide) (fun c_9 => ?_) (fun c_9 => ?_)
    · have kc_9 := bI_le rfl L_29 c_9
      refine lv_iconst (v := 0) hx hb dX8_many_13 (by decide) ?_
      refine lv_istore_n (lv' := [(2, .int 0), (0, .ref (a 0)), (1, .int kind)]) hx hb dX8_many_14 rfl hl (by decide) rfl ?_
      clear hl; intro ls hl
      refine lv_iconst (v := 1) hx hb dX8_many_15 (by decide) ?_
      refine lv_istore_n (lv' := [(3, .int 1), (2, .int 0), (0, .ref (a 0)), (1, .int kind)]) hx hb dX8_many_16 rfl hl (by decide) rfl ?_
      clear hl; intro ls hl
      exact J17 (_ + 1) 0 1 γ ψ _ _ _ (show 1 ≤ (Int32.toInt 1) from (by have := L_1; omega)) (Nat.lt_succ_self _) hP hS (lv_sub hl [2, 3, 1, 0] rfl)
    · have kc_9 := bI_nle rfl L_29 c_9
      refine lv_iconst (v := (-1)) hx hb dX8_many_11 (by decide) ?_
      subst eQ
      exact W.iret (v := (-1)) hx hb hr (fun t ht hW => ⟨⟨(-1), (σ, φ, γ, ψ), rfl, ⟨rfl, rfl, trivial⟩, (by show va_P _ _ _ _; rw [ht]; exact hP)⟩, hS.F ht⟩) hS.2.2 dX8_many_12
set_option maxHeartbeats 4000000 in
set_option maxRecDepth 100000 in
theorem c_X8_house (l : Launch) (dC : Nat → ClassId) (dI : Nat → Nat → Nat) (a : Nat → Nat) (κ : Nat → ClassId) (σ : Nat → Int32) (φ : Nat → Nat → Int32) (γ : Nat → Int32) (ψ : Nat → Nat → Int32) (g1 g2 : Nat) (i : Int32) (what : Int32) (hb : 0 ≤ (Int32.toInt (σ 11)) ∧ (Int32.toInt (σ 11)) ≤ 60 ∧ 0 ≤ (Int32.toInt (σ 12)) ∧ (Int32.toInt (σ 12)) ≤ 300) : Met l yX8_house wsX8_house ({ frames := 1, cells := 0, slots := 0, locals := 22 } : Room) (va_Pc [.ref (a 0), .int i, .int what] (cPre dC dI a κ (σ, φ, γ, ψ) g1 g2)) (va_Qi (QI (fun r S F => σ = S ∧ φ = F ∧ True)) (cB dC dI a κ) (cA a)) 0 0 (cA a) := by
  refine Met.ofW (cc := cX8_house) (maxL := 3) (ret := (some .int)) (by decide) rfl ?_
  intro p e s m args below meth c s₁ B hml hv
  obtain ⟨rfl, hP, hK, hI, hN, hX⟩ := hv
  have hx := B.exec
  have hb := B.bytes
  have hr := B.returns
  have hts := atoms_spec (ws := wsX8_house) B.pre
  have hown : s.vm.findClass RX8 = some m.cls := findClass_of_methodNamed B.named
  have hlocks := B.notSynchronized
  have hS : va_S (cA a) s.heap s.heap [] := va_S.rf
  have hinX8 : ∀ w ∈ wsX80, w ∈ wsX8_house := fun _ h => List.mem_cons_of_mem _ (List.mem_append_left _ (List.mem_append_right _ h))
  have hinX0 : ∀ w ∈ wsX00, w ∈ wsX8_house := fun _ h => List.mem_cons_of_mem _ (List.mem_append_right _ h)
  have hl := lv_entry ([.ref (a 0), .int i, .int what]) (n := 3) (Nat.le_of_ble_eq_true rfl)
  rw [lg_entry_eq]
  generalize (lg_sl ([.ref (a 0), .int i, .int what]) ++ List.replicate (3 - (lg_sl ([.ref (a 0), .int i, .int what])).length) Slot.unset).toArray = ls at hl ⊢
  have hl : lv_has ls 3 [(0, .ref (a 0)), (1, .int i), (2, .int what)] := hl
  refine lv_aload_n hx hb dX8_house_0 rfl (lv_at hl 0 rfl) ?_
  refine cg_0_3 hx hb hts hinX8 hown hK hP (hts (.fieldLink RX8 33 "CensusDesk" "book" "LCensusDesk$Book;") (List.mem_of_getElem? (i := 1) rfl)) dX8_house_1 ?_
  refine lv_iload_n hx hb dX8_house_4 rfl (lv_at hl 1 rfl) ?_
  refine lv_iload_n hx hb dX8_house_5 rfl (lv_at hl 2 rfl) ?_
  refine c_calli (va_runV (As := [.int i, .int what]) (rest := []) ⟨hx, hb, hml, hown, hts⟩ (c_X0_tellHousehold l dC dI a κ σ φ γ ψ g1 g2 i what (show 0 ≤ (Int32.toInt (σ 11)) ∧ (Int32.toInt (σ 11)) ≤ 60 ∧ 0 ≤ (Int32.toInt (σ 12)) ∧ (Int32.toInt (σ 12)) ≤ 300 from (by omega))) (cwV 2 hts gX8_house_X0_tellHousehold rfl rfl rfl ⟨rfl, hd_X0_tellHousehold⟩ ⟨Nat.le_of_ble_eq_true rfl, Nat.le_of_ble_eq_true rfl⟩) (cPreV hP hK hI hN hX hS (va_recv hK hP (ci := 0) (q0 := 4) rfl rfl)) rfl rfl hl.1 rfl (lv_room (Nat.le_of_ble_eq_true rfl)) dX8_house_6 ⟨(by decide +kernel), (by decide +kernel)⟩) hS ?_
  clear hP hS; intro r_1 S_1 F_1 γ_1 ψ_1 H locs hw hP hS
  obtain ⟨rfl, rfl, (th_1 : (0 ≤ (Int32.toInt i) ∧ (Int32.toInt i) < (Int32.toInt (σ 11)) ∧ (Int32.toInt what) = 2) → r_1 = (φ 5) (Int32.toNatClampNeg i))⟩ := hw
  exact W.iret (v := r_1) hx hb hr (fun t ht hW => ⟨⟨r_1, (σ, φ, γ_1, ψ_1), rfl, ⟨rfl, rfl, trivial⟩, (by show va_P _ _ _ _; rw [ht]; exact hP)⟩, hS.F ht⟩) hS.2.2 dX8_house_9
set_option maxHeartbeats 4000000 in
set_option maxRecDepth 100000 in
theorem c_X8_person (l : Launch) (dC : Nat → ClassId) (dI : Nat → Nat → Nat) (a : Nat → Nat) (κ : Nat → ClassId) (σ : Nat → Int32) (φ : Nat → Nat → Int32) (γ : Nat → Int32) (ψ : Nat → Nat → Int32) (g1 g2 : Nat) (i : Int32) (what : Int32) (hb : 0 ≤ (Int32.toInt (σ 11)) ∧ (Int32.toInt (σ 11)) ≤ 60 ∧ 0 ≤ (Int32.toInt (σ 12)) ∧ (Int32.toInt (σ 12)) ≤ 300) : Met l yX8_person wsX8_person ({ frames := 1, cells := 0, slots := 0, locals := 22 } : Room) (va_Pc [.ref (a 0), .int i, .int what] (cPre dC dI a κ (σ, φ, γ, ψ) g1 g2)) (va_Qi (QI (fun r S F => σ = S ∧ φ = F ∧ True)) (cB dC dI a κ) (cA a)) 0 0 (cA a) := by
  refine Met.ofW (cc := cX8_person) (maxL := 3) (ret := (some .int)) (by decide) rfl ?_
  intro p e s m args below meth c s₁ B hml hv
  obtain ⟨rfl, hP, hK, hI, hN, hX⟩ := hv
  have hx := B.exec
  have hb := B.bytes
  have hr := B.returns
  have hts := atoms_spec (ws := wsX8_person) B.pre
  have hown : s.vm.findClass RX8 = some m.cls := findClass_of_methodNamed B.named
  have hlocks := B.notSynchronized
  have hS : va_S (cA a) s.heap s.heap [] := va_S.rf
  have hinX8 : ∀ w ∈ wsX80, w ∈ wsX8_person := fun _ h => List.mem_cons_of_mem _ (List.mem_append_left _ (List.mem_append_right _ h))
  have hinX0 : ∀ w ∈ wsX00, w ∈ wsX8_person := fun _ h => List.mem_cons_of_mem _ (List.mem_append_right _ h)
  have hl := lv_entry ([.ref (a 0), .int i, .int what]) (n := 3) (Nat.le_of_ble_eq_true rfl)
  rw [lg_entry_eq]
  generalize (lg_sl ([.ref (a 0), .int i, .int what]) ++ List.replicate (3 - (lg_sl ([.ref (a 0), .int i, .int what])).length) Slot.unset).toArray = ls at hl ⊢
  have hl : lv_has ls 3 [(0, .ref (a 0)), (1, .int i), (2, .int what)] := hl
  refine lv_aload_n hx hb dX8_person_0 rfl (lv_at hl 0 rfl) ?_
  refine cg_0_3 hx hb hts hinX8 hown hK hP (hts (.fieldLink RX8 33 "CensusDesk" "book" "LCensusDesk$Book;") (List.mem_of_getElem? (i := 1) rfl)) dX8_person_1 ?_
  refine lv_iload_n hx hb dX8_person_4 rfl (lv_at hl 1 rfl) ?_
  refine lv_iload_n hx hb dX8_person_5 rfl (lv_at hl 2 rfl) ?_
  refine c_calli (va_runV (As := [.int i, .int what]) (rest := []) ⟨hx, hb, hml, hown, hts⟩ (c_X0_tellPerson l dC dI a κ σ φ γ ψ g1 g2 i what (show 0 ≤ (Int32.toInt (σ 11)) ∧ (Int32.toInt (σ 11)) ≤ 60 ∧ 0 ≤ (Int32.toInt (σ 12)) ∧ (Int32.toInt (σ 12)) ≤ 300 from (by omega))) (cwV 2 hts gX8_person_X0_tellPerson rfl rfl rfl ⟨rfl, hd_X0_tellPerson⟩ ⟨Nat.le_of_ble_eq_true rfl, Nat.le_of_ble_eq_true rfl⟩) (cPreV hP hK hI hN hX hS (va_recv hK hP (ci := 0) (q0 := 4) rfl rfl)) rfl rfl hl.1 rfl (lv_room (Nat.le_of_ble_eq_true rfl)) dX8_person_6 ⟨(by decide +kernel), (by decide +kernel)⟩) hS ?_
  clear hP hS; intro r_1 S_1 F_1 γ_1 ψ_1 H locs hw hP hS
  obtain ⟨rfl, rfl, (t0_1 : (0 ≤ (Int32.toInt i) ∧ (Int32.toInt i) < (Int32.toInt (σ 12)) ∧ (Int32.toInt what) = 0) → r_1 = (φ 6) (Int32.toNatClampNeg i)), (t1_1 : (0 ≤ (Int32.toInt i) ∧ (Int32.toInt i) < (Int32.toInt (σ 12)) ∧ (Int32.toInt what) = 1) → r_1 = (φ 7) (Int32.toNatClampNeg i)), (to_1 : ((Int32.toInt i) < 0 ∨ (Int32.toInt (σ 12)) ≤ (Int32.toInt i)) → (Int32.toInt r_1) = -1)⟩ := hw
  exact W.iret (v := r_1) hx hb hr (fun t ht hW => ⟨⟨r_1, (σ, φ, γ_1, ψ_1), rfl, ⟨rfl, rfl, trivial⟩, (by show va_P _ _ _ _; rw [ht]; exact hP)⟩, hS.F ht⟩) hS.2.2 dX8_person_9
set_option maxHeartbeats 4000000 in
set_option maxRecDepth 100000 in
theorem c_X8_sign (l : Launch) (dC : Nat → ClassId) (dI : Nat → Nat → Nat) (a : Nat → Nat) (κ : Nat → ClassId) (σ : Nat → Int32) (φ : Nat → Nat → Int32) (γ : Nat → Int32) (ψ : Nat → Nat → Int32) (g1 g2 : Nat) (i : Int32) (k : Int32) (hb : 0 ≤ (Int32.toInt (σ 11)) ∧ (Int32.toInt (σ 11)) ≤ 60 ∧ 0 ≤ (Int32.toInt (σ 12)) ∧ (Int32.toInt (σ 12)) ≤ 300) : Met l yX8_sign wsX8_sign ({ frames := 2, cells := 0, slots := 0, locals := 44 } : Room) (va_Pc [.ref (a 0), .int i, .int k] (cPre dC dI a κ (σ, φ, γ, ψ) g1 g2)) (va_Qi (QI (fun r S F => σ = S ∧ φ = F ∧ True)) (cB dC dI a κ) (cA a)) 0 0 (cA a) := by
  refine Met.ofW (cc := cX8_sign) (maxL := 3) (ret := (some .int)) (by decide) rfl ?_
  intro p e s m args below meth c s₁ B hml hv
  obtain ⟨rfl, hP, hK, hI, hN, hX⟩ := hv
  have hx := B.exec
  have hb := B.bytes
  have hr := B.returns
  have hts := atoms_spec (ws := wsX8_sign) B.pre
  have hown : s.vm.findClass RX8 = some m.cls := findClass_of_methodNamed B.named
  have hlocks := B.notSynchronized
  have hS : va_S (cA a) s.heap s.heap [] := va_S.rf
  have hinX8 : ∀ w ∈ wsX80, w ∈ wsX8_sign := fun _ h => List.mem_cons_of_mem _ (List.mem_append_left _ (List.mem_append_right _ h))
  have hinX0 : ∀ w ∈ wsX00, w ∈ wsX8_sign := fun _ h => List.mem_cons_of_mem _ (List.mem_append_right _ h)
  have hl := lv_entry ([.ref (a 0), .int i, .int k]) (n := 3) (Nat.le_of_ble_eq_true rfl)
  rw [lg_entry_eq]
  generalize (lg_sl ([.ref (a 0), .int i, .int k]) ++ List.replicate (3 - (lg_sl ([.ref (a 0), .int i, .int k])).length) Slot.unset).toArray = ls at hl ⊢
  have hl : lv_has ls 3 [(0, .ref (a 0)), (1, .int i), (2, .int k)] := hl
  refine lv_aload_n hx hb dX8_sign_0 rfl (lv_at hl 0 rfl) ?_
  refine cg_0_3 hx hb hts hinX8 hown hK hP (hts (.fieldLink RX8 33 "CensusDesk" "book" "LCensusDesk$Book;") (List.mem_of_getElem? (i := 1) rfl)) dX8_sign_1 ?_
  refine lv_iload_n hx hb dX8_sign_4 rfl (lv_at hl 1 rfl) ?_
  refine lv_iload_n hx hb dX8_sign_5 rfl (lv_at hl 2 rfl) ?_
  refine c_calli (va_runV (As := [.int i, .int k]) (rest := []) ⟨hx, hb, hml, hown, hts⟩ (c_X0_signOf l dC dI a κ σ φ γ ψ g1 g2 i k (show 0 ≤ (Int32.toInt (σ 11)) ∧ (Int32.toInt (σ 11)) ≤ 60 ∧ 0 ≤ (Int32.toInt (σ 12)) ∧ (Int32.toInt (σ 12)) ≤ 300 from (by omega))) (cwV 2 hts gX8_sign_X0_signOf rfl rfl rfl ⟨rfl, hd_X0_signOf⟩ ⟨Nat.le_of_ble_eq_true rfl, Nat.le_of_ble_eq_true rfl⟩) (cPreV hP hK hI hN hX hS (va_recv hK hP (ci := 0) (q0 := 4) rfl rfl)) rfl rfl hl.1 rfl (lv_room (Nat.le_of_ble_eq_true rfl)) dX8_sign_6 ⟨(by decide +kernel), (by decide +kernel)⟩) hS ?_
  clear hP hS; intro r_1 S_1 F_1 γ_1 ψ_1 H locs hw hP hS
  obtain ⟨rfl, rfl, -⟩ := hw
  exact W.iret (v := r_1) hx hb hr (fun t ht hW => ⟨⟨r_1, (σ, φ, γ_1, ψ_1), rfl, ⟨rfl, rfl, trivial⟩, (by show va_P _ _ _ _; rw [ht]; exact hP)⟩, hS.F ht⟩) hS.2.2 dX8_sign_9
set_option maxHeartbeats 4000000 in
set_option maxRecDepth 100000 in
theorem c_X8_named (l : Launch) (dC : Nat → ClassId) (dI : Nat → Nat → Nat) (a : Nat → Nat) (κ : Nat → ClassId) (σ : Nat → Int32) (φ : Nat → Nat → Int32) (γ : Nat → Int32) (ψ : Nat → Nat → Int32) (g1 g2 : Nat) (na : Int32) (nb : Int32) (nc : Int32) (nd : Int32) (hb : 0 ≤ (Int32.toInt (σ 11)) ∧ (Int32.toInt (σ 11)) ≤ 60 ∧ 0 ≤ (Int32.toInt (σ 12)) ∧ (Int32.toInt (σ 12)) ≤ 300) : Met l yX8_named wsX8_named ({ frames := 4, cells := 0, slots := 0, locals := 94 } : Room) (va_Pc [.ref (a 0), .int na, .int nb, .int nc, .int nd] (cPre dC dI a κ (σ, φ, γ, ψ) g1 g2)) (va_Qi (QI (fun r S F => σ = S ∧ φ = F ∧ True)) (cB dC dI a κ) (cA a)) 0 0 (cA a) := by
  refine Met.ofW (cc := cX8_named) (maxL := 5) (ret := (some .int)) (by decide) rfl ?_
  intro p e s m args below meth c s₁ B hml hv
  obtain ⟨rfl, hP, hK, hI, hN, hX⟩ := hv
  have hx := B.exec
  have hb := B.bytes
  have hr := B.returns
  have hts := atoms_spec (ws := wsX8_named) B.pre
  have hown : s.vm.findClass RX8 = some m.cls := findClass_of_methodNamed B.named
  have hlocks := B.notSynchronized
  have hS : va_S (cA a) s.heap s.heap [] := va_S.rf
  have hinX8 : ∀ w ∈ wsX80, w ∈ wsX8_named := fun _ h => List.mem_cons_of_mem _ (List.mem_append_left _ (List.mem_append_right _ h))
  have hinX0 : ∀ w ∈ wsX00, w ∈ wsX8_named := fun _ h => List.mem_cons_of_mem _ (List.mem_append_right _ h)
  have hl := lv_entry ([.ref (a 0), .int na, .int nb, .int nc, .int nd]) (n := 5) (Nat.le_of_ble_eq_true rfl)
  rw [lg_entry_eq]
  generalize (lg_sl ([.ref (a 0), .int na, .int nb, .int nc, .int nd]) ++ List.replicate (5 - (lg_sl ([.ref (a 0), .int na, .int nb, .int nc, .int nd])).length) Slot.unset).toArray = ls at hl ⊢
  have hl : lv_has ls 5 [(0, .ref (a 0)), (1, .int na), (2, .int nb), (3, .int nc), (4, .int nd)] := hl
  refine lv_aload_n hx hb dX8_named_0 rfl (lv_at hl 0 rfl) ?_
  refine cg_0_3 hx hb hts hinX8 hown hK hP (hts (.fieldLink RX8 33 "CensusDesk" "book" "LCensusDesk$Book;") (List.mem_of_getElem? (i := 1) rfl)) dX8_named_1 ?_
  refine lv_iload_n hx hb dX8_named_4 rfl (lv_at hl 1 rfl) ?_
  refine lv_iload_n hx hb dX8_named_5 rfl (lv_at hl 2 rfl) ?_
  refine lv_iload_n hx hb dX8_named_6 rfl (lv_at hl 3 rfl) ?_
  refine lv_iload hx hb dX8_named_7 (lv_at hl 4 rfl) ?_
  refine c_calli (va_runV (As := [.int na, .int nb, .int nc, .int nd]) (rest := []) ⟨hx, hb, hml, hown, hts⟩ (c_X0_countNamed l dC dI a κ σ φ γ ψ g1 g2 na nb nc nd (show 0 ≤ (Int32.toInt (σ 11)) ∧ (Int32.toInt (σ 11)) ≤ 60 ∧ 0 ≤ (Int32.toInt (σ 12)) ∧ (Int32.toInt (σ 12)) ≤ 300 from (by omega))) (cwV 4 hts gX8_named_X0_countNamed rfl rfl rfl ⟨rfl, hd_X0_countNamed⟩ ⟨Nat.le_of_ble_eq_true rfl, Nat.le_of_ble_eq_true rfl⟩) (cPreV hP hK hI hN hX hS (va_recv hK hP (ci := 0) (q0 := 4) rfl rfl)) rfl rfl hl.1 rfl (lv_room (Nat.le_of_ble_eq_true rfl)) dX8_named_9 ⟨(by decide +kernel), (by decide +kernel)⟩) hS ?_
  clear hP hS; intro r_1 S_1 F_1 γ_1 ψ_1 H locs hw hP hS
  obtain ⟨rfl, rfl, -⟩ := hw
  exact W.iret (v := r_1) hx hb hr (fun t ht hW => ⟨⟨r_1, (σ, φ, γ_1, ψ_1), rfl, ⟨rfl, rfl, trivial⟩, (by show va_P _ _ _ _; rw [ht]; exact hP)⟩, hS.F ht⟩) hS.2.2 dX8_named_12
set_option maxHeartbeats 4000000 in
set_option maxRecDepth 100000 in
theorem c_X8_audit (l : Launch) (dC : Nat → ClassId) (dI : Nat → Nat → Nat) (a : Nat → Nat) (κ : Nat → ClassId) (σ : Nat → Int32) (φ : Nat → Nat → Int32) (γ : Nat → Int32) (ψ : Nat → Nat → Int32) (g1 g2 : Nat)  (p_book_personFacts0 : PtR (-1) 1 (φ 6)) (hb : 0 ≤ (Int32.toInt (σ 11)) ∧ (Int32.toInt (σ 11)) ≤ 60 ∧ 0 ≤ (Int32.toInt (σ 12)) ∧ (Int32.toInt (σ 12)) ≤ 300) (hbs : BS (σ 11) (σ 12) (σ 13) (σ 14) (σ 15) (φ 5) (φ 6) (φ 7)) (hac : AC (σ 21) (σ 22) (σ 23) (σ 19) (σ 20)) : Met l yX8_audit wsX8_audit ({ frames := 2, cells := 0, slots := 0, locals := 46 } : Room) (va_Pc [.ref (a 0)] (cPre dC dI a κ (σ, φ, γ, ψ) g1 g2)) (va_Qi (QI (fun r S F => σ = S ∧ φ = F ∧ ((Int32.toInt r) = 0))) (cB dC dI a κ) (cA a)) 0 0 (cA a) := by
  refine Met.ofW (cc := cX8_audit) (maxL := 3) (ret := (some .int)) (by decide) rfl ?_
  intro p e s m args below meth c s₁ B hml hv
  obtain ⟨rfl, hP, hK, hI, hN, hX⟩ := hv
  have hx := B.exec
  have hb := B.bytes
  have hr := B.returns
  have hts := atoms_spec (ws := wsX8_audit) B.pre
  have hown : s.vm.findClass RX8 = some m.cls := findClass_of_methodNamed B.named
  have hlocks := B.notSynchronized
  have hS : va_S (cA a) s.heap s.heap [] := va_S.rf
  have hinX8 : ∀ w ∈ wsX80, w ∈ wsX8_audit := fun _ h => List.mem_cons_of_mem _ (List.mem_append_left _ (List.mem_append_right _ h))
  have hinX0 : ∀ w ∈ wsX00, w ∈ wsX8_audit := fun _ h => List.mem_cons_of_mem _ (List.mem_append_right _ h)
  have hl := lv_entry ([.ref (a 0)]) (n := 3) (Nat.le_of_ble_eq_true rfl)
  rw [lg_entry_eq]
  generalize (lg_sl ([.ref (a 0)]) ++ List.replicate (3 - (lg_sl ([.ref (a 0)])).length) Slot.unset).toArray = ls at hl ⊢
  have hl : lv_has ls 3 [(0, .ref (a 0))] := hl
  refine lv_aload_n hx hb dX8_audit_0 rfl (lv_at hl 0 rfl) ?_
  refine cg_0_3 hx hb hts hinX8 hown hK hP (hts (.fieldLink RX8 33 "CensusDesk" "book" "LCensusDesk$Book;") (List.mem_of_getElem? (i := 1) rfl)) dX8_audit_1 ?_
  refine c_calli (va_runV (As := []) (rest := []) ⟨hx, hb, hml, hown, hts⟩ (c_X0_disagreements l dC dI a κ σ φ γ ψ g1 g2  p_book_personFacts0 (show 0 ≤ (Int32.toInt (σ 11)) ∧ (Int32.toInt (σ 11)) ≤ 60 ∧ 0 ≤ (Int32.toInt (σ 12)) ∧ (Int32.toInt (σ 12)) ≤ 300 from (by omega)) (show BS (σ 11) (σ 12) (σ 13) (σ 14) (σ 15) (φ 5) (φ 6) (φ 7) from (by with_reducible assumption))) (cwV 0 hts gX8_audit_X0_disagreements rfl rfl rfl ⟨rfl, hd_X0_disagreements⟩ ⟨Nat.le_of_ble_eq_true rfl, Nat.le_of_ble_eq_true rfl⟩) (cPreV hP hK hI hN hX hS (va_recv hK hP (ci := 0) (q0 := 4) rfl rfl)) rfl rfl hl.1 rfl (lv_room (Nat.le_of_ble_eq_true rfl)) dX8_audit_4 ⟨(by decide +kernel), (by decide +kernel)⟩) hS ?_
  clear hP hS; intro r_1 S_1 F_1 γ_1 ψ_1 H locs hw hP hS
  obtain ⟨rfl, rfl, (qz_1 : (Int32.toInt r_1) = 0)⟩ := hw
  refine lv_istore_n (lv' := [(1, .int r_1), (0, .ref (a 0))]) hx hb dX8_audit_7 rfl hl (by decide) rfl ?_
  clear hl; intro ls hl
  refine lv_aload_n hx hb dX8_audit_8 rfl (lv_at hl 1 rfl) ?_
  refine cg_0_7 (v := (σ 21)) hx hb hts hinX8 hown hK hP (hts (.fieldLink RX8 140 "CensusDesk" "booked" "I") (List.mem_of_getElem? (i := 2) rfl)) rfl dX8_audit_9 ?_
  refine lv_aload_n hx hb dX8_audit_12 rfl (lv_at hl 1 rfl) ?_
  refine cg_0_8 (v := (σ 22)) hx hb hts hinX8 hown hK hP (hts (.fieldLink RX8 87 "CensusDesk" "refused" "I") (List.mem_of_getElem? (i := 3) rfl)) rfl dX8_audit_13 ?_
  refine lv_iadd hx hb dX8_audit_16 ?_
  refine lv_topi (fun z_2 ez_2 => ?_)
  refine lv_aload_n hx hb dX8_audit_17 rfl (lv_at hl 1 rfl) ?_
  refine cg_0_9 (v := (σ 23)) hx hb hts hinX8 hown hK hP (hts (.fieldLink RX8 143 "CensusDesk" "withoutRoom" "I") (List.mem_of_getElem? (i := 4) rfl)) rfl dX8_audit_18 ?_
  refine lv_iadd hx hb dX8_audit_21 ?_
  refine lv_topi (fun z_3 ez_3 => ?_)
  refine lv_aload_n hx hb dX8_audit_22 rfl (lv_at hl 1 rfl) ?_
  refine cg_0_5 (v := (σ 19)) hx hb hts hinX8 hown hK hP (hts (.fieldLink RX8 50 "CensusDesk" "held" "Z") (List.mem_of_getElem? (i := 5) rfl)) rfl dX8_audit_23 ?_
  refine lv_if_eq (tgt := 33) hx hb dX8_audit_26 (by decide) (fun c_4 => ?_) (fun c_4 => ?_)
  · have kc_4 := bI_eq rfl L_0 c_4
    refine lv_iconst (v := 0) hx hb dX8_audit_33 (by decide) ?_
    refine lv_iadd hx hb dX8_audit_34 ?_
    refine lv_topi (fun z_5 ez_5 => ?_)
    refine lv_istore_n (lv' := [(2, .int z_5), (1, .int r_1), (0, .ref (a 0))]) hx hb dX8_audit_35 rfl hl (by decide) rfl ?_
    clear hl; intro ls hl
    refine lv_iload_n hx hb dX8_audit_36 rfl (lv_at hl 0 rfl) ?_
    refine lv_aload_n hx hb dX8_audit_37 rfl (lv_at hl 2 rfl) ?_
    refine cg_0_6 (v := (σ 20)) hx hb hts hinX8 hown hK hP (hts (.fieldLink RX8 70 "CensusDesk" "received" "I") (List.mem_of_getElem? (i := 6) rfl)) rfl dX8_audit_38 ?_
    refine lv_icmp_ne (tgt := 48) hx hb dX8_audit_41 (by decide) (fun c_6 => False.elim (by have kc_6 := bI_ne rfl rfl c_6; exact absurd (show z_5 = (σ 20) from by rw [ez_5, ez_3, ez_2]; unfold AC at hac; rw [if_pos c_4] at hac; exact hac) c_6)) (fun c_6 => ?_)
    have kc_6 := bI_eq rfl rfl c_6
    refine lv_iload_n hx hb dX8_audit_44 rfl (lv_at hl 1 rfl) ?_
    refine lv_goto (tgt := 51) hx hb dX8_audit_45 (by decide) ?_
    exact W.iret (v := r_1) hx hb hr (fun t ht hW => ⟨⟨r_1, (σ, φ, γ_1, ψ_1), rfl, ⟨rfl, rfl, (show (Int32.toInt r_1) = 0 from (by omega))⟩, (by show va_P _ _ _ _; rw [ht]; exact hP)⟩, hS.F ht⟩) hS.2.2 dX8_audit_51
  · have kc_4 := bI_ne rfl L_0 c_4
    refine lv_iconst (v := 1) hx hb dX8_audit_29 (by decide) ?_
    refine lv_goto (tgt := 34) hx hb dX8_audit_30 (by decide) ?_
    refine lv_iadd hx hb dX8_audit_34 ?_
    refine lv_topi (fun z_7 ez_7 => ?_)
    refine lv_istore_n (lv' := [(2, .int z_7), (1, .int r_1), (0, .ref (a 0))]) hx hb dX8_audit_35 rfl hl (by decide) rfl ?_
    clear hl; intro ls hl
    refine lv_iload_n hx hb dX8_audit_36 rfl (lv_at hl 0 rfl) ?_
    refine lv_aload_n hx hb dX8_audit_37 rfl (lv_at hl 2 rfl) ?_
    refine cg_0_6 (v := (σ 20)) hx hb hts hinX8 hown hK hP (hts (.fieldLink RX8 70 "CensusDesk" "received" "I") (List.mem_of_getElem? (i := 6) rfl)) rfl dX8_audit_38 ?_
    refine lv_icmp_ne (tgt := 48) hx hb dX8_audit_41 (by decide) (fun c_8 => False.elim (by have kc_8 := bI_ne rfl rfl c_8; exact absurd (show z_7 = (σ 20) from by rw [ez_7, ez_3, ez_2]; unfold AC at hac; rw [if_neg c_4] at hac; exact hac) c_8)) (fun c_8 => ?_)
    have kc_8 := bI_eq rfl rfl c_8
    refine lv_iload_n hx hb dX8_audit_44 rfl (lv_at hl 1 rfl) ?_
    refine lv_goto (tgt := 51) hx hb dX8_audit_45 (by decide) ?_
    exact W.iret (v := r_1) hx hb hr (fun t ht hW => ⟨⟨r_1, (σ, φ, γ_1, ψ_1), rfl, ⟨rfl, rfl, (show (Int32.toInt r_1) = 0 from (by omega))⟩, (by show va_P _ _ _ _; rw [ht]; exact hP)⟩, hS.F ht⟩) hS.2.2 dX8_audit_51
set_option maxHeartbeats 4000000 in
set_option maxRecDepth 100000 in
theorem c_X8_rule (l : Launch) (dC : Nat → ClassId) (dI : Nat → Nat → Nat) (a : Nat → Nat) (κ : Nat → ClassId) (σ : Nat → Int32) (φ : Nat → Nat → Int32) (γ : Nat → Int32) (ψ : Nat → Nat → Int32) (g1 g2 : Nat) (kind : Int32) (way : Int32) (na : Int32) : Met l yX8_rule wsX8_rule ({ frames := 1, cells := 0, slots := 0, locals := 24 } : Room) (va_Pc [.ref (a 0), .int kind, .int way, .int na] (cPre dC dI a κ (σ, φ, γ, ψ) g1 g2)) (va_Qi (QI (fun r S F => σ = S ∧ φ = F ∧ True)) (cB dC dI a κ) (cA a)) 0 0 (cA a) := by
  refine Met.ofW (cc := cX8_rule) (maxL := 4) (ret := (some .int)) (by decide) rfl ?_
  intro p e s m args below meth c s₁ B hml hv
  obtain ⟨rfl, hP, hK, hI, hN, hX⟩ := hv
  have hx := B.exec
  have hb := B.bytes
  have hr := B.returns
  have hts := atoms_spec (ws := wsX8_rule) B.pre
  have hown : s.vm.findClass RX8 = some m.cls := findClass_of_methodNamed B.named
  have hlocks := B.notSynchronized
  have hS : va_S (cA a) s.heap s.heap [] := va_S.rf
  have hinX8 : ∀ w ∈ wsX80, w ∈ wsX8_rule := fun _ h => List.mem_cons_of_mem _ (List.mem_append_left _ (List.mem_append_right _ h))
  have hinX5 : ∀ w ∈ wsX50, w ∈ wsX8_rule := fun _ h => List.mem_cons_of_mem _ (List.mem_append_right _ h)
  have hl := lv_entry ([.ref (a 0), .int kind, .int way, .int na]) (n := 4) (Nat.le_of_ble_eq_true rfl)
  rw [lg_entry_eq]
  generalize (lg_sl ([.ref (a 0), .int kind, .int way, .int na]) ++ List.replicate (4 - (lg_sl ([.ref (a 0), .int kind, .int way, .int na])).length) Slot.unset).toArray = ls at hl ⊢
  have hl : lv_has ls 4 [(0, .ref (a 0)), (1, .int kind), (2, .int way), (3, .int na)] := hl
  refine lv_iload_n hx hb dX8_rule_0 rfl (lv_at hl 1 rfl) ?_
  refine lv_iconst (v := 1) hx hb dX8_rule_1 (by decide) ?_
  refine lv_icmp_lt (tgt := 11) hx hb dX8_rule_2 (by decide) (fun c_1 => ?_) (fun c_1 => ?_)
  · have kc_1 := bI_lt rfl L_1 c_1
    refine lv_bipush (v := (-3)) hx hb dX8_rule_11 (by decide) ?_
    exact W.iret (v := (-3)) hx hb hr (fun t ht hW => ⟨⟨(-3), (σ, φ, γ, ψ), rfl, ⟨rfl, rfl, trivial⟩, (by show va_P _ _ _ _; rw [ht]; exact hP)⟩, hS.F ht⟩) hS.2.2 dX8_rule_13
  · have kc_1 := bI_nlt rfl L_1 c_1
    refine lv_iload_n hx hb dX8_rule_5 rfl (lv_at hl 1 rfl) ?_
    refine lv_bipush (v := 29) hx hb dX8_rule_6 (by decide) ?_
    refine lv_icmp_le (tgt := 14) hx hb dX8_rule_8 (by decide) (fun c_2 => ?_) (fun c_2 => ?_)
    · have kc_2 := bI_le rfl L_29 c_2
      refine lv_iload_n hx hb dX8_rule_14 rfl (lv_at hl 2 rfl) ?_
      refine lv_iconst (v := (-1)) hx hb dX8_rule_15 (by decide) ?_
      refine lv_icmp_lt (tgt := 24) hx hb dX8_rule_16 (by decide) (fun c_3 => ?_) (fun c_3 => ?_)
      · have kc_3 := bI_lt rfl L_m1 c_3
        refine lv_bipush (v := (-3)) hx hb dX8_rule_24 (by decide) ?_
        exact W.iret (v := (-3)) hx hb hr (fun t ht hW => ⟨⟨(-3), (σ, φ, γ, ψ), rfl, ⟨rfl, rfl, trivial⟩, (by show va_P _ _ _ _; rw [ht]; exact hP)⟩, hS.F ht⟩) hS.2.2 dX8_rule_26
      · have kc_3 := bI_nlt rfl L_m1 c_3
        refine lv_iload_n hx hb dX8_rule_19 rfl (lv_at hl 2 rfl) ?_
        refine lv_iconst (v := 4) hx hb dX8_rule_20 (by decide) ?_
        refine lv_icmp_le (tgt := 27) hx hb dX8_rule_21 (by decide) (fun c_4 => ?_) (fun c_4 => ?_)
        · have kc_4 := bI_le rfl L_4 c_4
          refine lv_iload_n hx hb dX8_rule_27 rfl (lv_at hl 3 rfl) ?_
          refine lv_iconst (v := (-1)) hx hb dX8_rule_28 (by decide) ?_
          refine lv_icmp_lt (tgt := 38) hx hb dX8_rule_29 (by decide) (fun c_5 => ?_) (fun c_5 => ?_)
          · have kc_5 := bI_lt rfl L_m1 c_5
            refine lv_bipush (v := (-3)) hx hb dX8_rule_38 (by decide) ?_
            exact W.iret (v := (-3)) hx hb hr (fun t ht hW => ⟨⟨(-3), (σ, φ, γ, ψ), rfl, ⟨rfl, rfl, trivial⟩, (by show va_P _ _ _ _; rw [ht]; exact hP)⟩, hS.F ht⟩) hS.2.2 dX8_rule_40
          · have kc_5 := bI_nlt rfl L_m1 c_5
            refine lv_iload_n hx hb dX8_rule_32 rfl (lv_at hl 3 rfl) ?_
            refine lv_ldc (v := 999999) hx hb hown (hts (.constant RX8 65 (999999)) (List.mem_of_getElem? (i := 1) rfl)) dX8_rule_33 ?_
            refine lv_icmp_le (tgt := 41) hx hb dX8_rule_35 (by decide) (fun c_6 => ?_) (fun c_6 => ?_)
            · have kc_6 := bI_le rfl L_999999 c_6
              refine lv_aload_n hx hb dX8_rule_41 rfl (lv_at hl 0 rfl) ?_
              refine cg_0_5 (v := (σ 19)) hx hb hts hinX8 hown hK hP (hts (.fieldLink RX8 50 "CensusDesk" "held" "Z") (List.mem_of_getElem? (i := 2) rfl)) rfl dX8_rule_42 ?_
              refine lv_if_eq (tgt := 51) hx hb dX8_rule_45 (by decide) (fun c_7 => ?_) (fun c_7 => ?_)
              · have kc_7 := bI_eq rfl L_0 c_7
                refine lv_aload_n hx hb dX8_rule_51 rfl (lv_at hl 0 rfl) ?_
                refine cg_0_1 hx hb hts hinX8 hown hK hP (hts (.fieldLink RX8 19 "CensusDesk" "rules" "LCensusDesk$Rules;") (List.mem_of_getElem? (i := 3) rfl)) dX8_rule_52 ?_
                refine lv_iload_n hx hb dX8_rule_55 rfl (lv_at hl 1 rfl) ?_
                refine lv_iload_n hx hb dX8_rule_56 rfl (lv_at hl 2 rfl) ?_
                refine lv_iload_n hx hb dX8_rule_57 rfl (lv_at hl 3 rfl) ?_
                refine c_calli (va_runV (As := [.int kind, .int way, .int na]) (rest := []) ⟨hx, hb, hml, hown, hts⟩ (c_X5_change l dC dI a κ σ φ γ ψ g1 g2 kind way na ) (cwV 3 hts gX8_rule_X5_change rfl rfl rfl ⟨rfl, hd_X5_change⟩ ⟨Nat.le_of_ble_eq_true rfl, Nat.le_of_ble_eq_true rfl⟩) (cPreV hP hK hI hN hX hS (va_recv hK hP (ci := 5) (q0 := 2) rfl rfl)) rfl rfl hl.1 rfl (lv_room (Nat.le_of_ble_eq_true rfl)) dX8_rule_58 ⟨(by decide +kernel), (by decide +kernel)⟩) hS ?_
                clear hP hS; intro r_8 S_8 F_8 γ_8 ψ_8 H locs hw hP hS
                obtain ⟨rfl, rfl, -⟩ := hw
                exact W.iret (v := r_8) hx hb hr (fun t ht hW => ⟨⟨r_8, (σ, φ, γ_8, ψ_8), rfl, ⟨rfl, rfl, trivial⟩, (by show va_P _ _ _ _; rw [ht]; exact hP)⟩, hS.F ht⟩) hS.2.2 dX8_rule_61
              · have kc_7 := bI_ne rfl L_0 c_7
                refine lv_bipush (v := (-2)) hx hb dX8_rule_48 (by decide) ?_
                exact W.iret (v := (-2)) hx hb hr (fun t ht hW => ⟨⟨(-2), (σ, φ, γ, ψ), rfl, ⟨rfl, rfl, trivial⟩, (by show va_P _ _ _ _; rw [ht]; exact hP)⟩, hS.F ht⟩) hS.2.2 dX8_rule_50
            · have kc_6 := bI_nle rfl L_999999 c_6
              refine lv_bipush (v := (-3)) hx hb dX8_rule_38 (by decide) ?_
              exact W.iret (v := (-3)) hx hb hr (fun t ht hW => ⟨⟨(-3), (σ, φ, γ, ψ), rfl, ⟨rfl, rfl, trivial⟩, (by show va_P _ _ _ _; rw [ht]; exact hP)⟩, hS.F ht⟩) hS.2.2 dX8_rule_40
        · have kc_4 := bI_nle rfl L_4 c_4
          refine lv_bipush (v := (-3)) hx hb dX8_rule_24 (by decide) ?_
          exact W.iret (v := (-3)) hx hb hr (fun t ht hW => ⟨⟨(-3), (σ, φ, γ, ψ), rfl, ⟨rfl, rfl, trivial⟩, (by show va_P _ _ _ _; rw [ht]; exact hP)⟩, hS.F ht⟩) hS.2.2 dX8_rule_26
    · have kc_2 := bI_nle rfl L_29 c_2
      refine lv_bipush (v := (-3)) hx hb dX8_rule_11 (by decide) ?_
      exact W.iret (v := (-3)) hx hb hr (fun t ht hW => ⟨⟨(-3), (σ, φ, γ, ψ), rfl, ⟨rfl, rfl, trivial⟩, (by show va_P _ _ _ _; rw [ht]; exact hP)⟩, hS.F ht⟩) hS.2.2 dX8_rule_13
set_option maxHeartbeats 4000000 in
set_option maxRecDepth 100000 in
theorem c_X8_feed (l : Launch) (dC : Nat → ClassId) (dI : Nat → Nat → Nat) (a : Nat → Nat) (κ : Nat → ClassId) (σ : Nat → Int32) (φ : Nat → Nat → Int32) (γ : Nat → Int32) (ψ : Nat → Nat → Int32) (g1 g2 : Nat) (na : Int32) (nb : Int32) (nc : Int32) (nd : Int32) (ne : Int32) (hlen : 0 ≤ (Int32.toInt (σ 0)) ∧ (Int32.toInt (σ 0)) ≤ 4000) (hri : (Int32.toInt (σ 19)) = 0 ∨ (0 ≤ (Int32.toInt (σ 18)) ∧ (Int32.toInt (σ 18)) ≤ (Int32.toInt (σ 0)) ∧ 0 ≤ (Int32.toInt (σ 1)) ∧ (Int32.toInt (σ 1)) ≤ 50000 * (Int32.toInt (σ 18)) ∧ ((Int32.toInt (σ 8)) = 0 ∨ ((Int32.toInt (σ 1)) + 10 ≤ 50000 * (Int32.toInt (σ 18)) ∧ (Int32.toInt (σ 16)) + 1 ≤ (Int32.toInt (σ 18)))) ∧ 0 ≤ (Int32.toInt (σ 16)) ∧ (Int32.toInt (σ 16)) ≤ (Int32.toInt (σ 18)) ∧ 0 ≤ (Int32.toInt (σ 17)) ∧ (Int32.toInt (σ 17)) ≤ 2000 * (Int32.toInt (σ 16)))) : Met l yX8_feed wsX8_feed ({ frames := 1, cells := 0, slots := 0, locals := 22 } : Room) (va_Pc [.ref (a 0), .int na, .int nb, .int nc, .int nd, .int ne] (cPre dC dI a κ (σ, φ, γ, ψ) g1 g2)) (va_Qi (QI (fun r S F => ∃ (s0 : Int32) (f0 : Nat → Int32), (up σ 0 s0) = S ∧ (up φ 0 f0) = F ∧ (0 ≤ (Int32.toInt s0) ∧ (Int32.toInt s0) ≤ 4000) ∧ ((Int32.toInt (σ 19)) = 0 ∨ (0 ≤ (Int32.toInt (σ 18)) ∧ (Int32.toInt (σ 18)) ≤ (Int32.toInt s0) ∧ 0 ≤ (Int32.toInt (σ 1)) ∧ (Int32.toInt (σ 1)) ≤ 50000 * (Int32.toInt (σ 18)) ∧ ((Int32.toInt (σ 8)) = 0 ∨ ((Int32.toInt (σ 1)) + 10 ≤ 50000 * (Int32.toInt (σ 18)) ∧ (Int32.toInt (σ 16)) + 1 ≤ (Int32.toInt (σ 18)))) ∧ 0 ≤ (Int32.toInt (σ 16)) ∧ (Int32.toInt (σ 16)) ≤ (Int32.toInt (σ 18)) ∧ 0 ≤ (Int32.toInt (σ 17)) ∧ (Int32.toInt (σ 17)) ≤ 2000 * (Int32.toInt (σ 16)))))) (cB dC dI a κ) (cA a)) 0 0 (cA a) := by
  refine Met.ofW (cc := cX8_feed) (maxL := 6) (ret := (some .int)) (by decide) rfl ?_
  intro p e s m args below meth c s₁ B hml hv
  obtain ⟨rfl, hP, hK, hI, hN, hX⟩ := hv
  have hx := B.exec
  have hb := B.bytes
  have hr := B.returns
  have hts := atoms_spec (ws := wsX8_feed) B.pre
  have hown : s.vm.findClass RX8 = some m.cls := findClass_of_methodNamed B.named
  have hlocks := B.notSynchronized
  have hS : va_S (cA a) s.heap s.heap [] := va_S.rf
  have hinX8 : ∀ w ∈ wsX80, w ∈ wsX8_feed := fun _ h => List.mem_cons_of_mem _ (List.mem_append_left _ (List.mem_append_right _ h))
  have hinX7 : ∀ w ∈ wsX70, w ∈ wsX8_feed := fun _ h => List.mem_cons_of_mem _ (List.mem_append_right _ h)
  have hl := lv_entry ([.ref (a 0), .int na, .int nb, .int nc, .int nd, .int ne]) (n := 6) (Nat.le_of_ble_eq_true rfl)
  rw [lg_entry_eq]
  generalize (lg_sl ([.ref (a 0), .int na, .int nb, .int nc, .int nd, .int ne]) ++ List.replicate (6 - (lg_sl ([.ref (a 0), .int na, .int nb, .int nc, .int nd, .int ne])).length) Slot.unset).toArray = ls at hl ⊢
  have hl : lv_has ls 6 [(0, .ref (a 0)), (1, .int na), (2, .int nb), (3, .int nc), (4, .int nd), (5, .int ne)] := hl
  refine lv_aload_n hx hb dX8_feed_0 rfl (lv_at hl 0 rfl) ?_
  refine cg_0_0 hx hb hts hinX8 hown hK hP (hts (.fieldLink RX8 10 "CensusDesk" "tape" "LCensusDesk$Tape;") (List.mem_of_getElem? (i := 1) rfl)) dX8_feed_1 ?_
  refine lv_bipush (v := 20) hx hb dX8_feed_4 (by decide) ?_
  refine c_calli (va_runV (As := [.int 20]) (rest := []) ⟨hx, hb, hml, hown, hts⟩ (c_X7_hasRoomFor l dC dI a κ σ φ γ ψ g1 g2 20 ) (cwV 1 hts gX8_feed_X7_hasRoomFor rfl rfl rfl ⟨rfl, hd_X7_hasRoomFor⟩ ⟨Nat.le_of_ble_eq_true rfl, Nat.le_of_ble_eq_true rfl⟩) (cPreV hP hK hI hN hX hS (va_recv hK hP (ci := 7) (q0 := 1) rfl rfl)) rfl rfl hl.1 rfl (lv_room (Nat.le_of_ble_eq_true rfl)) dX8_feed_6 ⟨(by decide +kernel), (by decide +kernel)⟩) hS ?_
  clear hP hS; intro r_1 S_1 F_1 γ_1 ψ_1 H locs hw hP hS
  obtain ⟨rfl, rfl, -⟩ := hw
  refine lv_if_ne (tgt := 14) hx hb dX8_feed_9 (by decide) (fun c_2 => ?_) (fun c_2 => ?_)
  · have kc_2 := bI_ne rfl L_0 c_2
    refine lv_aload_n hx hb dX8_feed_14 rfl (lv_at hl 0 rfl) ?_
    refine cg_0_5 (v := (σ 19)) hx hb hts hinX8 hown hK hP (hts (.fieldLink RX8 50 "CensusDesk" "held" "Z") (List.mem_of_getElem? (i := 2) rfl)) rfl dX8_feed_15 ?_
    refine lv_if_eq (tgt := 24) hx hb dX8_feed_18 (by decide) (fun c_3 => ?_) (fun c_3 => ?_)
    · have kc_3 := bI_eq rfl L_0 c_3
      refine lv_aload_n hx hb dX8_feed_24 rfl (lv_at hl 0 rfl) ?_
      refine cg_0_0 hx hb hts hinX8 hown hK hP (hts (.fieldLink RX8 10 "CensusDesk" "tape" "LCensusDesk$Tape;") (List.mem_of_getElem? (i := 1) rfl)) dX8_feed_25 ?_
      refine lv_iload_n hx hb dX8_feed_28 rfl (lv_at hl 1 rfl) ?_
      refine c_callv (va_runV (As := [.int na]) (rest := []) ⟨hx, hb, hml, hown, hts⟩ (c_X7_append l dC dI a κ σ φ γ_1 ψ_1 g1 g2 na (show 0 ≤ (Int32.toInt (σ 0)) ∧ (Int32.toInt (σ 0)) ≤ 4000 from (by omega))) (cwV 1 hts gX8_feed_X7_append rfl rfl rfl ⟨rfl, hd_X7_append⟩ ⟨Nat.le_of_ble_eq_true rfl, Nat.le_of_ble_eq_true rfl⟩) (cPreV hP hK hI hN hX hS (va_recv hK hP (ci := 7) (q0 := 1) rfl rfl)) rfl rfl hl.1 rfl (lv_room (Nat.le_of_ble_eq_true rfl)) dX8_feed_29 ⟨(by decide +kernel), (by decide +kernel)⟩) hS ?_
      clear hP hS; intro S_4 F_4 γ_4 ψ_4 H locs hw hP hS
      obtain ⟨s0_4, f0_4, rfl, rfl, (ql_4 : 0 ≤ (Int32.toInt s0_4) ∧ (Int32.toInt s0_4) ≤ 4000)⟩ := hw
      refine lv_aload_n hx hb dX8_feed_32 rfl (lv_at hl 0 rfl) ?_
      refine cg_0_0 hx hb hts hinX8 hown hK hP (hts (.fieldLink RX8 10 "CensusDesk" "tape" "LCensusDesk$Tape;") (List.mem_of_getElem? (i := 1) rfl)) dX8_feed_33 ?_
      refine lv_iload_n hx hb dX8_feed_36 rfl (lv_at hl 2 rfl) ?_
      refine c_callv (va_runV (As := [.int nb]) (rest := []) ⟨hx, hb, hml, hown, hts⟩ (c_X7_append l dC dI a κ (up σ 0 s0_4) (up φ 0 f0_4) γ_4 ψ_4 g1 g2 nb (show 0 ≤ (Int32.toInt s0_4) ∧ (Int32.toInt s0_4) ≤ 4000 from (by omega))) (cwV 1 hts gX8_feed_X7_append rfl rfl rfl ⟨rfl, hd_X7_append⟩ ⟨Nat.le_of_ble_eq_true rfl, Nat.le_of_ble_eq_true rfl⟩) (cPreV hP hK hI hN hX hS (va_recv hK hP (ci := 7) (q0 := 1) rfl rfl)) rfl rfl hl.1 rfl (lv_room (Nat.le_of_ble_eq_true rfl)) dX8_feed_37 ⟨(by decide +kernel), (by decide +kernel)⟩) hS ?_
      clear hP hS; intro S_5 F_5 γ_5 ψ_5 H locs hw hP hS
      obtain ⟨s0_5, f0_5, rfl, rfl, (ql_5 : 0 ≤ (Int32.toInt s0_5) ∧ (Int32.toInt s0_5) ≤ 4000)⟩ := hw
      refine lv_aload_n hx hb dX8_feed_40 rfl (lv_at hl 0 rfl) ?_
      refine cg_0_0 hx hb hts hinX8 hown hK hP (hts (.fieldLink RX8 10 "CensusDesk" "tape" "LCensusDesk$Tape;") (List.mem_of_getElem? (i := 1) rfl)) dX8_feed_41 ?_
      refine lv_iload_n hx hb dX8_feed_44 rfl (lv_at hl 3 rfl) ?_
      refine c_callv (va_runV (As := [.int nc]) (rest := []) ⟨hx, hb, hml, hown, hts⟩ (c_X7_append l dC dI a κ (up (up σ 0 s0_4) 0 s0_5) (up (up φ 0 f0_4) 0 f0_5) γ_5 ψ_5 g1 g2 nc (show 0 ≤ (Int32.toInt s0_5) ∧ (Int32.toInt s0_5) ≤ 4000 from (by omega))) (cwV 1 hts gX8_feed_X7_append rfl rfl rfl ⟨rfl, hd_X7_append⟩ ⟨Nat.le_of_ble_eq_true rfl, Nat.le_of_ble_eq_true rfl⟩) (cPreV hP hK hI hN hX hS (va_recv hK hP (ci := 7) (q0 := 1) rfl rfl)) rfl rfl hl.1 rfl (lv_room (Nat.le_of_ble_eq_true rfl)) dX8_feed_45 ⟨(by decide +kernel), (by decide +kernel)⟩) hS ?_
      clear hP hS; intro S_6 F_6 γ_6 ψ_6 H locs hw hP hS
      obtain ⟨s0_6, f0_6, rfl, rfl, (ql_6 : 0 ≤ (Int32.toInt s0_6) ∧ (Int32.toInt s0_6) ≤ 4000)⟩ := hw
      refine lv_aload_n hx hb dX8_feed_48 rfl (lv_at hl 0 rfl) ?_
      refine cg_0_0 hx hb hts hinX8 hown hK hP (hts (.fieldLink RX8 10 "CensusDesk" "tape" "LCensusDesk$Tape;") (List.mem_of_getElem? (i := 1) rfl)) dX8_feed_49 ?_
      refine lv_iload hx hb dX8_feed_52 (lv_at hl 4 rfl) ?_
      refine c_callv (va_runV (As := [.int nd]) (rest := []) ⟨hx, hb, hml, hown, hts⟩ (c_X7_append l dC dI a κ (up (up (up σ 0 s0_4) 0 s0_5) 0 s0_6) (up (up (up φ 0 f0_4) 0 f0_5) 0 f0_6) γ_6 ψ_6 g1 g2 nd (show 0 ≤ (Int32.toInt s0_6) ∧ (Int32.toInt s0_6) ≤ 4000 from (by omega))) (cwV 1 hts gX8_feed_X7_append rfl rfl rfl ⟨rfl, hd_X7_append⟩ ⟨Nat.le_of_ble_eq_true rfl, Nat.le_of_ble_eq_true rfl⟩) (cPreV hP hK hI hN hX hS (va_recv hK hP (ci := 7) (q0 := 1) rfl rfl)) rfl rfl hl.1 rfl (lv_room (Nat.le_of_ble_eq_true rfl)) dX8_feed_54 ⟨(by decide +kernel), (by decide +kernel)⟩) hS ?_
      clear hP hS; intro S_7 F_7 γ_7 ψ_7 H locs hw hP hS
      obtain ⟨s0_7, f0_7, rfl, rfl, (ql_7 : 0 ≤ (Int32.toInt s0_7) ∧ (Int32.toInt s0_7) ≤ 4000)⟩ := hw
      refine lv_aload_n hx hb dX8_feed_57 rfl (lv_at hl 0 rfl) ?_
      refine cg_0_0 hx hb hts hinX8 hown hK hP (hts (.fieldLink RX8 10 "CensusDesk" "tape" "LCensusDesk$Tape;") (List.mem_of_getElem? (i := 1) rfl)) dX8_feed_58 ?_
      refine lv_iload hx hb dX8_feed_61 (lv_at hl 5 rfl) ?_
      refine c_callv (va_runV (As := [.int ne]) (rest := []) ⟨hx, hb, hml, hown, hts⟩ (c_X7_append l dC dI a κ (up (up (up (up σ 0 s0_4) 0 s0_5) 0 s0_6) 0 s0_7) (up (up (up (up φ 0 f0_4) 0 f0_5) 0 f0_6) 0 f0_7) γ_7 ψ_7 g1 g2 ne (show 0 ≤ (Int32.toInt s0_7) ∧ (Int32.toInt s0_7) ≤ 4000 from (by omega))) (cwV 1 hts gX8_feed_X7_append rfl rfl rfl ⟨rfl, hd_X7_append⟩ ⟨Nat.le_of_ble_eq_true rfl, Nat.le_of_ble_eq_true rfl⟩) (cPreV hP hK hI hN hX hS (va_recv hK hP (ci := 7) (q0 := 1) rfl rfl)) rfl rfl hl.1 rfl (lv_room (Nat.le_of_ble_eq_true rfl)) dX8_feed_63 ⟨(by decide +kernel), (by decide +kernel)⟩) hS ?_
      clear hP hS; intro S_8 F_8 γ_8 ψ_8 H locs hw hP hS
      obtain ⟨s0_8, f0_8, rfl, rfl, (ql_8 : 0 ≤ (Int32.toInt s0_8) ∧ (Int32.toInt s0_8) ≤ 4000)⟩ := hw
      refine lv_aload_n hx hb dX8_feed_66 rfl (lv_at hl 0 rfl) ?_
      refine cg_0_0 hx hb hts hinX8 hown hK hP (hts (.fieldLink RX8 10 "CensusDesk" "tape" "LCensusDesk$Tape;") (List.mem_of_getElem? (i := 1) rfl)) dX8_feed_67 ?_
      refine cgN_1_1 (v := s0_8) hx hb hts hinX7 hown hK hP (va_Nw.use rfl (hN.1 ("CensusDesk", 58, "CensusDesk$Tape", "length", "I") (List.mem_of_getElem? (i := 1) rfl))) rfl dX8_feed_70 ?_
      exact W.iret (v := s0_8) hx hb hr (fun t ht hW => ⟨⟨s0_8, ((up σ 0 s0_8), (up φ 0 f0_8), γ_8, ψ_8), rfl, ⟨s0_8, f0_8, rfl, rfl, (show 0 ≤ (Int32.toInt s0_8) ∧ (Int32.toInt s0_8) ≤ 4000 from (by omega)), (show (Int32.toInt (σ 19)) = 0 ∨ (0 ≤ (Int32.toInt (σ 18)) ∧ (Int32.toInt (σ 18)) ≤ (Int32.toInt s0_8) ∧ 0 ≤ (Int32.toInt (σ 1)) ∧ (Int32.toInt (σ 1)) ≤ 50000 * (Int32.toInt (σ 18)) ∧ ((Int32.toInt (σ 8)) = 0 ∨ ((Int32.toInt (σ 1)) + 10 ≤ 50000 * (Int32.toInt (σ 18)) ∧ (Int32.toInt (σ 16)) + 1 ≤ (Int32.toInt (σ 18)))) ∧ 0 ≤ (Int32.toInt (σ 16)) ∧ (Int32.toInt (σ 16)) ≤ (Int32.toInt (σ 18)) ∧ 0 ≤ (Int32.toInt (σ 17)) ∧ (Int32.toInt (σ 17)) ≤ 2000 * (Int32.toInt (σ 16))) from (by omega))⟩, (by show va_P _ _ _ _; rw [ht]; exact hP)⟩, hS.F ht⟩) hS.2.2 dX8_feed_73
    · have kc_3 := bI_ne rfl L_0 c_3
      refine lv_bipush (v := (-2)) hx hb dX8_feed_21 (by decide) ?_
      exact W.iret (v := (-2)) hx hb hr (fun t ht hW => ⟨⟨(-2), ((up σ 0 (σ 0)), (up φ 0 (φ 0)), γ_1, ψ_1), rfl, ⟨(σ 0), (φ 0), rfl, rfl, (show 0 ≤ (Int32.toInt (σ 0)) ∧ (Int32.toInt (σ 0)) ≤ 4000 from (by omega)), (show (Int32.toInt (σ 19)) = 0 ∨ (0 ≤ (Int32.toInt (σ 18)) ∧ (Int32.toInt (σ 18)) ≤ (Int32.toInt (σ 0)) ∧ 0 ≤ (Int32.toInt (σ 1)) ∧ (Int32.toInt (σ 1)) ≤ 50000 * (Int32.toInt (σ 18)) ∧ ((Int32.toInt (σ 8)) = 0 ∨ ((Int32.toInt (σ 1)) + 10 ≤ 50000 * (Int32.toInt (σ 18)) ∧ (Int32.toInt (σ 16)) + 1 ≤ (Int32.toInt (σ 18)))) ∧ 0 ≤ (Int32.toInt (σ 16)) ∧ (Int32.toInt (σ 16)) ≤ (Int32.toInt (σ 18)) ∧ 0 ≤ (Int32.toInt (σ 17)) ∧ (Int32.toInt (σ 17)) ≤ 2000 * (Int32.toInt (σ 16))) from (by omega))⟩, (by show va_P _ _ _ _; rw [ht]; exact hP)⟩, hS.F ht⟩) hS.2.2 dX8_feed_23
  · have kc_2 := bI_eq rfl L_0 c_2
    refine lv_iconst (v := (-1)) hx hb dX8_feed_12 (by decide) ?_
    exact W.iret (v := (-1)) hx hb hr (fun t ht hW => ⟨⟨(-1), ((up σ 0 (σ 0)), (up φ 0 (φ 0)), γ_1, ψ_1), rfl, ⟨(σ 0), (φ 0), rfl, rfl, (show 0 ≤ (Int32.toInt (σ 0)) ∧ (Int32.toInt (σ 0)) ≤ 4000 from (by omega)), (show (Int32.toInt (σ 19)) = 0 ∨ (0 ≤ (Int32.toInt (σ 18)) ∧ (Int32.toInt (σ 18)) ≤ (Int32.toInt (σ 0)) ∧ 0 ≤ (Int32.toInt (σ 1)) ∧ (Int32.toInt (σ 1)) ≤ 50000 * (Int32.toInt (σ 18)) ∧ ((Int32.toInt (σ 8)) = 0 ∨ ((Int32.toInt (σ 1)) + 10 ≤ 50000 * (Int32.toInt (σ 18)) ∧ (Int32.toInt (σ 16)) + 1 ≤ (Int32.toInt (σ 18)))) ∧ 0 ≤ (Int32.toInt (σ 16)) ∧ (Int32.toInt (σ 16)) ≤ (Int32.toInt (σ 18)) ∧ 0 ≤ (Int32.toInt (σ 17)) ∧ (Int32.toInt (σ 17)) ≤ 2000 * (Int32.toInt (σ 16))) from (by omega))⟩, (by show va_P _ _ _ _; rw [ht]; exact hP)⟩, hS.F ht⟩) hS.2.2 dX8_feed_13
set_option maxHeartbeats 4000000 in
set_option maxRecDepth 100000 in
theorem c_X8_end (l : Launch) (dC : Nat → ClassId) (dI : Nat → Nat → Nat) (a : Nat → Nat) (κ : Nat → ClassId) (σ : Nat → Int32) (φ : Nat → Nat → Int32) (γ : Nat → Int32) (ψ : Nat → Nat → Int32) (g1 g2 : Nat) (n : Int32) (hlen : 0 ≤ (Int32.toInt (σ 0)) ∧ (Int32.toInt (σ 0)) ≤ 4000) (hri : (Int32.toInt (σ 19)) = 0 ∨ (0 ≤ (Int32.toInt (σ 18)) ∧ (Int32.toInt (σ 18)) ≤ (Int32.toInt (σ 0)) ∧ 0 ≤ (Int32.toInt (σ 1)) ∧ (Int32.toInt (σ 1)) ≤ 50000 * (Int32.toInt (σ 18)) ∧ ((Int32.toInt (σ 8)) = 0 ∨ ((Int32.toInt (σ 1)) + 10 ≤ 50000 * (Int32.toInt (σ 18)) ∧ (Int32.toInt (σ 16)) + 1 ≤ (Int32.toInt (σ 18)))) ∧ 0 ≤ (Int32.toInt (σ 16)) ∧ (Int32.toInt (σ 16)) ≤ (Int32.toInt (σ 18)) ∧ 0 ≤ (Int32.toInt (σ 17)) ∧ (Int32.toInt (σ 17)) ≤ 2000 * (Int32.toInt (σ 16)))) : Met l yX8_end wsX8_end ({ frames := 1, cells := 0, slots := 0, locals := 21 } : Room) (va_Pc [.ref (a 0), .int n] (cPre dC dI a κ (σ, φ, γ, ψ) g1 g2)) (va_Qi (QI (fun r S F => ∃ (s0 : Int32), (up σ 0 s0) = S ∧ φ = F ∧ (0 ≤ (Int32.toInt s0) ∧ (Int32.toInt s0) ≤ 4000) ∧ ((Int32.toInt (σ 19)) = 0 ∨ (0 ≤ (Int32.toInt (σ 18)) ∧ (Int32.toInt (σ 18)) ≤ (Int32.toInt s0) ∧ 0 ≤ (Int32.toInt (σ 1)) ∧ (Int32.toInt (σ 1)) ≤ 50000 * (Int32.toInt (σ 18)) ∧ ((Int32.toInt (σ 8)) = 0 ∨ ((Int32.toInt (σ 1)) + 10 ≤ 50000 * (Int32.toInt (σ 18)) ∧ (Int32.toInt (σ 16)) + 1 ≤ (Int32.toInt (σ 18)))) ∧ 0 ≤ (Int32.toInt (σ 16)) ∧ (Int32.toInt (σ 16)) ≤ (Int32.toInt (σ 18)) ∧ 0 ≤ (Int32.toInt (σ 17)) ∧ (Int32.toInt (σ 17)) ≤ 2000 * (Int32.toInt (σ 16)))))) (cB dC dI a κ) (cA a)) 0 0 (cA a) := by
  refine Met.ofW (cc := cX8_end) (maxL := 2) (ret := (some .int)) (by decide) rfl ?_
  intro p e s m args below meth c s₁ B hml hv
  obtain ⟨rfl, hP, hK, hI, hN, hX⟩ := hv
  have hx := B.exec
  have hb := B.bytes
  have hr := B.returns
  have hts := atoms_spec (ws := wsX8_end) B.pre
  have hown : s.vm.findClass RX8 = some m.cls := findClass_of_methodNamed B.named
  have hlocks := B.notSynchronized
  have hS : va_S (cA a) s.heap s.heap [] := va_S.rf
  have hinX8 : ∀ w ∈ wsX80, w ∈ wsX8_end := fun _ h => List.mem_cons_of_mem _ (List.mem_append_left _ (List.mem_append_right _ h))
  have hinX7 : ∀ w ∈ wsX70, w ∈ wsX8_end := fun _ h => List.mem_cons_of_mem _ (List.mem_append_right _ h)
  have hl := lv_entry ([.ref (a 0), .int n]) (n := 2) (Nat.le_of_ble_eq_true rfl)
  rw [lg_entry_eq]
  generalize (lg_sl ([.ref (a 0), .int n]) ++ List.replicate (2 - (lg_sl ([.ref (a 0), .int n])).length) Slot.unset).toArray = ls at hl ⊢
  have hl : lv_has ls 2 [(0, .ref (a 0)), (1, .int n)] := hl
  refine lv_iload_n hx hb dX8_end_0 rfl (lv_at hl 1 rfl) ?_
  refine lv_if_lt (tgt := 15) hx hb dX8_end_1 (by decide) (fun c_1 => ?_) (fun c_1 => ?_)
  · have kc_1 := bI_lt rfl L_0 c_1
    refine lv_iconst (v := (-1)) hx hb dX8_end_15 (by decide) ?_
    exact W.iret (v := (-1)) hx hb hr (fun t ht hW => ⟨⟨(-1), ((up σ 0 (σ 0)), φ, γ, ψ), rfl, ⟨(σ 0), rfl, rfl, (show 0 ≤ (Int32.toInt (σ 0)) ∧ (Int32.toInt (σ 0)) ≤ 4000 from (by omega)), (show (Int32.toInt (σ 19)) = 0 ∨ (0 ≤ (Int32.toInt (σ 18)) ∧ (Int32.toInt (σ 18)) ≤ (Int32.toInt (σ 0)) ∧ 0 ≤ (Int32.toInt (σ 1)) ∧ (Int32.toInt (σ 1)) ≤ 50000 * (Int32.toInt (σ 18)) ∧ ((Int32.toInt (σ 8)) = 0 ∨ ((Int32.toInt (σ 1)) + 10 ≤ 50000 * (Int32.toInt (σ 18)) ∧ (Int32.toInt (σ 16)) + 1 ≤ (Int32.toInt (σ 18)))) ∧ 0 ≤ (Int32.toInt (σ 16)) ∧ (Int32.toInt (σ 16)) ≤ (Int32.toInt (σ 18)) ∧ 0 ≤ (Int32.toInt (σ 17)) ∧ (Int32.toInt (σ 17)) ≤ 2000 * (Int32.toInt (σ 16))) from (by omega))⟩, (by show va_P _ _ _ _; rw [ht]; exact hP)⟩, hS.F ht⟩) hS.2.2 dX8_end_16
  · have kc_1 := bI_nlt rfl L_0 c_1
    refine lv_iload_n hx hb dX8_end_4 rfl (lv_at hl 1 rfl) ?_
    refine lv_aload_n hx hb dX8_end_5 rfl (lv_at hl 0 rfl) ?_
    refine cg_0_0 hx hb hts hinX8 hown hK hP (hts (.fieldLink RX8 10 "CensusDesk" "tape" "LCensusDesk$Tape;") (List.mem_of_getElem? (i := 1) rfl)) dX8_end_6 ?_
    refine cgN_1_1 (v := (σ 0)) hx hb hts hinX7 hown hK hP (va_Nw.use rfl (hN.1 ("CensusDesk", 58, "CensusDesk$Tape", "length", "I") (List.mem_of_getElem? (i := 1) rfl))) rfl dX8_end_9 ?_
    refine lv_icmp_le (tgt := 17) hx hb dX8_end_12 (by decide) (fun c_2 => ?_) (fun c_2 => ?_)
    · have kc_2 := bI_le rfl rfl c_2
      refine lv_aload_n hx hb dX8_end_17 rfl (lv_at hl 0 rfl) ?_
      refine cg_0_5 (v := (σ 19)) hx hb hts hinX8 hown hK hP (hts (.fieldLink RX8 50 "CensusDesk" "held" "Z") (List.mem_of_getElem? (i := 2) rfl)) rfl dX8_end_18 ?_
      refine lv_if_eq (tgt := 27) hx hb dX8_end_21 (by decide) (fun c_3 => ?_) (fun c_3 => ?_)
      · have kc_3 := bI_eq rfl L_0 c_3
        refine lv_aload_n hx hb dX8_end_27 rfl (lv_at hl 0 rfl) ?_
        refine cg_0_0 hx hb hts hinX8 hown hK hP (hts (.fieldLink RX8 10 "CensusDesk" "tape" "LCensusDesk$Tape;") (List.mem_of_getElem? (i := 1) rfl)) dX8_end_28 ?_
        refine lv_iload_n hx hb dX8_end_31 rfl (lv_at hl 1 rfl) ?_
        refine c_callv (va_runV (As := [.int n]) (rest := []) ⟨hx, hb, hml, hown, hts⟩ (c_X7_keepFirst l dC dI a κ σ φ γ ψ g1 g2 n (show 0 ≤ (Int32.toInt (σ 0)) ∧ (Int32.toInt (σ 0)) ≤ 4000 from (by omega))) (cwV 1 hts gX8_end_X7_keepFirst rfl rfl rfl ⟨rfl, hd_X7_keepFirst⟩ ⟨Nat.le_of_ble_eq_true rfl, Nat.le_of_ble_eq_true rfl⟩) (cPreV hP hK hI hN hX hS (va_recv hK hP (ci := 7) (q0 := 1) rfl rfl)) rfl rfl hl.1 rfl (lv_room (Nat.le_of_ble_eq_true rfl)) dX8_end_32 ⟨(by decide +kernel), (by decide +kernel)⟩) hS ?_
        clear hP hS; intro S_4 F_4 γ_4 ψ_4 H locs hw hP hS
        obtain ⟨s0_4, rfl, rfl, (ql_4 : 0 ≤ (Int32.toInt s0_4) ∧ (Int32.toInt s0_4) ≤ 4000)⟩ := hw
        refine lv_iload_n hx hb dX8_end_35 rfl (lv_at hl 1 rfl) ?_
        exact W.iret (v := n) hx hb hr (fun t ht hW => ⟨⟨n, ((up σ 0 s0_4), φ, γ_4, ψ_4), rfl, ⟨s0_4, rfl, rfl, (show 0 ≤ (Int32.toInt s0_4) ∧ (Int32.toInt s0_4) ≤ 4000 from (by omega)), (show (Int32.toInt (σ 19)) = 0 ∨ (0 ≤ (Int32.toInt (σ 18)) ∧ (Int32.toInt (σ 18)) ≤ (Int32.toInt s0_4) ∧ 0 ≤ (Int32.toInt (σ 1)) ∧ (Int32.toInt (σ 1)) ≤ 50000 * (Int32.toInt (σ 18)) ∧ ((Int32.toInt (σ 8)) = 0 ∨ ((Int32.toInt (σ 1)) + 10 ≤ 50000 * (Int32.toInt (σ 18)) ∧ (Int32.toInt (σ 16)) + 1 ≤ (Int32.toInt (σ 18)))) ∧ 0 ≤ (Int32.toInt (σ 16)) ∧ (Int32.toInt (σ 16)) ≤ (Int32.toInt (σ 18)) ∧ 0 ≤ (Int32.toInt (σ 17)) ∧ (Int32.toInt (σ 17)) ≤ 2000 * (Int32.toInt (σ 16))) from (by omega))⟩, (by show va_P _ _ _ _; rw [ht]; exact hP)⟩, hS.F ht⟩) hS.2.2 dX8_end_36
      · have kc_3 := bI_ne rfl L_0 c_3
        refine lv_bipush (v := (-2)) hx hb dX8_end_24 (by decide) ?_
        exact W.iret (v := (-2)) hx hb hr (fun t ht hW => ⟨⟨(-2), ((up σ 0 (σ 0)), φ, γ, ψ), rfl, ⟨(σ 0), rfl, rfl, (show 0 ≤ (Int32.toInt (σ 0)) ∧ (Int32.toInt (σ 0)) ≤ 4000 from (by omega)), (show (Int32.toInt (σ 19)) = 0 ∨ (0 ≤ (Int32.toInt (σ 18)) ∧ (Int32.toInt (σ 18)) ≤ (Int32.toInt (σ 0)) ∧ 0 ≤ (Int32.toInt (σ 1)) ∧ (Int32.toInt (σ 1)) ≤ 50000 * (Int32.toInt (σ 18)) ∧ ((Int32.toInt (σ 8)) = 0 ∨ ((Int32.toInt (σ 1)) + 10 ≤ 50000 * (Int32.toInt (σ 18)) ∧ (Int32.toInt (σ 16)) + 1 ≤ (Int32.toInt (σ 18)))) ∧ 0 ≤ (Int32.toInt (σ 16)) ∧ (Int32.toInt (σ 16)) ≤ (Int32.toInt (σ 18)) ∧ 0 ≤ (Int32.toInt (σ 17)) ∧ (Int32.toInt (σ 17)) ≤ 2000 * (Int32.toInt (σ 16))) from (by omega))⟩, (by show va_P _ _ _ _; rw [ht]; exact hP)⟩, hS.F ht⟩) hS.2.2 dX8_end_26
    · have kc_2 := bI_nle rfl rfl c_2
      refine lv_iconst (v := (-1)) hx hb dX8_end_15 (by decide) ?_
      exact W.iret (v := (-1)) hx hb hr (fun t ht hW => ⟨⟨(-1), ((up σ 0 (σ 0)), φ, γ, ψ), rfl, ⟨(σ 0), rfl, rfl, (show 0 ≤ (Int32.toInt (σ 0)) ∧ (Int32.toInt (σ 0)) ≤ 4000 from (by omega)), (show (Int32.toInt (σ 19)) = 0 ∨ (0 ≤ (Int32.toInt (σ 18)) ∧ (Int32.toInt (σ 18)) ≤ (Int32.toInt (σ 0)) ∧ 0 ≤ (Int32.toInt (σ 1)) ∧ (Int32.toInt (σ 1)) ≤ 50000 * (Int32.toInt (σ 18)) ∧ ((Int32.toInt (σ 8)) = 0 ∨ ((Int32.toInt (σ 1)) + 10 ≤ 50000 * (Int32.toInt (σ 18)) ∧ (Int32.toInt (σ 16)) + 1 ≤ (Int32.toInt (σ 18)))) ∧ 0 ≤ (Int32.toInt (σ 16)) ∧ (Int32.toInt (σ 16)) ≤ (Int32.toInt (σ 18)) ∧ 0 ≤ (Int32.toInt (σ 17)) ∧ (Int32.toInt (σ 17)) ≤ 2000 * (Int32.toInt (σ 16))) from (by omega))⟩, (by show va_P _ _ _ _; rw [ht]; exact hP)⟩, hS.F ht⟩) hS.2.2 dX8_end_16
set_option maxHeartbeats 4000000 in
set_option maxRecDepth 100000 in
theorem c_X8_drop (l : Launch) (dC : Nat → ClassId) (dI : Nat → Nat → Nat) (a : Nat → Nat) (κ : Nat → ClassId) (σ : Nat → Int32) (φ : Nat → Nat → Int32) (γ : Nat → Int32) (ψ : Nat → Nat → Int32) (g1 g2 : Nat)  (hac : AC (σ 21) (σ 22) (σ 23) (σ 19) (σ 20)) (hri : (Int32.toInt (σ 19)) = 0 ∨ (0 ≤ (Int32.toInt (σ 18)) ∧ (Int32.toInt (σ 18)) ≤ (Int32.toInt (σ 0)) ∧ 0 ≤ (Int32.toInt (σ 1)) ∧ (Int32.toInt (σ 1)) ≤ 50000 * (Int32.toInt (σ 18)) ∧ ((Int32.toInt (σ 8)) = 0 ∨ ((Int32.toInt (σ 1)) + 10 ≤ 50000 * (Int32.toInt (σ 18)) ∧ (Int32.toInt (σ 16)) + 1 ≤ (Int32.toInt (σ 18)))) ∧ 0 ≤ (Int32.toInt (σ 16)) ∧ (Int32.toInt (σ 16)) ≤ (Int32.toInt (σ 18)) ∧ 0 ≤ (Int32.toInt (σ 17)) ∧ (Int32.toInt (σ 17)) ≤ 2000 * (Int32.toInt (σ 16)))) (hbh : (σ 19) ≠ 0 → BP (σ 11) (σ 12) (σ 16) (σ 17) (φ 5)) : Met l yX8_drop wsX8_drop ({ frames := 0, cells := 0, slots := 0, locals := 0 } : Room) (va_Pc [.ref (a 0)] (cPre dC dI a κ (σ, φ, γ, ψ) g1 g2)) (va_Qi (QI (fun r S F => ∃ (s19 : Int32) (s22 : Int32), (up (up σ 19 s19) 22 s22) = S ∧ φ = F ∧ (AC (σ 21) s22 (σ 23) s19 (σ 20)) ∧ ((Int32.toInt s19) = 0 ∨ (0 ≤ (Int32.toInt (σ 18)) ∧ (Int32.toInt (σ 18)) ≤ (Int32.toInt (σ 0)) ∧ 0 ≤ (Int32.toInt (σ 1)) ∧ (Int32.toInt (σ 1)) ≤ 50000 * (Int32.toInt (σ 18)) ∧ ((Int32.toInt (σ 8)) = 0 ∨ ((Int32.toInt (σ 1)) + 10 ≤ 50000 * (Int32.toInt (σ 18)) ∧ (Int32.toInt (σ 16)) + 1 ≤ (Int32.toInt (σ 18)))) ∧ 0 ≤ (Int32.toInt (σ 16)) ∧ (Int32.toInt (σ 16)) ≤ (Int32.toInt (σ 18)) ∧ 0 ≤ (Int32.toInt (σ 17)) ∧ (Int32.toInt (σ 17)) ≤ 2000 * (Int32.toInt (σ 16)))) ∧ (s19 ≠ 0 → BP (σ 11) (σ 12) (σ 16) (σ 17) (φ 5)))) (cB dC dI a κ) (cA a)) 0 0 (cA a) := by
  refine Met.ofW (cc := cX8_drop) (maxL := 1) (ret := (some .int)) (by decide) rfl ?_
  intro p e s m args below meth c s₁ B hml hv
  obtain ⟨rfl, hP, hK, hI, hN, hX⟩ := hv
  have hx := B.exec
  have hb := B.bytes
  have hr := B.returns
  have hts := atoms_spec (ws := wsX8_drop) B.pre
  have hown : s.vm.findClass RX8 = some m.cls := findClass_of_methodNamed B.named
  have hlocks := B.notSynchronized
  have hS : va_S (cA a) s.heap s.heap [] := va_S.rf
  have hinX8 : ∀ w ∈ wsX80, w ∈ wsX8_drop := fun _ h => List.mem_cons_of_mem _ (List.mem_append_left _ (List.mem_append_right _ h))
  have hinX4 : ∀ w ∈ wsX40, w ∈ wsX8_drop := fun _ h => List.mem_cons_of_mem _ (List.mem_append_right _ h)
  have hl := lv_entry ([.ref (a 0)]) (n := 1) (Nat.le_of_ble_eq_true rfl)
  rw [lg_entry_eq]
  generalize (lg_sl ([.ref (a 0)]) ++ List.replicate (1 - (lg_sl ([.ref (a 0)])).length) Slot.unset).toArray = ls at hl ⊢
  have hl : lv_has ls 1 [(0, .ref (a 0))] := hl
  refine lv_aload_n hx hb dX8_drop_0 rfl (lv_at hl 0 rfl) ?_
  refine cg_0_5 (v := (σ 19)) hx hb hts hinX8 hown hK hP (hts (.fieldLink RX8 50 "CensusDesk" "held" "Z") (List.mem_of_getElem? (i := 1) rfl)) rfl dX8_drop_1 ?_
  refine lv_if_ne (tgt := 9) hx hb dX8_drop_4 (by decide) (fun c_1 => ?_) (fun c_1 => ?_)
  · have kc_1 := bI_ne rfl L_0 c_1
    refine lv_aload_n hx hb dX8_drop_9 rfl (lv_at hl 0 rfl) ?_
    refine lv_iconst (v := 0) hx hb dX8_drop_10 (by decide) ?_
    refine cp_0_5 (v := 0) hx hb hts hinX8 hown hK hP hI hS (hts (.fieldLink RX8 50 "CensusDesk" "held" "Z") (List.mem_of_getElem? (i := 1) rfl)) (by first | rfl | decide) (by first | rfl | decide) dX8_drop_11 ?_
    clear hP hS; intro H locs hP hS
    refine lv_aload_n hx hb dX8_drop_14 rfl (lv_at hl 0 rfl) ?_
    refine lv_dup hx hb dX8_drop_15 rfl ?_
    refine cg_0_8 (v := (σ 22)) hx hb hts hinX8 hown hK hP (hts (.fieldLink RX8 87 "CensusDesk" "refused" "I") (List.mem_of_getElem? (i := 2) rfl)) rfl dX8_drop_16 ?_
    refine lv_iconst (v := 1) hx hb dX8_drop_19 (by decide) ?_
    refine lv_iadd hx hb dX8_drop_20 ?_
    refine lv_topi (fun z_2 ez_2 => ?_)
    refine cp_0_8 (v := z_2) hx hb hts hinX8 hown hK hP hI hS (hts (.fieldLink RX8 87 "CensusDesk" "refused" "I") (List.mem_of_getElem? (i := 2) rfl)) dX8_drop_21 ?_
    clear hP hS; intro H locs hP hS
    refine lv_aload_n hx hb dX8_drop_24 rfl (lv_at hl 0 rfl) ?_
    refine cg_0_4 hx hb hts hinX8 hown hK hP (hts (.fieldLink RX8 42 "CensusDesk" "reader" "LCensusDesk$Reader;") (List.mem_of_getElem? (i := 3) rfl)) dX8_drop_25 ?_
    refine cgN_5_9 (v := (σ 16)) hx hb hts hinX4 hown hK hP (va_Nw.use rfl (hN.1 ("CensusDesk", 90, "CensusDesk$Reader", "taken", "I") (List.mem_of_getElem? (i := 29) rfl))) rfl dX8_drop_28 ?_
    exact W.iret (v := (σ 16)) hx hb hr (fun t ht hW => ⟨⟨(σ 16), ((up (up σ 19 0) 22 z_2), φ, γ, ψ), rfl, ⟨0, z_2, rfl, rfl, (AC.r rfl (hac.of1 c_1) ez_2), (show (Int32.toInt 0) = 0 ∨ (0 ≤ (Int32.toInt (σ 18)) ∧ (Int32.toInt (σ 18)) ≤ (Int32.toInt (σ 0)) ∧ 0 ≤ (Int32.toInt (σ 1)) ∧ (Int32.toInt (σ 1)) ≤ 50000 * (Int32.toInt (σ 18)) ∧ ((Int32.toInt (σ 8)) = 0 ∨ ((Int32.toInt (σ 1)) + 10 ≤ 50000 * (Int32.toInt (σ 18)) ∧ (Int32.toInt (σ 16)) + 1 ≤ (Int32.toInt (σ 18)))) ∧ 0 ≤ (Int32.toInt (σ 16)) ∧ (Int32.toInt (σ 16)) ≤ (Int32.toInt (σ 18)) ∧ 0 ≤ (Int32.toInt (σ 17)) ∧ (Int32.toInt (σ 17)) ≤ 2000 * (Int32.toInt (σ 16))) from (by have := L_0; omega)), (fun h => absurd rfl h)⟩, (by show va_P _ _ _ _; rw [ht]; exact hP)⟩, hS.F ht⟩) hS.2.2 dX8_drop_31
  · have kc_1 := bI_eq rfl L_0 c_1
    refine lv_iconst (v := (-1)) hx hb dX8_drop_7 (by decide) ?_
    exact W.iret (v := (-1)) hx hb hr (fun t ht hW => ⟨⟨(-1), ((up (up σ 19 (σ 19)) 22 (σ 22)), φ, γ, ψ), rfl, ⟨(σ 19), (σ 22), rfl, rfl, hac, (show (Int32.toInt (σ 19)) = 0 ∨ (0 ≤ (Int32.toInt (σ 18)) ∧ (Int32.toInt (σ 18)) ≤ (Int32.toInt (σ 0)) ∧ 0 ≤ (Int32.toInt (σ 1)) ∧ (Int32.toInt (σ 1)) ≤ 50000 * (Int32.toInt (σ 18)) ∧ ((Int32.toInt (σ 8)) = 0 ∨ ((Int32.toInt (σ 1)) + 10 ≤ 50000 * (Int32.toInt (σ 18)) ∧ (Int32.toInt (σ 16)) + 1 ≤ (Int32.toInt (σ 18)))) ∧ 0 ≤ (Int32.toInt (σ 16)) ∧ (Int32.toInt (σ 16)) ≤ (Int32.toInt (σ 18)) ∧ 0 ≤ (Int32.toInt (σ 17)) ∧ (Int32.toInt (σ 17)) ≤ 2000 * (Int32.toInt (σ 16))) from (by omega)), hbh⟩, (by show va_P _ _ _ _; rw [ht]; exact hP)⟩, hS.F ht⟩) hS.2.2 dX8_drop_8
set_option maxHeartbeats 4000000 in
set_option maxRecDepth 100000 in
theorem c_X8_conclude (l : Launch) (dC : Nat → ClassId) (dI : Nat → Nat → Nat) (a : Nat → Nat) (κ : Nat → ClassId) (σ : Nat → Int32) (φ : Nat → Nat → Int32) (γ : Nat → Int32) (ψ : Nat → Nat → Int32) (g1 g2 : Nat) (outcome : Int32) (hlen : 0 ≤ (Int32.toInt (σ 0)) ∧ (Int32.toInt (σ 0)) ≤ 4000) (hr : 0 ≤ (Int32.toInt (σ 18)) ∧ (Int32.toInt (σ 18)) ≤ (Int32.toInt (σ 0)) ∧ 0 ≤ (Int32.toInt (σ 1)) ∧ (Int32.toInt (σ 1)) ≤ 50000 * (Int32.toInt (σ 18)) ∧ ((Int32.toInt (σ 8)) = 0 ∨ ((Int32.toInt (σ 1)) + 10 ≤ 50000 * (Int32.toInt (σ 18)) ∧ (Int32.toInt (σ 16)) + 1 ≤ (Int32.toInt (σ 18)))) ∧ 0 ≤ (Int32.toInt (σ 16)) ∧ (Int32.toInt (σ 16)) ≤ (Int32.toInt (σ 18)) ∧ 0 ≤ (Int32.toInt (σ 17)) ∧ (Int32.toInt (σ 17)) ≤ 2000 * (Int32.toInt (σ 16))) (hb : 0 ≤ (Int32.toInt (σ 11)) ∧ (Int32.toInt (σ 11)) ≤ 60 ∧ 0 ≤ (Int32.toInt (σ 12)) ∧ (Int32.toInt (σ 12)) ≤ 300) (hbs : BS (σ 11) (σ 12) (σ 13) (σ 14) (σ 15) (φ 5) (φ 6) (φ 7)) (hbp : BP (σ 11) (σ 12) (σ 16) (σ 17) (φ 5)) (hpa : (σ 21) + (σ 22) + (σ 23) + 1 = (σ 20)) (hh0 : (σ 19) = 0) : Met l yX8_conclude wsX8_conclude ({ frames := 2, cells := 0, slots := 0, locals := 46 } : Room) (va_Pc [.ref (a 0), .int outcome] (cPre dC dI a κ (σ, φ, γ, ψ) g1 g2)) (va_Qi (QI (fun r S F => ∃ (s19 : Int32) (s21 : Int32) (s22 : Int32) (s23 : Int32) (s11 : Int32) (s12 : Int32) (s13 : Int32) (s14 : Int32) (s15 : Int32), (up (up (up (up (up (up (up (up (up σ 19 s19) 21 s21) 22 s22) 23 s23) 11 s11) 12 s12) 13 s13) 14 s14) 15 s15) = S ∧ φ = F ∧ (0 ≤ (Int32.toInt s11) ∧ (Int32.toInt s11) ≤ 60 ∧ 0 ≤ (Int32.toInt s12) ∧ (Int32.toInt s12) ≤ 300) ∧ (BS s11 s12 s13 s14 s15 (φ 5) (φ 6) (φ 7)) ∧ (AC s21 s22 s23 s19 (σ 20)) ∧ ((Int32.toInt s19) = 0 ∨ (0 ≤ (Int32.toInt (σ 18)) ∧ (Int32.toInt (σ 18)) ≤ (Int32.toInt (σ 0)) ∧ 0 ≤ (Int32.toInt (σ 1)) ∧ (Int32.toInt (σ 1)) ≤ 50000 * (Int32.toInt (σ 18)) ∧ ((Int32.toInt (σ 8)) = 0 ∨ ((Int32.toInt (σ 1)) + 10 ≤ 50000 * (Int32.toInt (σ 18)) ∧ (Int32.toInt (σ 16)) + 1 ≤ (Int32.toInt (σ 18)))) ∧ 0 ≤ (Int32.toInt (σ 16)) ∧ (Int32.toInt (σ 16)) ≤ (Int32.toInt (σ 18)) ∧ 0 ≤ (Int32.toInt (σ 17)) ∧ (Int32.toInt (σ 17)) ≤ 2000 * (Int32.toInt (σ 16)))) ∧ (s19 ≠ 0 → BP s11 s12 (σ 16) (σ 17) (φ 5)))) (cB dC dI a κ) (cA a)) 0 0 (cA a) := by
  refine Met.ofW (cc := cX8_conclude) (maxL := 2) (ret := (some .int)) (by decide) rfl ?_
  intro p e s m args below meth c s₁ B hml hv
  obtain ⟨rfl, hP, hK, hI, hN, hX⟩ := hv
  have hx := B.exec
  have hb := B.bytes
  have hr := B.returns
  have hts := atoms_spec (ws := wsX8_conclude) B.pre
  have hown : s.vm.findClass RX8 = some m.cls := findClass_of_methodNamed B.named
  have hlocks := B.notSynchronized
  have hS : va_S (cA a) s.heap s.heap [] := va_S.rf
  have hinX8 : ∀ w ∈ wsX80, w ∈ wsX8_conclude := fun _ h => List.mem_cons_of_mem _ (List.mem_append_left _ (List.mem_append_left _ (List.mem_append_right _ h)))
  have hinX4 : ∀ w ∈ wsX40, w ∈ wsX8_conclude := fun _ h => List.mem_cons_of_mem _ (List.mem_append_left _ (List.mem_append_right _ h))
  have hinX0 : ∀ w ∈ wsX00, w ∈ wsX8_conclude := fun _ h => List.mem_cons_of_mem _ (List.mem_append_right _ h)
  have hl := lv_entry ([.ref (a 0), .int outcome]) (n := 2) (Nat.le_of_ble_eq_true rfl)
  rw [lg_entry_eq]
  generalize (lg_sl ([.ref (a 0), .int outcome]) ++ List.replicate (2 - (lg_sl ([.ref (a 0), .int outcome])).length) Slot.unset).toArray = ls at hl ⊢
  have hl : lv_has ls 2 [(0, .ref (a 0)), (1, .int outcome)] := hl
  have hh1 := bI_eq rfl L_0 hh0
  refine lv_iload_n hx hb dX8_conclude_0 rfl (lv_at hl 1 rfl) ?_
  refine lv_iconst (v := 2) hx hb dX8_conclude_1 (by decide) ?_
  refine lv_icmp_ne (tgt := 12) hx hb dX8_conclude_2 (by decide) (fun c_1 => ?_) (fun c_1 => ?_)
  · have kc_1 := bI_ne rfl L_2 c_1
    refine lv_iload_n hx hb dX8_conclude_12 rfl (lv_at hl 1 rfl) ?_
    refine lv_iconst (v := 1) hx hb dX8_conclude_13 (by decide) ?_
    refine lv_icmp_ne (tgt := 29) hx hb dX8_conclude_14 (by decide) (fun c_2 => ?_) (fun c_2 => ?_)
    · have kc_2 := bI_ne rfl L_1 c_2
      refine lv_aload_n hx hb dX8_conclude_29 rfl (lv_at hl 0 rfl) ?_
      refine cg_0_3 hx hb hts hinX8 hown hK hP (hts (.fieldLink RX8 33 "CensusDesk" "book" "LCensusDesk$Book;") (List.mem_of_getElem? (i := 3) rfl)) dX8_conclude_30 ?_
      refine lv_aload_n hx hb dX8_conclude_33 rfl (lv_at hl 0 rfl) ?_
      refine cg_0_4 hx hb hts hinX8 hown hK hP (hts (.fieldLink RX8 42 "CensusDesk" "reader" "LCensusDesk$Reader;") (List.mem_of_getElem? (i := 4) rfl)) dX8_conclude_34 ?_
      refine cgN_5_9 (v := (σ 16)) hx hb hts hinX4 hown hK hP (va_Nw.use rfl (hN.1 ("CensusDesk", 90, "CensusDesk$Reader", "taken", "I") (List.mem_of_getElem? (i := 29) rfl))) rfl dX8_conclude_37 ?_
      refine lv_aload_n hx hb dX8_conclude_40 rfl (lv_at hl 0 rfl) ?_
      refine cg_0_4 hx hb hts hinX8 hown hK hP (hts (.fieldLink RX8 42 "CensusDesk" "reader" "LCensusDesk$Reader;") (List.mem_of_getElem? (i := 4) rfl)) dX8_conclude_41 ?_
      refine cgN_5_11 (v := (σ 17)) hx hb hts hinX4 hown hK hP (va_Nw.use rfl (hN.1 ("CensusDesk", 116, "CensusDesk$Reader", "personsTaken", "I") (List.mem_of_getElem? (i := 31) rfl))) rfl dX8_conclude_44 ?_
      refine lv_aload_n hx hb dX8_conclude_47 rfl (lv_at hl 0 rfl) ?_
      refine cg_0_6 (v := (σ 20)) hx hb hts hinX8 hown hK hP (hts (.fieldLink RX8 70 "CensusDesk" "received" "I") (List.mem_of_getElem? (i := 5) rfl)) rfl dX8_conclude_48 ?_
      refine lv_iconst (v := 1) hx hb dX8_conclude_51 (by decide) ?_
      refine lv_isub hx hb dX8_conclude_52 ?_
      refine lv_topi (fun z_3 ez_3 => ?_)
      refine c_calli (va_runV (As := [.int (σ 16), .int (σ 17), .int z_3]) (rest := []) ⟨hx, hb, hml, hown, hts⟩ (c_X0_enter l dC dI a κ σ φ γ ψ g1 g2 (σ 16) (σ 17) z_3 (show 0 ≤ (Int32.toInt (σ 11)) ∧ (Int32.toInt (σ 11)) ≤ 60 ∧ 0 ≤ (Int32.toInt (σ 12)) ∧ (Int32.toInt (σ 12)) ≤ 300 from (by omega)) (show BS (σ 11) (σ 12) (σ 13) (σ 14) (σ 15) (φ 5) (φ 6) (φ 7) from (by with_reducible assumption)) (show BP (σ 11) (σ 12) (σ 16) (σ 17) (φ 5) from (by with_reducible assumption)) (show 0 ≤ (Int32.toInt (σ 16)) ∧ (Int32.toInt (σ 16)) ≤ 4000 ∧ 0 ≤ (Int32.toInt (σ 17)) ∧ (Int32.toInt (σ 17)) ≤ 8000000 from (by omega))) (cwV 3 hts gX8_conclude_X0_enter rfl rfl rfl ⟨rfl, hd_X0_enter⟩ ⟨Nat.le_of_ble_eq_true rfl, Nat.le_of_ble_eq_true rfl⟩) (cPreV hP hK hI hN hX hS (va_recv hK hP (ci := 0) (q0 := 4) rfl rfl)) rfl rfl hl.1 rfl (lv_room (Nat.le_of_ble_eq_true rfl)) dX8_conclude_53 ⟨(by decide +kernel), (by decide +kernel)⟩) hS ?_
      clear hP hS; intro r_4 S_4 F_4 γ_4 ψ_4 H locs hw hP hS
      obtain ⟨s11_4, s12_4, s13_4, s14_4, s15_4, rfl, rfl, (qk_4 : 0 ≤ (Int32.toInt s11_4) ∧ (Int32.toInt s11_4) ≤ 60 ∧ 0 ≤ (Int32.toInt s12_4) ∧ (Int32.toInt s12_4) ≤ 300), (qb_4 : BS s11_4 s12_4 s13_4 s14_4 s15_4 (φ 5) (φ 6) (φ 7))⟩ := hw
      refine lv_if_ne (tgt := 71) hx hb dX8_conclude_56 (by decide) (fun c_5 => ?_) (fun c_5 => ?_)
      · have kc_5 := bI_ne rfl L_0 c_5
        refine lv_aload_n hx hb dX8_conclude_71 rfl (lv_at hl 0 rfl) ?_
        refine lv_dup hx hb dX8_conclude_72 rfl ?_
        refine cg_0_7 (v := (σ 21)) hx hb hts hinX8 hown hK hP (hts (.fieldLink RX8 140 "CensusDesk" "booked" "I") (List.mem_of_getElem? (i := 7) rfl)) rfl dX8_conclude_73 ?_
        refine lv_iconst (v := 1) hx hb dX8_conclude_76 (by decide) ?_
        refine lv_iadd hx hb dX8_conclude_77 ?_
        refine lv_topi (fun z_6 ez_6 => ?_)
        refine cp_0_7 (v := z_6) hx hb hts hinX8 hown hK hP hI hS (hts (.fieldLink RX8 140 "CensusDesk" "booked" "I") (List.mem_of_getElem? (i := 7) rfl)) dX8_conclude_78 ?_
        clear hP hS; intro H locs hP hS
        refine lv_iconst (v := 0) hx hb dX8_conclude_81 (by decide) ?_
        exact W.iret (v := 0) hx hb hr (fun t ht hW => ⟨⟨0, ((up (up (up (up (up (up (up (up (up σ 19 (σ 19)) 21 z_6) 22 (σ 22)) 23 (σ 23)) 11 s11_4) 12 s12_4) 13 s13_4) 14 s14_4) 15 s15_4), φ, γ_4, ψ_4), rfl, ⟨(σ 19), z_6, (σ 22), (σ 23), s11_4, s12_4, s13_4, s14_4, s15_4, rfl, rfl, (show 0 ≤ (Int32.toInt s11_4) ∧ (Int32.toInt s11_4) ≤ 60 ∧ 0 ≤ (Int32.toInt s12_4) ∧ (Int32.toInt s12_4) ≤ 300 from (by omega)), (show BS s11_4 s12_4 s13_4 s14_4 s15_4 (φ 5) (φ 6) (φ 7) from (by with_reducible assumption)), (AC.b hh0 hpa ez_6), (show (Int32.toInt (σ 19)) = 0 ∨ (0 ≤ (Int32.toInt (σ 18)) ∧ (Int32.toInt (σ 18)) ≤ (Int32.toInt (σ 0)) ∧ 0 ≤ (Int32.toInt (σ 1)) ∧ (Int32.toInt (σ 1)) ≤ 50000 * (Int32.toInt (σ 18)) ∧ ((Int32.toInt (σ 8)) = 0 ∨ ((Int32.toInt (σ 1)) + 10 ≤ 50000 * (Int32.toInt (σ 18)) ∧ (Int32.toInt (σ 16)) + 1 ≤ (Int32.toInt (σ 18)))) ∧ 0 ≤ (Int32.toInt (σ 16)) ∧ (Int32.toInt (σ 16)) ≤ (Int32.toInt (σ 18)) ∧ 0 ≤ (Int32.toInt (σ 17)) ∧ (Int32.toInt (σ 17)) ≤ 2000 * (Int32.toInt (σ 16))) from (by omega)), (fun h => absurd hh0 h)⟩, (by show va_P _ _ _ _; rw [ht]; exact hP)⟩, hS.F ht⟩) hS.2.2 dX8_conclude_82
      · have kc_5 := bI_eq rfl L_0 c_5
        refine lv_aload_n hx hb dX8_conclude_59 rfl (lv_at hl 0 rfl) ?_
        refine lv_dup hx hb dX8_conclude_60 rfl ?_
        refine cg_0_9 (v := (σ 23)) hx hb hts hinX8 hown hK hP (hts (.fieldLink RX8 143 "CensusDesk" "withoutRoom" "I") (List.mem_of_getElem? (i := 6) rfl)) rfl dX8_conclude_61 ?_
        refine lv_iconst (v := 1) hx hb dX8_conclude_64 (by decide) ?_
        refine lv_iadd hx hb dX8_conclude_65 ?_
        refine lv_topi (fun z_7 ez_7 => ?_)
        refine cp_0_9 (v := z_7) hx hb hts hinX8 hown hK hP hI hS (hts (.fieldLink RX8 143 "CensusDesk" "withoutRoom" "I") (List.mem_of_getElem? (i := 6) rfl)) dX8_conclude_66 ?_
        clear hP hS; intro H locs hP hS
        refine lv_iconst (v := 3) hx hb dX8_conclude_69 (by decide) ?_
        exact W.iret (v := 3) hx hb hr (fun t ht hW => ⟨⟨3, ((up (up (up (up (up (up (up (up (up σ 19 (σ 19)) 21 (σ 21)) 22 (σ 22)) 23 z_7) 11 s11_4) 12 s12_4) 13 s13_4) 14 s14_4) 15 s15_4), φ, γ_4, ψ_4), rfl, ⟨(σ 19), (σ 21), (σ 22), z_7, s11_4, s12_4, s13_4, s14_4, s15_4, rfl, rfl, (show 0 ≤ (Int32.toInt s11_4) ∧ (Int32.toInt s11_4) ≤ 60 ∧ 0 ≤ (Int32.toInt s12_4) ∧ (Int32.toInt s12_4) ≤ 300 from (by omega)), (show BS s11_4 s12_4 s13_4 s14_4 s15_4 (φ 5) (φ 6) (φ 7) from (by with_reducible assumption)), (AC.w hh0 hpa ez_7), (show (Int32.toInt (σ 19)) = 0 ∨ (0 ≤ (Int32.toInt (σ 18)) ∧ (Int32.toInt (σ 18)) ≤ (Int32.toInt (σ 0)) ∧ 0 ≤ (Int32.toInt (σ 1)) ∧ (Int32.toInt (σ 1)) ≤ 50000 * (Int32.toInt (σ 18)) ∧ ((Int32.toInt (σ 8)) = 0 ∨ ((Int32.toInt (σ 1)) + 10 ≤ 50000 * (Int32.toInt (σ 18)) ∧ (Int32.toInt (σ 16)) + 1 ≤ (Int32.toInt (σ 18)))) ∧ 0 ≤ (Int32.toInt (σ 16)) ∧ (Int32.toInt (σ 16)) ≤ (Int32.toInt (σ 18)) ∧ 0 ≤ (Int32.toInt (σ 17)) ∧ (Int32.toInt (σ 17)) ≤ 2000 * (Int32.toInt (σ 16))) from (by omega)), (fun h => absurd hh0 h)⟩, (by show va_P _ _ _ _; rw [ht]; exact hP)⟩, hS.F ht⟩) hS.2.2 dX8_conclude_70
    · have kc_2 := bI_eq rfl L_1 c_2
      refine lv_aload_n hx hb dX8_conclude_17 rfl (lv_at hl 0 rfl) ?_
      refine lv_dup hx hb dX8_conclude_18 rfl ?_
      refine cg_0_8 (v := (σ 22)) hx hb hts hinX8 hown hK hP (hts (.fieldLink RX8 87 "CensusDesk" "refused" "I") (List.mem_of_getElem? (i := 2) rfl)) rfl dX8_conclude_19 ?_
      refine lv_iconst (v := 1) hx hb dX8_conclude_22 (by decide) ?_
      refine lv_iadd hx hb dX8_conclude_23 ?_
      refine lv_topi (fun z_8 ez_8 => ?_)
      refine cp_0_8 (v := z_8) hx hb hts hinX8 hown hK hP hI hS (hts (.fieldLink RX8 87 "CensusDesk" "refused" "I") (List.mem_of_getElem? (i := 2) rfl)) dX8_conclude_24 ?_
      clear hP hS; intro H locs hP hS
      refine lv_iconst (v := 1) hx hb dX8_conclude_27 (by decide) ?_
      exact W.iret (v := 1) hx hb hr (fun t ht hW => ⟨⟨1, ((up (up (up (up (up (up (up (up (up σ 19 (σ 19)) 21 (σ 21)) 22 z_8) 23 (σ 23)) 11 (σ 11)) 12 (σ 12)) 13 (σ 13)) 14 (σ 14)) 15 (σ 15)), φ, γ, ψ), rfl, ⟨(σ 19), (σ 21), z_8, (σ 23), (σ 11), (σ 12), (σ 13), (σ 14), (σ 15), rfl, rfl, (show 0 ≤ (Int32.toInt (σ 11)) ∧ (Int32.toInt (σ 11)) ≤ 60 ∧ 0 ≤ (Int32.toInt (σ 12)) ∧ (Int32.toInt (σ 12)) ≤ 300 from (by omega)), (show BS (σ 11) (σ 12) (σ 13) (σ 14) (σ 15) (φ 5) (φ 6) (φ 7) from (by with_reducible assumption)), (AC.r hh0 hpa ez_8), (show (Int32.toInt (σ 19)) = 0 ∨ (0 ≤ (Int32.toInt (σ 18)) ∧ (Int32.toInt (σ 18)) ≤ (Int32.toInt (σ 0)) ∧ 0 ≤ (Int32.toInt (σ 1)) ∧ (Int32.toInt (σ 1)) ≤ 50000 * (Int32.toInt (σ 18)) ∧ ((Int32.toInt (σ 8)) = 0 ∨ ((Int32.toInt (σ 1)) + 10 ≤ 50000 * (Int32.toInt (σ 18)) ∧ (Int32.toInt (σ 16)) + 1 ≤ (Int32.toInt (σ 18)))) ∧ 0 ≤ (Int32.toInt (σ 16)) ∧ (Int32.toInt (σ 16)) ≤ (Int32.toInt (σ 18)) ∧ 0 ≤ (Int32.toInt (σ 17)) ∧ (Int32.toInt (σ 17)) ≤ 2000 * (Int32.toInt (σ 16))) from (by omega)), (fun h => absurd hh0 h)⟩, (by show va_P _ _ _ _; rw [ht]; exact hP)⟩, hS.F ht⟩) hS.2.2 dX8_conclude_28
  · have kc_1 := bI_eq rfl L_2 c_1
    refine lv_aload_n hx hb dX8_conclude_5 rfl (lv_at hl 0 rfl) ?_
    refine lv_iconst (v := 1) hx hb dX8_conclude_6 (by decide) ?_
    refine cp_0_5 (v := 1) hx hb hts hinX8 hown hK hP hI hS (hts (.fieldLink RX8 50 "CensusDesk" "held" "Z") (List.mem_of_getElem? (i := 1) rfl)) (by first | rfl | decide) (by first | rfl | decide) dX8_conclude_7 ?_
    clear hP hS; intro H locs hP hS
    refine lv_iconst (v := 2) hx hb dX8_conclude_10 (by decide) ?_
    exact W.iret (v := 2) hx hb hr (fun t ht hW => ⟨⟨2, ((up (up (up (up (up (up (up (up (up σ 19 1) 21 (σ 21)) 22 (σ 22)) 23 (σ 23)) 11 (σ 11)) 12 (σ 12)) 13 (σ 13)) 14 (σ 14)) 15 (σ 15)), φ, γ, ψ), rfl, ⟨1, (σ 21), (σ 22), (σ 23), (σ 11), (σ 12), (σ 13), (σ 14), (σ 15), rfl, rfl, (show 0 ≤ (Int32.toInt (σ 11)) ∧ (Int32.toInt (σ 11)) ≤ 60 ∧ 0 ≤ (Int32.toInt (σ 12)) ∧ (Int32.toInt (σ 12)) ≤ 300 from (by omega)), (show BS (σ 11) (σ 12) (σ 13) (σ 14) (σ 15) (φ 5) (φ 6) (φ 7) from (by with_reducible assumption)), (AC.mk1 hpa), (show (Int32.toInt 1) = 0 ∨ (0 ≤ (Int32.toInt (σ 18)) ∧ (Int32.toInt (σ 18)) ≤ (Int32.toInt (σ 0)) ∧ 0 ≤ (Int32.toInt (σ 1)) ∧ (Int32.toInt (σ 1)) ≤ 50000 * (Int32.toInt (σ 18)) ∧ ((Int32.toInt (σ 8)) = 0 ∨ ((Int32.toInt (σ 1)) + 10 ≤ 50000 * (Int32.toInt (σ 18)) ∧ (Int32.toInt (σ 16)) + 1 ≤ (Int32.toInt (σ 18)))) ∧ 0 ≤ (Int32.toInt (σ 16)) ∧ (Int32.toInt (σ 16)) ≤ (Int32.toInt (σ 18)) ∧ 0 ≤ (Int32.toInt (σ 17)) ∧ (Int32.toInt (σ 17)) ≤ 2000 * (Int32.toInt (σ 16))) from (by have := L_1; omega)), (fun _ => hbp)⟩, (by show va_P _ _ _ _; rw [ht]; exact hP)⟩, hS.F ht⟩) hS.2.2 dX8_conclude_11
