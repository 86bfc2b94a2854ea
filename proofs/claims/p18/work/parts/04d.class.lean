set_option maxHeartbeats 4000000 in
set_option maxRecDepth 100000 in
theorem c_X6_digits (l : Launch) (dC : Nat → ClassId) (dI : Nat → Nat → Nat) (a : Nat → Nat) (κ : Nat → ClassId) (σ : Nat → Int32) (φ : Nat → Nat → Int32) (γ : Nat → Int32) (ψ : Nat → Nat → Int32) (g1 g2 : Nat)  : Met l yX6_digits wsX6_digits ({ frames := 1, cells := 0, slots := 0, locals := 21 } : Room) (va_Pc [.ref (a 7)] (cPre dC dI a κ (σ, φ, γ, ψ) g1 g2)) (va_Qi (QI (fun r S F => σ = S ∧ φ = F ∧ True)) (cB dC dI a κ) (cA a)) 0 0 (cA a) := by
  refine Met.ofW (cc := cX6_digits) (maxL := 3) (ret := (some .int)) (by decide) rfl ?_
  intro p e s m args below meth c s₁ B hml hv
  obtain ⟨rfl, hP, hK, hI, hN, hX⟩ := hv
  have hx := B.exec
  have hb := B.bytes
  have hr := B.returns
  have hts := atoms_spec (ws := wsX6_digits) B.pre
  have hown : s.vm.findClass RX6 = some m.cls := findClass_of_methodNamed B.named
  have hlocks := B.notSynchronized
  have hS : va_S (cA a) s.heap s.heap [] := va_S.rf
  have hinX6 : ∀ w ∈ wsX60, w ∈ wsX6_digits := fun _ h => List.mem_cons_of_mem _ (List.mem_append_right _ h)
  have hl := lv_entry ([.ref (a 7)]) (n := 3) (Nat.le_of_ble_eq_true rfl)
  rw [lg_entry_eq]
  generalize (lg_sl ([.ref (a 7)]) ++ List.replicate (3 - (lg_sl ([.ref (a 7)])).length) Slot.unset).toArray = ls at hl ⊢
  have hl : lv_has ls 3 [(0, .ref (a 7))] := hl
  refine k_gen (fun QQ eQ => ?_)
  have J4 : ∀ (n4 : Nat), ∀ (found : Int32) (k : Int32) (γ : Nat → Int32) (ψ : Nat → Nat → Int32) (H : Heap) (locs : List Loc) (ls : Array Slot), (0 ≤ (Int32.toInt k)) → (((Int32.toInt (σ 7)) - (Int32.toInt k)).toNat < n4) → va_P (dC, dI) vwCl (cw a κ (σ, φ, γ, ψ)) H → va_S (cA a) s.heap H locs → lv_has ls 3 [(0, .ref (a 7)), (1, .int found), (2, .int k)] → W p l e ({ frames := 1, cells := 0, slots := 0, locals := 21 } : Room) s m ([.ref (a 7)] : List Value).toArray below meth c H locs 0 0 QQ (F0 m 4 ls []) := by
    intro n4
    induction n4 with
    | zero =>
      intro found k γ ψ H locs ls v0 hm
      exact absurd hm (Nat.not_lt_zero _)
    | succ n4 ih4 =>
      intro found k γ ψ H locs ls v0 hm hP hS hl
      refine lv_iload_n hx hb dX6_digits_4 rfl (lv_at hl 2 rfl) ?_
      refine lv_aload_n hx hb dX6_digits_5 rfl (lv_at hl 0 rfl) ?_
      refine cg_7_2 (v := (σ 7)) hx hb hts hinX6 hown hK hP (hts (.fieldLink RX6 18 "CensusDesk$Signs" "count" "I") (List.mem_of_getElem? (i := 1) rfl)) rfl dX6_digits_6 ?_
      refine lv_icmp_ge (tgt := 49) hx hb dX6_digits_9 (by decide) (fun c_1 => ?_) (fun c_1 => ?_)
      · have kc_1 := bI_le rfl rfl c_1
        refine lv_iload_n hx hb dX6_digits_49 rfl (lv_at hl 1 rfl) ?_
        subst eQ
        exact W.iret (v := found) hx hb hr (fun t ht hW => ⟨⟨found, (σ, φ, γ, ψ), rfl, ⟨rfl, rfl, trivial⟩, (by show va_P _ _ _ _; rw [ht]; exact hP)⟩, hS.F ht⟩) hS.2.2 dX6_digits_50
      · have kc_1 := bI_nle rfl rfl c_1
        refine lv_iload_n hx hb dX6_digits_12 rfl (lv_at hl 2 rfl) ?_
        refine lv_bipush (v := 6) hx hb dX6_digits_13 (by decide) ?_
        refine lv_icmp_ge (tgt := 49) hx hb dX6_digits_15 (by decide) (fun c_2 => ?_) (fun c_2 => ?_)
        · have kc_2 := bI_le L_6 rfl c_2
          refine lv_iload_n hx hb dX6_digits_49 rfl (lv_at hl 1 rfl) ?_
          subst eQ
          exact W.iret (v := found) hx hb hr (fun t ht hW => ⟨⟨found, (σ, φ, γ, ψ), rfl, ⟨rfl, rfl, trivial⟩, (by show va_P _ _ _ _; rw [ht]; exact hP)⟩, hS.F ht⟩) hS.2.2 dX6_digits_50
        · have kc_2 := bI_nle L_6 rfl c_2
          refine lv_aload_n hx hb dX6_digits_18 rfl (lv_at hl 0 rfl) ?_
          refine lv_iload_n hx hb dX6_digits_19 rfl (lv_at hl 2 rfl) ?_
          refine c_calli (va_runV (As := [.int k]) (rest := []) ⟨hx, hb, hml, hown, hts⟩ (c_X6_at l dC dI a κ σ φ γ ψ g1 g2 k ) (cwV 1 hts gX6_digits_X6_at rfl rfl rfl ⟨rfl, hd_X6_at⟩ ⟨Nat.le_of_ble_eq_true rfl, Nat.le_of_ble_eq_true rfl⟩) (cPreV hP hK hI hN hX hS (va_recv hK hP (ci := 6) (q0 := 7) rfl rfl)) rfl rfl hl.1 rfl (lv_room (Nat.le_of_ble_eq_true rfl)) dX6_digits_20 ⟨(by decide +kernel), (by decide +kernel)⟩) hS ?_
          clear hP hS; intro r_3 S_3 F_3 γ_3 ψ_3 H locs hw hP hS
          obtain ⟨rfl, rfl, -⟩ := hw
          refine lv_bipush (v := 48) hx hb dX6_digits_23 (by decide) ?_
          refine lv_icmp_lt (tgt := 38) hx hb dX6_digits_25 (by decide) (fun c_4 => ?_) (fun c_4 => ?_)
          · have kc_4 := bI_lt rfl L_48 c_4
            refine lv_iload_n hx hb dX6_digits_38 rfl (lv_at hl 1 rfl) ?_
            subst eQ
            exact W.iret (v := found) hx hb hr (fun t ht hW => ⟨⟨found, (σ, φ, γ_3, ψ_3), rfl, ⟨rfl, rfl, trivial⟩, (by show va_P _ _ _ _; rw [ht]; exact hP)⟩, hS.F ht⟩) hS.2.2 dX6_digits_39
          · have kc_4 := bI_nlt rfl L_48 c_4
            refine lv_aload_n hx hb dX6_digits_28 rfl (lv_at hl 0 rfl) ?_
            refine lv_iload_n hx hb dX6_digits_29 rfl (lv_at hl 2 rfl) ?_
            refine c_calli (va_runV (As := [.int k]) (rest := []) ⟨hx, hb, hml, hown, hts⟩ (c_X6_at l dC dI a κ σ φ γ_3 ψ_3 g1 g2 k ) (cwV 1 hts gX6_digits_X6_at rfl rfl rfl ⟨rfl, hd_X6_at⟩ ⟨Nat.le_of_ble_eq_true rfl, Nat.le_of_ble_eq_true rfl⟩) (cPreV hP hK hI hN hX hS (va_recv hK hP (ci := 6) (q0 := 7) rfl rfl)) rfl rfl hl.1 rfl (lv_room (Nat.le_of_ble_eq_true rfl)) dX6_digits_30 ⟨(by decide +kernel), (by decide +kernel)⟩) hS ?_
            clear hP hS; intro r_5 S_5 F_5 γ_5 ψ_5 H locs hw hP hS
            obtain ⟨rfl, rfl, -⟩ := hw
            refine lv_bipush (v := 57) hx hb dX6_digits_33 (by decide) ?_
            refine lv_icmp_le (tgt := 40) hx hb dX6_digits_35 (by decide) (fun c_6 => ?_) (fun c_6 => ?_)
            · have kc_6 := bI_le rfl L_57 c_6
              obtain ⟨i_7, ei_7⟩ : ∃ z : Int32, z = found + 1 := ⟨_, rfl⟩
              refine lv_iinc (v := i_7) (lv' := [(1, .int i_7), (0, .ref (a 7)), (2, .int k)]) hx hb dX6_digits_40 hl (k := 1) rfl (by rw [ei_7]; rfl) (by decide) rfl ?_
              clear hl; intro ls hl
              obtain ⟨i_8, ei_8⟩ : ∃ z : Int32, z = k + 1 := ⟨_, rfl⟩
              refine lv_iinc (v := i_8) (lv' := [(2, .int i_8), (1, .int i_7), (0, .ref (a 7))]) hx hb dX6_digits_43 hl (k := 2) rfl (by rw [ei_8]; rfl) (by decide) rfl ?_
              clear hl; intro ls hl
              have ti_8 : (Int32.toInt i_8) = (Int32.toInt k) + 1 := aI_add rfl L_1 ei_8 (by have := rng k; have := rng (σ 7); omega)
              refine lv_goto (tgt := 4) hx hb dX6_digits_46 (by decide) ?_
              exact ih4 i_7 i_8 γ_5 ψ_5 _ _ _ (show 0 ≤ (Int32.toInt i_8) from (by omega)) (by omega) hP hS (lv_sub hl [2, 1, 0] rfl)
            · have kc_6 := bI_nle rfl L_57 c_6
              refine lv_iload_n hx hb dX6_digits_38 rfl (lv_at hl 1 rfl) ?_
              subst eQ
              exact W.iret (v := found) hx hb hr (fun t ht hW => ⟨⟨found, (σ, φ, γ_5, ψ_5), rfl, ⟨rfl, rfl, trivial⟩, (by show va_P _ _ _ _; rw [ht]; exact hP)⟩, hS.F ht⟩) hS.2.2 dX6_digits_39
  refine lv_iconst (v := 0) hx hb dX6_digits_0 (by decide) ?_
  refine lv_istore_n (lv' := [(1, .int 0), (0, .ref (a 7))]) hx hb dX6_digits_1 rfl hl (by decide) rfl ?_
  clear hl; intro ls hl
  refine lv_iconst (v := 0) hx hb dX6_digits_2 (by decide) ?_
  refine lv_istore_n (lv' := [(2, .int 0), (1, .int 0), (0, .ref (a 7))]) hx hb dX6_digits_3 rfl hl (by decide) rfl ?_
  clear hl; intro ls hl
  exact J4 (_ + 1) 0 0 γ ψ _ _ _ (show 0 ≤ (Int32.toInt 0) from (by have := L_0; omega)) (Nat.lt_succ_self _) hP hS (lv_sub hl [2, 1, 0] rfl)
set_option maxHeartbeats 4000000 in
set_option maxRecDepth 100000 in
theorem c_X6_number (l : Launch) (dC : Nat → ClassId) (dI : Nat → Nat → Nat) (a : Nat → Nat) (κ : Nat → ClassId) (σ : Nat → Int32) (φ : Nat → Nat → Int32) (γ : Nat → Int32) (ψ : Nat → Nat → Int32) (g1 g2 : Nat)  : Met l yX6_number wsX6_number ({ frames := 1, cells := 0, slots := 0, locals := 21 } : Room) (va_Pc [.ref (a 7)] (cPre dC dI a κ (σ, φ, γ, ψ) g1 g2)) (va_Qi (QI (fun r S F => σ = S ∧ φ = F ∧ True)) (cB dC dI a κ) (cA a)) 0 0 (cA a) := by
  refine Met.ofW (cc := cX6_number) (maxL := 3) (ret := (some .int)) (by decide) rfl ?_
  intro p e s m args below meth c s₁ B hml hv
  obtain ⟨rfl, hP, hK, hI, hN, hX⟩ := hv
  have hx := B.exec
  have hb := B.bytes
  have hr := B.returns
  have hts := atoms_spec (ws := wsX6_number) B.pre
  have hown : s.vm.findClass RX6 = some m.cls := findClass_of_methodNamed B.named
  have hlocks := B.notSynchronized
  have hS : va_S (cA a) s.heap s.heap [] := va_S.rf
  have hinX6 : ∀ w ∈ wsX60, w ∈ wsX6_number := fun _ h => List.mem_cons_of_mem _ (List.mem_append_right _ h)
  have hl := lv_entry ([.ref (a 7)]) (n := 3) (Nat.le_of_ble_eq_true rfl)
  rw [lg_entry_eq]
  generalize (lg_sl ([.ref (a 7)]) ++ List.replicate (3 - (lg_sl ([.ref (a 7)])).length) Slot.unset).toArray = ls at hl ⊢
  have hl : lv_has ls 3 [(0, .ref (a 7))] := hl
  refine k_gen (fun QQ eQ => ?_)
  have J4 : ∀ (n4 : Nat), ∀ (made : Int32) (k : Int32) (γ : Nat → Int32) (ψ : Nat → Nat → Int32) (H : Heap) (locs : List Loc) (ls : Array Slot), (0 ≤ (Int32.toInt k)) → (((Int32.toInt (σ 7)) - (Int32.toInt k)).toNat < n4) → va_P (dC, dI) vwCl (cw a κ (σ, φ, γ, ψ)) H → va_S (cA a) s.heap H locs → lv_has ls 3 [(0, .ref (a 7)), (1, .int made), (2, .int k)] → W p l e ({ frames := 1, cells := 0, slots := 0, locals := 21 } : Room) s m ([.ref (a 7)] : List Value).toArray below meth c H locs 0 0 QQ (F0 m 4 ls []) := by
    intro n4
    induction n4 with
    | zero =>
      intro made k γ ψ H locs ls v0 hm
      exact absurd hm (Nat.not_lt_zero _)
    | succ n4 ih4 =>
      intro made k γ ψ H locs ls v0 hm hP hS hl
      refine lv_iload_n hx hb dX6_number_4 rfl (lv_at hl 2 rfl) ?_
      refine lv_aload_n hx hb dX6_number_5 rfl (lv_at hl 0 rfl) ?_
      refine cg_7_2 (v := (σ 7)) hx hb hts hinX6 hown hK hP (hts (.fieldLink RX6 18 "CensusDesk$Signs" "count" "I") (List.mem_of_getElem? (i := 1) rfl)) rfl dX6_number_6 ?_
      refine lv_icmp_ge (tgt := 60) hx hb dX6_number_9 (by decide) (fun c_1 => ?_) (fun c_1 => ?_)
      · have kc_1 := bI_le rfl rfl c_1
        refine lv_iload_n hx hb dX6_number_60 rfl (lv_at hl 1 rfl) ?_
        subst eQ
        exact W.iret (v := made) hx hb hr (fun t ht hW => ⟨⟨made, (σ, φ, γ, ψ), rfl, ⟨rfl, rfl, trivial⟩, (by show va_P _ _ _ _; rw [ht]; exact hP)⟩, hS.F ht⟩) hS.2.2 dX6_number_61
      · have kc_1 := bI_nle rfl rfl c_1
        refine lv_iload_n hx hb dX6_number_12 rfl (lv_at hl 2 rfl) ?_
        refine lv_bipush (v := 6) hx hb dX6_number_13 (by decide) ?_
        refine lv_icmp_ge (tgt := 60) hx hb dX6_number_15 (by decide) (fun c_2 => ?_) (fun c_2 => ?_)
        · have kc_2 := bI_le L_6 rfl c_2
          refine lv_iload_n hx hb dX6_number_60 rfl (lv_at hl 1 rfl) ?_
          subst eQ
          exact W.iret (v := made) hx hb hr (fun t ht hW => ⟨⟨made, (σ, φ, γ, ψ), rfl, ⟨rfl, rfl, trivial⟩, (by show va_P _ _ _ _; rw [ht]; exact hP)⟩, hS.F ht⟩) hS.2.2 dX6_number_61
        · have kc_2 := bI_nle L_6 rfl c_2
          refine lv_aload_n hx hb dX6_number_18 rfl (lv_at hl 0 rfl) ?_
          refine lv_iload_n hx hb dX6_number_19 rfl (lv_at hl 2 rfl) ?_
          refine c_calli (va_runV (As := [.int k]) (rest := []) ⟨hx, hb, hml, hown, hts⟩ (c_X6_at l dC dI a κ σ φ γ ψ g1 g2 k ) (cwV 1 hts gX6_number_X6_at rfl rfl rfl ⟨rfl, hd_X6_at⟩ ⟨Nat.le_of_ble_eq_true rfl, Nat.le_of_ble_eq_true rfl⟩) (cPreV hP hK hI hN hX hS (va_recv hK hP (ci := 6) (q0 := 7) rfl rfl)) rfl rfl hl.1 rfl (lv_room (Nat.le_of_ble_eq_true rfl)) dX6_number_20 ⟨(by decide +kernel), (by decide +kernel)⟩) hS ?_
          clear hP hS; intro r_3 S_3 F_3 γ_3 ψ_3 H locs hw hP hS
          obtain ⟨rfl, rfl, -⟩ := hw
          refine lv_bipush (v := 48) hx hb dX6_number_23 (by decide) ?_
          refine lv_icmp_lt (tgt := 38) hx hb dX6_number_25 (by decide) (fun c_4 => ?_) (fun c_4 => ?_)
          · have kc_4 := bI_lt rfl L_48 c_4
            refine lv_iload_n hx hb dX6_number_38 rfl (lv_at hl 1 rfl) ?_
            subst eQ
            exact W.iret (v := made) hx hb hr (fun t ht hW => ⟨⟨made, (σ, φ, γ_3, ψ_3), rfl, ⟨rfl, rfl, trivial⟩, (by show va_P _ _ _ _; rw [ht]; exact hP)⟩, hS.F ht⟩) hS.2.2 dX6_number_39
          · have kc_4 := bI_nlt rfl L_48 c_4
            refine lv_aload_n hx hb dX6_number_28 rfl (lv_at hl 0 rfl) ?_
            refine lv_iload_n hx hb dX6_number_29 rfl (lv_at hl 2 rfl) ?_
            refine c_calli (va_runV (As := [.int k]) (rest := []) ⟨hx, hb, hml, hown, hts⟩ (c_X6_at l dC dI a κ σ φ γ_3 ψ_3 g1 g2 k ) (cwV 1 hts gX6_number_X6_at rfl rfl rfl ⟨rfl, hd_X6_at⟩ ⟨Nat.le_of_ble_eq_true rfl, Nat.le_of_ble_eq_true rfl⟩) (cPreV hP hK hI hN hX hS (va_recv hK hP (ci := 6) (q0 := 7) rfl rfl)) rfl rfl hl.1 rfl (lv_room (Nat.le_of_ble_eq_true rfl)) dX6_number_30 ⟨(by decide +kernel), (by decide +kernel)⟩) hS ?_
            clear hP hS; intro r_5 S_5 F_5 γ_5 ψ_5 H locs hw hP hS
            obtain ⟨rfl, rfl, -⟩ := hw
            refine lv_bipush (v := 57) hx hb dX6_number_33 (by decide) ?_
            refine lv_icmp_le (tgt := 40) hx hb dX6_number_35 (by decide) (fun c_6 => ?_) (fun c_6 => ?_)
            · have kc_6 := bI_le rfl L_57 c_6
              refine lv_iload_n hx hb dX6_number_40 rfl (lv_at hl 1 rfl) ?_
              refine lv_bipush (v := 10) hx hb dX6_number_41 (by decide) ?_
              refine lv_imul hx hb dX6_number_43 ?_
              refine lv_topi (fun z_7 ez_7 => ?_)
              refine lv_aload_n hx hb dX6_number_44 rfl (lv_at hl 0 rfl) ?_
              refine lv_iload_n hx hb dX6_number_45 rfl (lv_at hl 2 rfl) ?_
              refine c_calli (va_runV (As := [.int k]) (rest := [.int z_7]) ⟨hx, hb, hml, hown, hts⟩ (c_X6_at l dC dI a κ σ φ γ_5 ψ_5 g1 g2 k ) (cwV 1 hts gX6_number_X6_at rfl rfl rfl ⟨rfl, hd_X6_at⟩ ⟨Nat.le_of_ble_eq_true rfl, Nat.le_of_ble_eq_true rfl⟩) (cPreV hP hK hI hN hX hS (va_recv hK hP (ci := 6) (q0 := 7) rfl rfl)) rfl rfl hl.1 rfl (lv_room (Nat.le_of_ble_eq_true rfl)) dX6_number_46 ⟨(by decide +kernel), (by decide +kernel)⟩) hS ?_
              clear hP hS; intro r_8 S_8 F_8 γ_8 ψ_8 H locs hw hP hS
              obtain ⟨rfl, rfl, -⟩ := hw
              refine lv_bipush (v := 48) hx hb dX6_number_49 (by decide) ?_
              refine lv_isub hx hb dX6_number_51 ?_
              refine lv_topi (fun z_9 ez_9 => ?_)
              refine lv_iadd hx hb dX6_number_52 ?_
              refine lv_topi (fun z_10 ez_10 => ?_)
              refine lv_istore_n (lv' := [(1, .int z_10), (0, .ref (a 7)), (2, .int k)]) hx hb dX6_number_53 rfl hl (by decide) rfl ?_
              clear hl; intro ls hl
              obtain ⟨i_11, ei_11⟩ : ∃ z : Int32, z = k + 1 := ⟨_, rfl⟩
              refine lv_iinc (v := i_11) (lv' := [(2, .int i_11), (1, .int z_10), (0, .ref (a 7))]) hx hb dX6_number_54 hl (k := 2) rfl (by rw [ei_11]; rfl) (by decide) rfl ?_
              clear hl; intro ls hl
              have ti_11 : (Int32.toInt i_11) = (Int32.toInt k) + 1 := aI_add rfl L_1 ei_11 (by have := rng k; have := rng (σ 7); omega)
              refine lv_goto (tgt := 4) hx hb dX6_number_57 (by decide) ?_
              exact ih4 z_10 i_11 γ_8 ψ_8 _ _ _ (show 0 ≤ (Int32.toInt i_11) from (by omega)) (by omega) hP hS (lv_sub hl [2, 1, 0] rfl)
            · have kc_6 := bI_nle rfl L_57 c_6
              refine lv_iload_n hx hb dX6_number_38 rfl (lv_at hl 1 rfl) ?_
              subst eQ
              exact W.iret (v := made) hx hb hr (fun t ht hW => ⟨⟨made, (σ, φ, γ_5, ψ_5), rfl, ⟨rfl, rfl, trivial⟩, (by show va_P _ _ _ _; rw [ht]; exact hP)⟩, hS.F ht⟩) hS.2.2 dX6_number_39
  refine lv_iconst (v := 0) hx hb dX6_number_0 (by decide) ?_
  refine lv_istore_n (lv' := [(1, .int 0), (0, .ref (a 7))]) hx hb dX6_number_1 rfl hl (by decide) rfl ?_
  clear hl; intro ls hl
  refine lv_iconst (v := 0) hx hb dX6_number_2 (by decide) ?_
  refine lv_istore_n (lv' := [(2, .int 0), (1, .int 0), (0, .ref (a 7))]) hx hb dX6_number_3 rfl hl (by decide) rfl ?_
  clear hl; intro ls hl
  exact J4 (_ + 1) 0 0 γ ψ _ _ _ (show 0 ≤ (Int32.toInt 0) from (by have := L_0; omega)) (Nat.lt_succ_self _) hP hS (lv_sub hl [2, 1, 0] rfl)
set_option maxHeartbeats 4000000 in
set_option maxRecDepth 100000 in
theorem c_X6_faultAs (l : Launch) (dC : Nat → ClassId) (dI : Nat → Nat → Nat) (a : Nat → Nat) (κ : Nat → ClassId) (σ : Nat → Int32) (φ : Nat → Nat → Int32) (γ : Nat → Int32) (ψ : Nat → Nat → Int32) (g1 g2 : Nat) (field : Int32) : Met l yX6_faultAs wsX6_faultAs ({ frames := 2, cells := 0, slots := 0, locals := 43 } : Room) (va_Pc [.ref (a 7), .int field] (cPre dC dI a κ (σ, φ, γ, ψ) g1 g2)) (va_Qi (QI (fun r S F => σ = S ∧ φ = F ∧ ((Int32.toInt field) = 2 → ((Int32.toInt r) = 0 ∨ (Int32.toInt r) = 6)))) (cB dC dI a κ) (cA a)) 0 0 (cA a) := by
  refine Met.ofW (cc := cX6_faultAs) (maxL := 2) (ret := (some .int)) (by decide) rfl ?_
  intro p e s m args below meth c s₁ B hml hv
  obtain ⟨rfl, hP, hK, hI, hN, hX⟩ := hv
  have hx := B.exec
  have hb := B.bytes
  have hr := B.returns
  have hts := atoms_spec (ws := wsX6_faultAs) B.pre
  have hown : s.vm.findClass RX6 = some m.cls := findClass_of_methodNamed B.named
  have hlocks := B.notSynchronized
  have hS : va_S (cA a) s.heap s.heap [] := va_S.rf
  have hinX6 : ∀ w ∈ wsX60, w ∈ wsX6_faultAs := fun _ h => List.mem_cons_of_mem _ (List.mem_append_right _ h)
  have hl := lv_entry ([.ref (a 7), .int field]) (n := 2) (Nat.le_of_ble_eq_true rfl)
  rw [lg_entry_eq]
  generalize (lg_sl ([.ref (a 7), .int field]) ++ List.replicate (2 - (lg_sl ([.ref (a 7), .int field])).length) Slot.unset).toArray = ls at hl ⊢
  have hl : lv_has ls 2 [(0, .ref (a 7)), (1, .int field)] := hl
  refine lv_iload_n hx hb dX6_faultAs_0 rfl (lv_at hl 1 rfl) ?_
  rcases (show ((Int32.toInt field) < 1 ∨ 3 < (Int32.toInt field)) ∨ (Int32.toInt field) = 1 ∨ (Int32.toInt field) = 2 ∨ (Int32.toInt field) = 3 from by omega) with sw_1 | sw_1 | sw_1 | sw_1
  · refine lv_tableOut (tgt := 115) hx hb dX6_faultAs_1 sw_1 (by decide) ?_
    refine lv_aload_n hx hb dX6_faultAs_115 rfl (lv_at hl 0 rfl) ?_
    refine cg_7_2 (v := (σ 7)) hx hb hts hinX6 hown hK hP (hts (.fieldLink RX6 18 "CensusDesk$Signs" "count" "I") (List.mem_of_getElem? (i := 1) rfl)) rfl dX6_faultAs_116 ?_
    refine lv_if_eq (tgt := 142) hx hb dX6_faultAs_119 (by decide) (fun c_2 => ?_) (fun c_2 => ?_)
    · have kc_2 := bI_eq rfl L_0 c_2
      refine lv_iconst (v := 4) hx hb dX6_faultAs_142 (by decide) ?_
      exact W.iret (v := 4) hx hb hr (fun t ht hW => ⟨⟨4, (σ, φ, γ, ψ), rfl, ⟨rfl, rfl, (show (Int32.toInt field) = 2 → ((Int32.toInt 4) = 0 ∨ (Int32.toInt 4) = 6) from (by have := L_4; omega))⟩, (by show va_P _ _ _ _; rw [ht]; exact hP)⟩, hS.F ht⟩) hS.2.2 dX6_faultAs_143
    · have kc_2 := bI_ne rfl L_0 c_2
      refine lv_aload_n hx hb dX6_faultAs_122 rfl (lv_at hl 0 rfl) ?_
      refine cg_7_2 (v := (σ 7)) hx hb hts hinX6 hown hK hP (hts (.fieldLink RX6 18 "CensusDesk$Signs" "count" "I") (List.mem_of_getElem? (i := 1) rfl)) rfl dX6_faultAs_123 ?_
      refine lv_bipush (v := 6) hx hb dX6_faultAs_126 (by decide) ?_
      refine lv_icmp_gt (tgt := 142) hx hb dX6_faultAs_128 (by decide) (fun c_3 => ?_) (fun c_3 => ?_)
      · have kc_3 := bI_lt L_6 rfl c_3
        refine lv_iconst (v := 4) hx hb dX6_faultAs_142 (by decide) ?_
        exact W.iret (v := 4) hx hb hr (fun t ht hW => ⟨⟨4, (σ, φ, γ, ψ), rfl, ⟨rfl, rfl, (show (Int32.toInt field) = 2 → ((Int32.toInt 4) = 0 ∨ (Int32.toInt 4) = 6) from (by have := L_4; omega))⟩, (by show va_P _ _ _ _; rw [ht]; exact hP)⟩, hS.F ht⟩) hS.2.2 dX6_faultAs_143
      · have kc_3 := bI_nlt L_6 rfl c_3
        refine lv_aload_n hx hb dX6_faultAs_131 rfl (lv_at hl 0 rfl) ?_
        refine c_calli (va_runV (As := []) (rest := []) ⟨hx, hb, hml, hown, hts⟩ (c_X6_digits l dC dI a κ σ φ γ ψ g1 g2  ) (cwV 0 hts gX6_faultAs_X6_digits rfl rfl rfl ⟨rfl, hd_X6_digits⟩ ⟨Nat.le_of_ble_eq_true rfl, Nat.le_of_ble_eq_true rfl⟩) (cPreV hP hK hI hN hX hS (va_recv hK hP (ci := 6) (q0 := 7) rfl rfl)) rfl rfl hl.1 rfl (lv_room (Nat.le_of_ble_eq_true rfl)) dX6_faultAs_132 ⟨(by decide +kernel), (by decide +kernel)⟩) hS ?_
        clear hP hS; intro r_4 S_4 F_4 γ_4 ψ_4 H locs hw hP hS
        obtain ⟨rfl, rfl, -⟩ := hw
        refine lv_aload_n hx hb dX6_faultAs_135 rfl (lv_at hl 0 rfl) ?_
        refine cg_7_2 (v := (σ 7)) hx hb hts hinX6 hown hK hP (hts (.fieldLink RX6 18 "CensusDesk$Signs" "count" "I") (List.mem_of_getElem? (i := 1) rfl)) rfl dX6_faultAs_136 ?_
        refine lv_icmp_ge (tgt := 144) hx hb dX6_faultAs_139 (by decide) (fun c_5 => ?_) (fun c_5 => ?_)
        · have kc_5 := bI_le rfl rfl c_5
          refine lv_aload_n hx hb dX6_faultAs_144 rfl (lv_at hl 0 rfl) ?_
          refine c_calli (va_runV (As := []) (rest := []) ⟨hx, hb, hml, hown, hts⟩ (c_X6_number l dC dI a κ σ φ γ_4 ψ_4 g1 g2  ) (cwV 0 hts gX6_faultAs_X6_number rfl rfl rfl ⟨rfl, hd_X6_number⟩ ⟨Nat.le_of_ble_eq_true rfl, Nat.le_of_ble_eq_true rfl⟩) (cPreV hP hK hI hN hX hS (va_recv hK hP (ci := 6) (q0 := 7) rfl rfl)) rfl rfl hl.1 rfl (lv_room (Nat.le_of_ble_eq_true rfl)) dX6_faultAs_145 ⟨(by decide +kernel), (by decide +kernel)⟩) hS ?_
          clear hP hS; intro r_6 S_6 F_6 γ_6 ψ_6 H locs hw hP hS
          obtain ⟨rfl, rfl, -⟩ := hw
          refine lv_iload_n hx hb dX6_faultAs_148 rfl (lv_at hl 1 rfl) ?_
          refine c_calli (va_runS (As := [.int field]) (rest := [.int r_6]) ⟨hx, hb, hml, hown, hts⟩ (c_X6_mostOf l dC dI a κ σ φ γ_6 ψ_6 g1 g2 field ) (va_cwS 1 hts gX6_faultAs_X6_mostOf rfl rfl rfl hd_X6_mostOf ⟨Nat.le_of_ble_eq_true rfl, Nat.le_of_ble_eq_true rfl⟩) (cPreS hP hK hI hN hX hS) rfl rfl hl.1 rfl (lv_room (Nat.le_of_ble_eq_true rfl)) dX6_faultAs_149 ⟨(by decide +kernel), (by decide +kernel)⟩) hS ?_
          clear hP hS; intro r_7 S_7 F_7 γ_7 ψ_7 H locs hw hP hS
          obtain ⟨rfl, rfl, -⟩ := hw
          refine lv_icmp_le (tgt := 159) hx hb dX6_faultAs_152 (by decide) (fun c_8 => ?_) (fun c_8 => ?_)
          · have kc_8 := bI_le rfl rfl c_8
            refine lv_iconst (v := 0) hx hb dX6_faultAs_159 (by decide) ?_
            exact W.iret (v := 0) hx hb hr (fun t ht hW => ⟨⟨0, (σ, φ, γ_7, ψ_7), rfl, ⟨rfl, rfl, (show (Int32.toInt field) = 2 → ((Int32.toInt 0) = 0 ∨ (Int32.toInt 0) = 6) from (by have := L_0; omega))⟩, (by show va_P _ _ _ _; rw [ht]; exact hP)⟩, hS.F ht⟩) hS.2.2 dX6_faultAs_160
          · have kc_8 := bI_nle rfl rfl c_8
            refine lv_iconst (v := 5) hx hb dX6_faultAs_155 (by decide) ?_
            refine lv_goto (tgt := 160) hx hb dX6_faultAs_156 (by decide) ?_
            exact W.iret (v := 5) hx hb hr (fun t ht hW => ⟨⟨5, (σ, φ, γ_7, ψ_7), rfl, ⟨rfl, rfl, (show (Int32.toInt field) = 2 → ((Int32.toInt 5) = 0 ∨ (Int32.toInt 5) = 6) from (by have := L_5; omega))⟩, (by show va_P _ _ _ _; rw [ht]; exact hP)⟩, hS.F ht⟩) hS.2.2 dX6_faultAs_160
        · have kc_5 := bI_nle rfl rfl c_5
          refine lv_iconst (v := 4) hx hb dX6_faultAs_142 (by decide) ?_
          exact W.iret (v := 4) hx hb hr (fun t ht hW => ⟨⟨4, (σ, φ, γ_4, ψ_4), rfl, ⟨rfl, rfl, (show (Int32.toInt field) = 2 → ((Int32.toInt 4) = 0 ∨ (Int32.toInt 4) = 6) from (by have := L_4; omega))⟩, (by show va_P _ _ _ _; rw [ht]; exact hP)⟩, hS.F ht⟩) hS.2.2 dX6_faultAs_143
  · refine lv_tableIn (off := 27) (tgt := 28) hx hb dX6_faultAs_1 (by omega) (by omega) (by rw [sw_1]; rfl) (by decide) ?_
    refine lv_aload_n hx hb dX6_faultAs_28 rfl (lv_at hl 0 rfl) ?_
    refine cg_7_2 (v := (σ 7)) hx hb hts hinX6 hown hK hP (hts (.fieldLink RX6 18 "CensusDesk$Signs" "count" "I") (List.mem_of_getElem? (i := 1) rfl)) rfl dX6_faultAs_29 ?_
    refine lv_if_ne (tgt := 37) hx hb dX6_faultAs_32 (by decide) (fun c_9 => ?_) (fun c_9 => ?_)
    · have kc_9 := bI_ne rfl L_0 c_9
      refine lv_aload_n hx hb dX6_faultAs_37 rfl (lv_at hl 0 rfl) ?_
      refine c_calli (va_runV (As := []) (rest := []) ⟨hx, hb, hml, hown, hts⟩ (c_X6_firstBadOfName l dC dI a κ σ φ γ ψ g1 g2  ) (cwV 0 hts gX6_faultAs_X6_firstBadOfName rfl rfl rfl ⟨rfl, hd_X6_firstBadOfName⟩ ⟨Nat.le_of_ble_eq_true rfl, Nat.le_of_ble_eq_true rfl⟩) (cPreV hP hK hI hN hX hS (va_recv hK hP (ci := 6) (q0 := 7) rfl rfl)) rfl rfl hl.1 rfl (lv_room (Nat.le_of_ble_eq_true rfl)) dX6_faultAs_38 ⟨(by decide +kernel), (by decide +kernel)⟩) hS ?_
      clear hP hS; intro r_10 S_10 F_10 γ_10 ψ_10 H locs hw hP hS
      obtain ⟨rfl, rfl, -⟩ := hw
      refine lv_if_ge (tgt := 48) hx hb dX6_faultAs_41 (by decide) (fun c_11 => ?_) (fun c_11 => ?_)
      · have kc_11 := bI_le L_0 rfl c_11
        refine lv_iconst (v := 3) hx hb dX6_faultAs_48 (by decide) ?_
        exact W.iret (v := 3) hx hb hr (fun t ht hW => ⟨⟨3, (σ, φ, γ_10, ψ_10), rfl, ⟨rfl, rfl, (show (Int32.toInt field) = 2 → ((Int32.toInt 3) = 0 ∨ (Int32.toInt 3) = 6) from (by have := L_3; omega))⟩, (by show va_P _ _ _ _; rw [ht]; exact hP)⟩, hS.F ht⟩) hS.2.2 dX6_faultAs_49
      · have kc_11 := bI_nle L_0 rfl c_11
        refine lv_iconst (v := 0) hx hb dX6_faultAs_44 (by decide) ?_
        refine lv_goto (tgt := 49) hx hb dX6_faultAs_45 (by decide) ?_
        exact W.iret (v := 0) hx hb hr (fun t ht hW => ⟨⟨0, (σ, φ, γ_10, ψ_10), rfl, ⟨rfl, rfl, (show (Int32.toInt field) = 2 → ((Int32.toInt 0) = 0 ∨ (Int32.toInt 0) = 6) from (by have := L_0; omega))⟩, (by show va_P _ _ _ _; rw [ht]; exact hP)⟩, hS.F ht⟩) hS.2.2 dX6_faultAs_49
    · have kc_9 := bI_eq rfl L_0 c_9
      refine lv_iconst (v := 2) hx hb dX6_faultAs_35 (by decide) ?_
      exact W.iret (v := 2) hx hb hr (fun t ht hW => ⟨⟨2, (σ, φ, γ, ψ), rfl, ⟨rfl, rfl, (show (Int32.toInt field) = 2 → ((Int32.toInt 2) = 0 ∨ (Int32.toInt 2) = 6) from (by have := L_2; omega))⟩, (by show va_P _ _ _ _; rw [ht]; exact hP)⟩, hS.F ht⟩) hS.2.2 dX6_faultAs_36
  · refine lv_tableIn (off := 49) (tgt := 50) hx hb dX6_faultAs_1 (by omega) (by omega) (by rw [sw_1]; rfl) (by decide) ?_
    refine lv_aload_n hx hb dX6_faultAs_50 rfl (lv_at hl 0 rfl) ?_
    refine cg_7_2 (v := (σ 7)) hx hb hts hinX6 hown hK hP (hts (.fieldLink RX6 18 "CensusDesk$Signs" "count" "I") (List.mem_of_getElem? (i := 1) rfl)) rfl dX6_faultAs_51 ?_
    refine lv_iconst (v := 1) hx hb dX6_faultAs_54 (by decide) ?_
    refine lv_icmp_ne (tgt := 82) hx hb dX6_faultAs_55 (by decide) (fun c_12 => ?_) (fun c_12 => ?_)
    · have kc_12 := bI_ne rfl L_1 c_12
      refine lv_bipush (v := 6) hx hb dX6_faultAs_82 (by decide) ?_
      exact W.iret (v := 6) hx hb hr (fun t ht hW => ⟨⟨6, (σ, φ, γ, ψ), rfl, ⟨rfl, rfl, (show (Int32.toInt field) = 2 → ((Int32.toInt 6) = 0 ∨ (Int32.toInt 6) = 6) from (by have := L_6; omega))⟩, (by show va_P _ _ _ _; rw [ht]; exact hP)⟩, hS.F ht⟩) hS.2.2 dX6_faultAs_84
    · have kc_12 := bI_eq rfl L_1 c_12
      refine lv_aload_n hx hb dX6_faultAs_58 rfl (lv_at hl 0 rfl) ?_
      refine lv_iconst (v := 0) hx hb dX6_faultAs_59 (by decide) ?_
      refine c_calli (va_runV (As := [.int 0]) (rest := []) ⟨hx, hb, hml, hown, hts⟩ (c_X6_at l dC dI a κ σ φ γ ψ g1 g2 0 ) (cwV 1 hts gX6_faultAs_X6_at rfl rfl rfl ⟨rfl, hd_X6_at⟩ ⟨Nat.le_of_ble_eq_true rfl, Nat.le_of_ble_eq_true rfl⟩) (cPreV hP hK hI hN hX hS (va_recv hK hP (ci := 6) (q0 := 7) rfl rfl)) rfl rfl hl.1 rfl (lv_room (Nat.le_of_ble_eq_true rfl)) dX6_faultAs_60 ⟨(by decide +kernel), (by decide +kernel)⟩) hS ?_
      clear hP hS; intro r_13 S_13 F_13 γ_13 ψ_13 H locs hw hP hS
      obtain ⟨rfl, rfl, -⟩ := hw
      refine lv_bipush (v := 109) hx hb dX6_faultAs_63 (by decide) ?_
      refine lv_icmp_eq (tgt := 78) hx hb dX6_faultAs_65 (by decide) (fun c_14 => ?_) (fun c_14 => ?_)
      · have kc_14 := bI_eq rfl L_109 c_14
        refine lv_iconst (v := 0) hx hb dX6_faultAs_78 (by decide) ?_
        refine lv_goto (tgt := 84) hx hb dX6_faultAs_79 (by decide) ?_
        exact W.iret (v := 0) hx hb hr (fun t ht hW => ⟨⟨0, (σ, φ, γ_13, ψ_13), rfl, ⟨rfl, rfl, (show (Int32.toInt field) = 2 → ((Int32.toInt 0) = 0 ∨ (Int32.toInt 0) = 6) from (by have := L_0; omega))⟩, (by show va_P _ _ _ _; rw [ht]; exact hP)⟩, hS.F ht⟩) hS.2.2 dX6_faultAs_84
      · have kc_14 := bI_ne rfl L_109 c_14
        refine lv_aload_n hx hb dX6_faultAs_68 rfl (lv_at hl 0 rfl) ?_
        refine lv_iconst (v := 0) hx hb dX6_faultAs_69 (by decide) ?_
        refine c_calli (va_runV (As := [.int 0]) (rest := []) ⟨hx, hb, hml, hown, hts⟩ (c_X6_at l dC dI a κ σ φ γ_13 ψ_13 g1 g2 0 ) (cwV 1 hts gX6_faultAs_X6_at rfl rfl rfl ⟨rfl, hd_X6_at⟩ ⟨Nat.le_of_ble_eq_true rfl, Nat.le_of_ble_eq_true rfl⟩) (cPreV hP hK hI hN hX hS (va_recv hK hP (ci := 6) (q0 := 7) rfl rfl)) rfl rfl hl.1 rfl (lv_room (Nat.le_of_ble_eq_true rfl)) dX6_faultAs_70 ⟨(by decide +kernel), (by decide +kernel)⟩) hS ?_
        clear hP hS; intro r_15 S_15 F_15 γ_15 ψ_15 H locs hw hP hS
        obtain ⟨rfl, rfl, -⟩ := hw
        refine lv_bipush (v := 102) hx hb dX6_faultAs_73 (by decide) ?_
        refine lv_icmp_ne (tgt := 82) hx hb dX6_faultAs_75 (by decide) (fun c_16 => ?_) (fun c_16 => ?_)
        · have kc_16 := bI_ne rfl L_102 c_16
          refine lv_bipush (v := 6) hx hb dX6_faultAs_82 (by decide) ?_
          exact W.iret (v := 6) hx hb hr (fun t ht hW => ⟨⟨6, (σ, φ, γ_15, ψ_15), rfl, ⟨rfl, rfl, (show (Int32.toInt field) = 2 → ((Int32.toInt 6) = 0 ∨ (Int32.toInt 6) = 6) from (by have := L_6; omega))⟩, (by show va_P _ _ _ _; rw [ht]; exact hP)⟩, hS.F ht⟩) hS.2.2 dX6_faultAs_84
        · have kc_16 := bI_eq rfl L_102 c_16
          refine lv_iconst (v := 0) hx hb dX6_faultAs_78 (by decide) ?_
          refine lv_goto (tgt := 84) hx hb dX6_faultAs_79 (by decide) ?_
          exact W.iret (v := 0) hx hb hr (fun t ht hW => ⟨⟨0, (σ, φ, γ_15, ψ_15), rfl, ⟨rfl, rfl, (show (Int32.toInt field) = 2 → ((Int32.toInt 0) = 0 ∨ (Int32.toInt 0) = 6) from (by have := L_0; omega))⟩, (by show va_P _ _ _ _; rw [ht]; exact hP)⟩, hS.F ht⟩) hS.2.2 dX6_faultAs_84
  · refine lv_tableIn (off := 84) (tgt := 85) hx hb dX6_faultAs_1 (by omega) (by omega) (by rw [sw_1]; rfl) (by decide) ?_
    refine lv_aload_n hx hb dX6_faultAs_85 rfl (lv_at hl 0 rfl) ?_
    refine cg_7_2 (v := (σ 7)) hx hb hts hinX6 hown hK hP (hts (.fieldLink RX6 18 "CensusDesk$Signs" "count" "I") (List.mem_of_getElem? (i := 1) rfl)) rfl dX6_faultAs_86 ?_
    refine lv_if_eq (tgt := 108) hx hb dX6_faultAs_89 (by decide) (fun c_17 => ?_) (fun c_17 => ?_)
    · have kc_17 := bI_eq rfl L_0 c_17
      refine lv_iconst (v := 0) hx hb dX6_faultAs_108 (by decide) ?_
      refine lv_goto (tgt := 114) hx hb dX6_faultAs_109 (by decide) ?_
      exact W.iret (v := 0) hx hb hr (fun t ht hW => ⟨⟨0, (σ, φ, γ, ψ), rfl, ⟨rfl, rfl, (show (Int32.toInt field) = 2 → ((Int32.toInt 0) = 0 ∨ (Int32.toInt 0) = 6) from (by have := L_0; omega))⟩, (by show va_P _ _ _ _; rw [ht]; exact hP)⟩, hS.F ht⟩) hS.2.2 dX6_faultAs_114
    · have kc_17 := bI_ne rfl L_0 c_17
      refine lv_aload_n hx hb dX6_faultAs_92 rfl (lv_at hl 0 rfl) ?_
      refine cg_7_2 (v := (σ 7)) hx hb hts hinX6 hown hK hP (hts (.fieldLink RX6 18 "CensusDesk$Signs" "count" "I") (List.mem_of_getElem? (i := 1) rfl)) rfl dX6_faultAs_93 ?_
      refine lv_iconst (v := 1) hx hb dX6_faultAs_96 (by decide) ?_
      refine lv_icmp_ne (tgt := 112) hx hb dX6_faultAs_97 (by decide) (fun c_18 => ?_) (fun c_18 => ?_)
      · have kc_18 := bI_ne rfl L_1 c_18
        refine lv_bipush (v := 7) hx hb dX6_faultAs_112 (by decide) ?_
        exact W.iret (v := 7) hx hb hr (fun t ht hW => ⟨⟨7, (σ, φ, γ, ψ), rfl, ⟨rfl, rfl, (show (Int32.toInt field) = 2 → ((Int32.toInt 7) = 0 ∨ (Int32.toInt 7) = 6) from (by have := L_7; omega))⟩, (by show va_P _ _ _ _; rw [ht]; exact hP)⟩, hS.F ht⟩) hS.2.2 dX6_faultAs_114
      · have kc_18 := bI_eq rfl L_1 c_18
        refine lv_aload_n hx hb dX6_faultAs_100 rfl (lv_at hl 0 rfl) ?_
        refine c_calli (va_runV (As := []) (rest := []) ⟨hx, hb, hml, hown, hts⟩ (c_X6_digits l dC dI a κ σ φ γ ψ g1 g2  ) (cwV 0 hts gX6_faultAs_X6_digits rfl rfl rfl ⟨rfl, hd_X6_digits⟩ ⟨Nat.le_of_ble_eq_true rfl, Nat.le_of_ble_eq_true rfl⟩) (cPreV hP hK hI hN hX hS (va_recv hK hP (ci := 6) (q0 := 7) rfl rfl)) rfl rfl hl.1 rfl (lv_room (Nat.le_of_ble_eq_true rfl)) dX6_faultAs_101 ⟨(by decide +kernel), (by decide +kernel)⟩) hS ?_
        clear hP hS; intro r_19 S_19 F_19 γ_19 ψ_19 H locs hw hP hS
        obtain ⟨rfl, rfl, -⟩ := hw
        refine lv_iconst (v := 1) hx hb dX6_faultAs_104 (by decide) ?_
        refine lv_icmp_ne (tgt := 112) hx hb dX6_faultAs_105 (by decide) (fun c_20 => ?_) (fun c_20 => ?_)
        · have kc_20 := bI_ne rfl L_1 c_20
          refine lv_bipush (v := 7) hx hb dX6_faultAs_112 (by decide) ?_
          exact W.iret (v := 7) hx hb hr (fun t ht hW => ⟨⟨7, (σ, φ, γ_19, ψ_19), rfl, ⟨rfl, rfl, (show (Int32.toInt field) = 2 → ((Int32.toInt 7) = 0 ∨ (Int32.toInt 7) = 6) from (by have := L_7; omega))⟩, (by show va_P _ _ _ _; rw [ht]; exact hP)⟩, hS.F ht⟩) hS.2.2 dX6_faultAs_114
        · have kc_20 := bI_eq rfl L_1 c_20
          refine lv_iconst (v := 0) hx hb dX6_faultAs_108 (by decide) ?_
          refine lv_goto (tgt := 114) hx hb dX6_faultAs_109 (by decide) ?_
          exact W.iret (v := 0) hx hb hr (fun t ht hW => ⟨⟨0, (σ, φ, γ_19, ψ_19), rfl, ⟨rfl, rfl, (show (Int32.toInt field) = 2 → ((Int32.toInt 0) = 0 ∨ (Int32.toInt 0) = 6) from (by have := L_0; omega))⟩, (by show va_P _ _ _ _; rw [ht]; exact hP)⟩, hS.F ht⟩) hS.2.2 dX6_faultAs_114
set_option maxHeartbeats 4000000 in
set_option maxRecDepth 100000 in
theorem c_X6_valueAs (l : Launch) (dC : Nat → ClassId) (dI : Nat → Nat → Nat) (a : Nat → Nat) (κ : Nat → ClassId) (σ : Nat → Int32) (φ : Nat → Nat → Int32) (γ : Nat → Int32) (ψ : Nat → Nat → Int32) (g1 g2 : Nat) (field : Int32) : Met l yX6_valueAs wsX6_valueAs ({ frames := 2, cells := 0, slots := 0, locals := 43 } : Room) (va_Pc [.ref (a 7), .int field] (cPre dC dI a κ (σ, φ, γ, ψ) g1 g2)) (va_Qi (QI (fun r S F => σ = S ∧ φ = F ∧ ((Int32.toInt field) = 2 → (0 ≤ (Int32.toInt r) ∧ (Int32.toInt r) ≤ 1)))) (cB dC dI a κ) (cA a)) 0 0 (cA a) := by
  refine Met.ofW (cc := cX6_valueAs) (maxL := 2) (ret := (some .int)) (by decide) rfl ?_
  intro p e s m args below meth c s₁ B hml hv
  obtain ⟨rfl, hP, hK, hI, hN, hX⟩ := hv
  have hx := B.exec
  have hb := B.bytes
  have hr := B.returns
  have hts := atoms_spec (ws := wsX6_valueAs) B.pre
  have hown : s.vm.findClass RX6 = some m.cls := findClass_of_methodNamed B.named
  have hlocks := B.notSynchronized
  have hS : va_S (cA a) s.heap s.heap [] := va_S.rf
  have hinX6 : ∀ w ∈ wsX60, w ∈ wsX6_valueAs := fun _ h => List.mem_cons_of_mem _ (List.mem_append_right _ h)
  have hl := lv_entry ([.ref (a 7), .int field]) (n := 2) (Nat.le_of_ble_eq_true rfl)
  rw [lg_entry_eq]
  generalize (lg_sl ([.ref (a 7), .int field]) ++ List.replicate (2 - (lg_sl ([.ref (a 7), .int field])).length) Slot.unset).toArray = ls at hl ⊢
  have hl : lv_has ls 2 [(0, .ref (a 7)), (1, .int field)] := hl
  refine lv_iload_n hx hb dX6_valueAs_0 rfl (lv_at hl 1 rfl) ?_
  refine lv_iconst (v := 2) hx hb dX6_valueAs_1 (by decide) ?_
  refine lv_icmp_ne (tgt := 21) hx hb dX6_valueAs_2 (by decide) (fun c_1 => ?_) (fun c_1 => ?_)
  · have kc_1 := bI_ne rfl L_2 c_1
    refine lv_aload_n hx hb dX6_valueAs_21 rfl (lv_at hl 0 rfl) ?_
    refine c_calli (va_runV (As := []) (rest := []) ⟨hx, hb, hml, hown, hts⟩ (c_X6_number l dC dI a κ σ φ γ ψ g1 g2  ) (cwV 0 hts gX6_valueAs_X6_number rfl rfl rfl ⟨rfl, hd_X6_number⟩ ⟨Nat.le_of_ble_eq_true rfl, Nat.le_of_ble_eq_true rfl⟩) (cPreV hP hK hI hN hX hS (va_recv hK hP (ci := 6) (q0 := 7) rfl rfl)) rfl rfl hl.1 rfl (lv_room (Nat.le_of_ble_eq_true rfl)) dX6_valueAs_22 ⟨(by decide +kernel), (by decide +kernel)⟩) hS ?_
    clear hP hS; intro r_2 S_2 F_2 γ_2 ψ_2 H locs hw hP hS
    obtain ⟨rfl, rfl, -⟩ := hw
    exact W.iret (v := r_2) hx hb hr (fun t ht hW => ⟨⟨r_2, (σ, φ, γ_2, ψ_2), rfl, ⟨rfl, rfl, (show (Int32.toInt field) = 2 → (0 ≤ (Int32.toInt r_2) ∧ (Int32.toInt r_2) ≤ 1) from (by omega))⟩, (by show va_P _ _ _ _; rw [ht]; exact hP)⟩, hS.F ht⟩) hS.2.2 dX6_valueAs_25
  · have kc_1 := bI_eq rfl L_2 c_1
    refine lv_aload_n hx hb dX6_valueAs_5 rfl (lv_at hl 0 rfl) ?_
    refine lv_iconst (v := 0) hx hb dX6_valueAs_6 (by decide) ?_
    refine c_calli (va_runV (As := [.int 0]) (rest := []) ⟨hx, hb, hml, hown, hts⟩ (c_X6_at l dC dI a κ σ φ γ ψ g1 g2 0 ) (cwV 1 hts gX6_valueAs_X6_at rfl rfl rfl ⟨rfl, hd_X6_at⟩ ⟨Nat.le_of_ble_eq_true rfl, Nat.le_of_ble_eq_true rfl⟩) (cPreV hP hK hI hN hX hS (va_recv hK hP (ci := 6) (q0 := 7) rfl rfl)) rfl rfl hl.1 rfl (lv_room (Nat.le_of_ble_eq_true rfl)) dX6_valueAs_7 ⟨(by decide +kernel), (by decide +kernel)⟩) hS ?_
    clear hP hS; intro r_3 S_3 F_3 γ_3 ψ_3 H locs hw hP hS
    obtain ⟨rfl, rfl, -⟩ := hw
    refine lv_bipush (v := 109) hx hb dX6_valueAs_10 (by decide) ?_
    refine lv_icmp_ne (tgt := 19) hx hb dX6_valueAs_12 (by decide) (fun c_4 => ?_) (fun c_4 => ?_)
    · have kc_4 := bI_ne rfl L_109 c_4
      refine lv_iconst (v := 1) hx hb dX6_valueAs_19 (by decide) ?_
      exact W.iret (v := 1) hx hb hr (fun t ht hW => ⟨⟨1, (σ, φ, γ_3, ψ_3), rfl, ⟨rfl, rfl, (show (Int32.toInt field) = 2 → (0 ≤ (Int32.toInt 1) ∧ (Int32.toInt 1) ≤ 1) from (by have := L_1; omega))⟩, (by show va_P _ _ _ _; rw [ht]; exact hP)⟩, hS.F ht⟩) hS.2.2 dX6_valueAs_20
    · have kc_4 := bI_eq rfl L_109 c_4
      refine lv_iconst (v := 0) hx hb dX6_valueAs_15 (by decide) ?_
      refine lv_goto (tgt := 20) hx hb dX6_valueAs_16 (by decide) ?_
      exact W.iret (v := 0) hx hb hr (fun t ht hW => ⟨⟨0, (σ, φ, γ_3, ψ_3), rfl, ⟨rfl, rfl, (show (Int32.toInt field) = 2 → (0 ≤ (Int32.toInt 0) ∧ (Int32.toInt 0) ≤ 1) from (by have := L_0; omega))⟩, (by show va_P _ _ _ _; rw [ht]; exact hP)⟩, hS.F ht⟩) hS.2.2 dX6_valueAs_20
set_option maxHeartbeats 4000000 in
set_option maxRecDepth 100000 in
theorem c_X2_begin (l : Launch) (dC : Nat → ClassId) (dI : Nat → Nat → Nat) (a : Nat → Nat) (κ : Nat → ClassId) (σ : Nat → Int32) (φ : Nat → Nat → Int32) (γ : Nat → Int32) (ψ : Nat → Nat → Int32) (g1 g2 : Nat) (place : Int32) : Met l yX2_begin wsX2_begin ({ frames := 0, cells := 0, slots := 0, locals := 0 } : Room) (va_Pc [.ref (a 8), .int place] (cPre dC dI a κ (σ, φ, γ, ψ) g1 g2)) (va_Qv (QV (fun S F => ∃ (s8 : Int32) (s9 : Int32) (s10 : Int32), (up (up (up σ 8 s8) 9 s9) 10 s10) = S ∧ φ = F ∧ ((Int32.toInt s8) = 1 ∧ (Int32.toInt s9) = 0 ∧ (Int32.toInt s10) = 0))) (cB dC dI a κ) (cA a)) 0 0 (cA a) := by
  refine Met.ofW (cc := cX2_begin) (maxL := 2) (ret := none) (by decide) rfl ?_
  intro p e s m args below meth c s₁ B hml hv
  obtain ⟨rfl, hP, hK, hI, hN, hX⟩ := hv
  have hx := B.exec
  have hb := B.bytes
  have hr := B.returns
  have hts := atoms_spec (ws := wsX2_begin) B.pre
  have hown : s.vm.findClass RX2 = some m.cls := findClass_of_methodNamed B.named
  have hlocks := B.notSynchronized
  have hS : va_S (cA a) s.heap s.heap [] := va_S.rf
  have hinX2 : ∀ w ∈ wsX20, w ∈ wsX2_begin := fun _ h => List.mem_cons_of_mem _ (List.mem_append_right _ h)
  have hl := lv_entry ([.ref (a 8), .int place]) (n := 2) (Nat.le_of_ble_eq_true rfl)
  rw [lg_entry_eq]
  generalize (lg_sl ([.ref (a 8), .int place]) ++ List.replicate (2 - (lg_sl ([.ref (a 8), .int place])).length) Slot.unset).toArray = ls at hl ⊢
  have hl : lv_has ls 2 [(0, .ref (a 8)), (1, .int place)] := hl
  refine lv_aload_n hx hb dX2_begin_0 rfl (lv_at hl 0 rfl) ?_
  refine lv_iconst (v := 1) hx hb dX2_begin_1 (by decide) ?_
  refine cp_8_6 (v := 1) hx hb hts hinX2 hown hK hP hI hS (hts (.fieldLink RX2 33 "CensusDesk$Household" "open" "Z") (List.mem_of_getElem? (i := 1) rfl)) (by first | rfl | decide) (by first | rfl | decide) dX2_begin_2 ?_
  clear hP hS; intro H locs hP hS
  refine lv_aload_n hx hb dX2_begin_5 rfl (lv_at hl 0 rfl) ?_
  refine lv_iconst (v := 0) hx hb dX2_begin_6 (by decide) ?_
  refine cp_8_7 (v := 0) hx hb hts hinX2 hown hK hP hI hS (hts (.fieldLink RX2 37 "CensusDesk$Household" "lost" "Z") (List.mem_of_getElem? (i := 2) rfl)) (by first | rfl | decide) (by first | rfl | decide) dX2_begin_7 ?_
  clear hP hS; intro H locs hP hS
  refine lv_aload_n hx hb dX2_begin_10 rfl (lv_at hl 0 rfl) ?_
  refine lv_iload_n hx hb dX2_begin_11 rfl (lv_at hl 1 rfl) ?_
  refine cp_8_8 (v := place) hx hb hts hinX2 hown hK hP hI hS (hts (.fieldLink RX2 40 "CensusDesk$Household" "start" "I") (List.mem_of_getElem? (i := 3) rfl)) dX2_begin_12 ?_
  clear hP hS; intro H locs hP hS
  refine lv_aload_n hx hb dX2_begin_15 rfl (lv_at hl 0 rfl) ?_
  refine lv_iconst (v := (-1)) hx hb dX2_begin_16 (by decide) ?_
  refine cp_8_9 (v := (-1)) hx hb hts hinX2 hown hK hP hI hS (hts (.fieldLink RX2 44 "CensusDesk$Household" "number" "I") (List.mem_of_getElem? (i := 4) rfl)) dX2_begin_17 ?_
  clear hP hS; intro H locs hP hS
  refine lv_aload_n hx hb dX2_begin_20 rfl (lv_at hl 0 rfl) ?_
  refine lv_iconst (v := (-1)) hx hb dX2_begin_21 (by decide) ?_
  refine cp_8_10 (v := (-1)) hx hb hts hinX2 hown hK hP hI hS (hts (.fieldLink RX2 47 "CensusDesk$Household" "told" "I") (List.mem_of_getElem? (i := 5) rfl)) dX2_begin_22 ?_
  clear hP hS; intro H locs hP hS
  refine lv_aload_n hx hb dX2_begin_25 rfl (lv_at hl 0 rfl) ?_
  refine lv_iconst (v := 0) hx hb dX2_begin_26 (by decide) ?_
  refine cp_8_11 (v := 0) hx hb hts hinX2 hown hK hP hI hS (hts (.fieldLink RX2 50 "CensusDesk$Household" "persons" "I") (List.mem_of_getElem? (i := 6) rfl)) dX2_begin_27 ?_
  clear hP hS; intro H locs hP hS
  refine lv_aload_n hx hb dX2_begin_30 rfl (lv_at hl 0 rfl) ?_
  refine lv_iconst (v := 0) hx hb dX2_begin_31 (by decide) ?_
  refine cp_8_12 (v := 0) hx hb hts hinX2 hown hK hP hI hS (hts (.fieldLink RX2 53 "CensusDesk$Household" "nameEnd" "I") (List.mem_of_getElem? (i := 7) rfl)) dX2_begin_32 ?_
  clear hP hS; intro H locs hP hS
  exact W.vret hx hb hr (fun t ht hW => ⟨⟨((up (up (up σ 8 1) 9 0) 10 0), φ, (up (up (up (up γ 9 0) 10 place) 11 (-1)) 12 (-1)), ψ), rfl, ⟨1, 0, 0, rfl, rfl, (show (Int32.toInt 1) = 1 ∧ (Int32.toInt 0) = 0 ∧ (Int32.toInt 0) = 0 from (by have := L_0; have := L_1; omega))⟩, (by show va_P _ _ _ _; rw [ht]; exact hP)⟩, hS.F ht⟩) hS.2.2 dX2_begin_35
set_option maxHeartbeats 4000000 in
set_option maxRecDepth 100000 in
theorem c_X2_forgetNewcomer (l : Launch) (dC : Nat → ClassId) (dI : Nat → Nat → Nat) (a : Nat → Nat) (κ : Nat → ClassId) (σ : Nat → Int32) (φ : Nat → Nat → Int32) (γ : Nat → Int32) (ψ : Nat → Nat → Int32) (g1 g2 : Nat)  (p_hh_nameLength : PtR 0 30 (φ 3)) (hp : 0 ≤ (Int32.toInt (σ 9)) ∧ (Int32.toInt (σ 9)) ≤ 2000 ∧ 0 ≤ (Int32.toInt (σ 10)) ∧ (Int32.toInt (σ 10)) ≤ 30 * (Int32.toInt (σ 9))) : Met l yX2_forgetNewcomer wsX2_forgetNewcomer ({ frames := 0, cells := 0, slots := 0, locals := 0 } : Room) (va_Pc [.ref (a 8)] (cPre dC dI a κ (σ, φ, γ, ψ) g1 g2)) (va_Qv (QV (fun S F => ∃ (f3 : Nat → Int32), σ = S ∧ (up φ 3 f3) = F ∧ PtR 0 30 f3)) (cB dC dI a κ) (cA a)) 0 0 (cA a) := by
  refine Met.ofW (cc := cX2_forgetNewcomer) (maxL := 1) (ret := none) (by decide) rfl ?_
  intro p e s m args below meth c s₁ B hml hv
  obtain ⟨rfl, hP, hK, hI, hN, hX⟩ := hv
  have hx := B.exec
  have hb := B.bytes
  have hr := B.returns
  have hts := atoms_spec (ws := wsX2_forgetNewcomer) B.pre
  have hown : s.vm.findClass RX2 = some m.cls := findClass_of_methodNamed B.named
  have hlocks := B.notSynchronized
  have hS : va_S (cA a) s.heap s.heap [] := va_S.rf
  have hinX2 : ∀ w ∈ wsX20, w ∈ wsX2_forgetNewcomer := fun _ h => List.mem_cons_of_mem _ (List.mem_append_right _ h)
  have hl := lv_entry ([.ref (a 8)]) (n := 1) (Nat.le_of_ble_eq_true rfl)
  rw [lg_entry_eq]
  generalize (lg_sl ([.ref (a 8)]) ++ List.replicate (1 - (lg_sl ([.ref (a 8)])).length) Slot.unset).toArray = ls at hl ⊢
  have hl : lv_has ls 1 [(0, .ref (a 8))] := hl
  refine lv_aload_n hx hb dX2_forgetNewcomer_0 rfl (lv_at hl 0 rfl) ?_
  refine cg_8_11 (v := (σ 9)) hx hb hts hinX2 hown hK hP (hts (.fieldLink RX2 50 "CensusDesk$Household" "persons" "I") (List.mem_of_getElem? (i := 1) rfl)) rfl dX2_forgetNewcomer_1 ?_
  refine lv_sipush (v := 2000) hx hb dX2_forgetNewcomer_4 (by decide) ?_
  refine lv_icmp_lt (tgt := 11) hx hb dX2_forgetNewcomer_7 (by decide) (fun c_1 => ?_) (fun c_1 => ?_)
  · have kc_1 := bI_lt rfl L_2000 c_1
    refine lv_aload_n hx hb dX2_forgetNewcomer_11 rfl (lv_at hl 0 rfl) ?_
    refine cg_8_3 hx hb hts hinX2 hown hK hP (hts (.fieldLink RX2 23 "CensusDesk$Household" "nameStart" "[I") (List.mem_of_getElem? (i := 2) rfl)) dX2_forgetNewcomer_12 ?_
    refine lv_aload_n hx hb dX2_forgetNewcomer_15 rfl (lv_at hl 0 rfl) ?_
    refine cg_8_11 (v := (σ 9)) hx hb hts hinX2 hown hK hP (hts (.fieldLink RX2 50 "CensusDesk$Household" "persons" "I") (List.mem_of_getElem? (i := 1) rfl)) rfl dX2_forgetNewcomer_16 ?_
    refine lv_aload_n hx hb dX2_forgetNewcomer_19 rfl (lv_at hl 0 rfl) ?_
    refine cg_8_12 (v := (σ 10)) hx hb hts hinX2 hown hK hP (hts (.fieldLink RX2 53 "CensusDesk$Household" "nameEnd" "I") (List.mem_of_getElem? (i := 3) rfl)) rfl dX2_forgetNewcomer_20 ?_
    refine cs_43 (f := (ψ 23)) hx hb hK hP hI hS (i := (σ 9)) (x := (σ 10)) (vin rfl (by omega)) rfl dX2_forgetNewcomer_23 ?_
    clear hP hS; intro H locs hP hS
    obtain ⟨f_2, ef_2⟩ : ∃ z : Nat → Int32, z = upd (ψ 23) (Int32.toNatClampNeg (σ 9)) (σ 10) := ⟨_, rfl⟩
    rw [← ef_2] at hP
    refine lv_aload_n hx hb dX2_forgetNewcomer_24 rfl (lv_at hl 0 rfl) ?_
    refine cg_8_4 hx hb hts hinX2 hown hK hP (hts (.fieldLink RX2 26 "CensusDesk$Household" "nameLength" "[I") (List.mem_of_getElem? (i := 4) rfl)) dX2_forgetNewcomer_25 ?_
    refine lv_aload_n hx hb dX2_forgetNewcomer_28 rfl (lv_at hl 0 rfl) ?_
    refine cg_8_11 (v := (σ 9)) hx hb hts hinX2 hown hK hP (hts (.fieldLink RX2 50 "CensusDesk$Household" "persons" "I") (List.mem_of_getElem? (i := 1) rfl)) rfl dX2_forgetNewcomer_29 ?_
    refine lv_iconst (v := 0) hx hb dX2_forgetNewcomer_32 (by decide) ?_
    refine cs_44 (f := (φ 3)) hx hb hK hP hI hS (i := (σ 9)) (x := 0) (vin rfl (by omega)) rfl dX2_forgetNewcomer_33 ?_
    clear hP hS; intro H locs hP hS
    obtain ⟨f_3, ef_3⟩ : ∃ z : Nat → Int32, z = upd (φ 3) (Int32.toNatClampNeg (σ 9)) 0 := ⟨_, rfl⟩
    rw [← ef_3] at hP
    have pf_3 : PtR 0 30 f_3 := p_hh_nameLength.set ef_3 (by decide) (by decide)
    exact W.vret hx hb hr (fun t ht hW => ⟨⟨(σ, (up φ 3 f_3), γ, (up ψ 23 f_2)), rfl, ⟨f_3, rfl, rfl, pf_3⟩, (by show va_P _ _ _ _; rw [ht]; exact hP)⟩, hS.F ht⟩) hS.2.2 dX2_forgetNewcomer_34
  · have kc_1 := bI_nlt rfl L_2000 c_1
    exact W.vret hx hb hr (fun t ht hW => ⟨⟨(σ, (up φ 3 (φ 3)), γ, ψ), rfl, ⟨(φ 3), rfl, rfl, p_hh_nameLength⟩, (by show va_P _ _ _ _; rw [ht]; exact hP)⟩, hS.F ht⟩) hS.2.2 dX2_forgetNewcomer_10
set_option maxHeartbeats 4000000 in
set_option maxRecDepth 100000 in
theorem c_X2_nameNewcomer (l : Launch) (dC : Nat → ClassId) (dI : Nat → Nat → Nat) (a : Nat → Nat) (κ : Nat → ClassId) (σ : Nat → Int32) (φ : Nat → Nat → Int32) (γ : Nat → Int32) (ψ : Nat → Nat → Int32) (g1 g2 : Nat)  (p_hh_nameLength : PtR 0 30 (φ 3)) (hp : 0 ≤ (Int32.toInt (σ 9)) ∧ (Int32.toInt (σ 9)) ≤ 2000 ∧ 0 ≤ (Int32.toInt (σ 10)) ∧ (Int32.toInt (σ 10)) ≤ 30 * (Int32.toInt (σ 9))) : Met l yX2_nameNewcomer wsX2_nameNewcomer ({ frames := 1, cells := 0, slots := 0, locals := 21 } : Room) (va_Pc [.ref (a 8), .ref (a 7)] (cPre dC dI a κ (σ, φ, γ, ψ) g1 g2)) (va_Qv (QV (fun S F => ∃ (f3 : Nat → Int32), σ = S ∧ (up φ 3 f3) = F ∧ PtR 0 30 f3)) (cB dC dI a κ) (cA a)) 0 0 (cA a) := by
  refine Met.ofW (cc := cX2_nameNewcomer) (maxL := 3) (ret := none) (by decide) rfl ?_
  intro p e s m args below meth c s₁ B hml hv
  obtain ⟨rfl, hP, hK, hI, hN, hX⟩ := hv
  have hx := B.exec
  have hb := B.bytes
  have hr := B.returns
  have hts := atoms_spec (ws := wsX2_nameNewcomer) B.pre
  have hown : s.vm.findClass RX2 = some m.cls := findClass_of_methodNamed B.named
  have hlocks := B.notSynchronized
  have hS : va_S (cA a) s.heap s.heap [] := va_S.rf
  have hinX2 : ∀ w ∈ wsX20, w ∈ wsX2_nameNewcomer := fun _ h => List.mem_cons_of_mem _ (List.mem_append_left _ (List.mem_append_right _ h))
  have hinX6 : ∀ w ∈ wsX60, w ∈ wsX2_nameNewcomer := fun _ h => List.mem_cons_of_mem _ (List.mem_append_right _ h)
  have hl := lv_entry ([.ref (a 8), .ref (a 7)]) (n := 3) (Nat.le_of_ble_eq_true rfl)
  rw [lg_entry_eq]
  generalize (lg_sl ([.ref (a 8), .ref (a 7)]) ++ List.replicate (3 - (lg_sl ([.ref (a 8), .ref (a 7)])).length) Slot.unset).toArray = ls at hl ⊢
  have hl : lv_has ls 3 [(0, .ref (a 8)), (1, .ref (a 7))] := hl
  refine k_gen (fun QQ eQ => ?_)
  have J13 : ∀ (n13 : Nat), ∀ (k : Int32) (f3_c13 : Nat → Int32) (γ : Nat → Int32) (ψ : Nat → Nat → Int32) (H : Heap) (locs : List Loc) (ls : Array Slot), (PtR 0 30 f3_c13) → (0 ≤ (Int32.toInt k) ∧ (Int32.toInt (σ 9)) < 2000) → ((30 - (Int32.toInt k)).toNat < n13) → va_P (dC, dI) vwCl (cw a κ (σ, (up φ 3 f3_c13), γ, ψ)) H → va_S (cA a) s.heap H locs → lv_has ls 3 [(0, .ref (a 8)), (1, .ref (a 7)), (2, .int k)] → W p l e ({ frames := 1, cells := 0, slots := 0, locals := 21 } : Room) s m ([.ref (a 8), .ref (a 7)] : List Value).toArray below meth c H locs 0 0 QQ (F0 m 13 ls []) := by
    intro n13
    induction n13 with
    | zero =>
      intro k f3_c13 γ ψ H locs ls pf3_c13 v0 hm
      exact absurd hm (Nat.not_lt_zero _)
    | succ n13 ih13 =>
      intro k f3_c13 γ ψ H locs ls pf3_c13 v0 hm hP hS hl
      refine lv_iload_n hx hb dX2_nameNewcomer_13 rfl (lv_at hl 2 rfl) ?_
      refine lv_aload_n hx hb dX2_nameNewcomer_14 rfl (lv_at hl 1 rfl) ?_
      refine cgN_7_2 (v := (σ 7)) hx hb hts hinX6 hown hK hP (va_Nw.use rfl (hN.1 ("CensusDesk$Household", 56, "CensusDesk$Signs", "count", "I") (List.mem_of_getElem? (i := 14) rfl))) rfl dX2_nameNewcomer_15 ?_
      refine lv_icmp_ge (tgt := 74) hx hb dX2_nameNewcomer_18 (by decide) (fun c_1 => ?_) (fun c_1 => ?_)
      · have kc_1 := bI_le rfl rfl c_1
        subst eQ
        exact W.vret hx hb hr (fun t ht hW => ⟨⟨(σ, (up φ 3 f3_c13), γ, ψ), rfl, ⟨f3_c13, rfl, rfl, pf3_c13⟩, (by show va_P _ _ _ _; rw [ht]; exact hP)⟩, hS.F ht⟩) hS.2.2 dX2_nameNewcomer_74
      · have kc_1 := bI_nle rfl rfl c_1
        refine lv_iload_n hx hb dX2_nameNewcomer_21 rfl (lv_at hl 2 rfl) ?_
        refine lv_bipush (v := 30) hx hb dX2_nameNewcomer_22 (by decide) ?_
        refine lv_icmp_ge (tgt := 74) hx hb dX2_nameNewcomer_24 (by decide) (fun c_2 => ?_) (fun c_2 => ?_)
        · have kc_2 := bI_le L_30 rfl c_2
          subst eQ
          exact W.vret hx hb hr (fun t ht hW => ⟨⟨(σ, (up φ 3 f3_c13), γ, ψ), rfl, ⟨f3_c13, rfl, rfl, pf3_c13⟩, (by show va_P _ _ _ _; rw [ht]; exact hP)⟩, hS.F ht⟩) hS.2.2 dX2_nameNewcomer_74
        · have kc_2 := bI_nle L_30 rfl c_2
          refine lv_aload_n hx hb dX2_nameNewcomer_27 rfl (lv_at hl 0 rfl) ?_
          refine cg_8_12 (v := (σ 10)) hx hb hts hinX2 hown hK hP (hts (.fieldLink RX2 53 "CensusDesk$Household" "nameEnd" "I") (List.mem_of_getElem? (i := 2) rfl)) rfl dX2_nameNewcomer_28 ?_
          refine lv_iload_n hx hb dX2_nameNewcomer_31 rfl (lv_at hl 2 rfl) ?_
          refine lv_iadd hx hb dX2_nameNewcomer_32 ?_
          refine lv_topi (fun z_3 ez_3 => ?_)
          have tz_3 : (Int32.toInt z_3) = (Int32.toInt (σ 10)) + (Int32.toInt k) := aI_add rfl rfl ez_3 (by have := rng (σ 10); have := rng k; omega)
          refine lv_sipush (v := 4000) hx hb dX2_nameNewcomer_33 (by decide) ?_
          refine lv_icmp_ge (tgt := 74) hx hb dX2_nameNewcomer_36 (by decide) (fun c_4 => ?_) (fun c_4 => ?_)
          · have kc_4 := bI_le L_4000 rfl c_4
            subst eQ
            exact W.vret hx hb hr (fun t ht hW => ⟨⟨(σ, (up φ 3 f3_c13), γ, ψ), rfl, ⟨f3_c13, rfl, rfl, pf3_c13⟩, (by show va_P _ _ _ _; rw [ht]; exact hP)⟩, hS.F ht⟩) hS.2.2 dX2_nameNewcomer_74
          · have kc_4 := bI_nle L_4000 rfl c_4
            refine lv_aload_n hx hb dX2_nameNewcomer_39 rfl (lv_at hl 0 rfl) ?_
            refine cg_8_5 hx hb hts hinX2 hown hK hP (hts (.fieldLink RX2 29 "CensusDesk$Household" "names" "[B") (List.mem_of_getElem? (i := 3) rfl)) dX2_nameNewcomer_40 ?_
            refine lv_aload_n hx hb dX2_nameNewcomer_43 rfl (lv_at hl 0 rfl) ?_
            refine cg_8_12 (v := (σ 10)) hx hb hts hinX2 hown hK hP (hts (.fieldLink RX2 53 "CensusDesk$Household" "nameEnd" "I") (List.mem_of_getElem? (i := 2) rfl)) rfl dX2_nameNewcomer_44 ?_
            refine lv_iload_n hx hb dX2_nameNewcomer_47 rfl (lv_at hl 2 rfl) ?_
            refine lv_iadd hx hb dX2_nameNewcomer_48 ?_
            refine lv_topi (fun z_5 ez_5 => ?_)
            have tz_5 : (Int32.toInt z_5) = (Int32.toInt (σ 10)) + (Int32.toInt k) := aI_add rfl rfl ez_5 (by have := rng (σ 10); have := rng k; omega)
            refine lv_aload_n hx hb dX2_nameNewcomer_49 rfl (lv_at hl 1 rfl) ?_
            refine lv_iload_n hx hb dX2_nameNewcomer_50 rfl (lv_at hl 2 rfl) ?_
            refine c_calli (va_runV (As := [.int k]) (rest := [.int z_5, .ref (a 45)]) ⟨hx, hb, hml, hown, hts⟩ (c_X6_at l dC dI a κ σ (up φ 3 f3_c13) γ ψ g1 g2 k ) (cwV 1 hts gX2_nameNewcomer_X6_at rfl rfl rfl ⟨rfl, hd_X6_at⟩ ⟨Nat.le_of_ble_eq_true rfl, Nat.le_of_ble_eq_true rfl⟩) (cPreV hP hK hI hN hX hS (va_recv hK hP (ci := 6) (q0 := 7) rfl rfl)) rfl rfl hl.1 rfl (lv_room (Nat.le_of_ble_eq_true rfl)) dX2_nameNewcomer_51 ⟨(by decide +kernel), (by decide +kernel)⟩) hS ?_
            clear hP hS; intro r_6 S_6 F_6 γ_6 ψ_6 H locs hw hP hS
            obtain ⟨rfl, rfl, -⟩ := hw
            obtain ⟨z_7, ez_7⟩ : ∃ z : Int32, (Int32.toInt8 r_6).toInt32 = z := ⟨_, rfl⟩
            refine lv_i2b (v := z_7) hx hb dX2_nameNewcomer_54 ez_7 ?_
            refine cs_45 (f := (ψ_6 24)) hx hb hK hP hI hS (i := z_5) (x := z_7) (vin rfl (by omega)) rfl dX2_nameNewcomer_55 ?_
            clear hP hS; intro H locs hP hS
            obtain ⟨f_8, ef_8⟩ : ∃ z : Nat → Int32, z = upd (ψ_6 24) (Int32.toNatClampNeg z_5) (vp_nar .byte z_7) := ⟨_, rfl⟩
            rw [← ef_8] at hP
            refine lv_aload_n hx hb dX2_nameNewcomer_56 rfl (lv_at hl 0 rfl) ?_
            refine cg_8_4 hx hb hts hinX2 hown hK hP (hts (.fieldLink RX2 26 "CensusDesk$Household" "nameLength" "[I") (List.mem_of_getElem? (i := 4) rfl)) dX2_nameNewcomer_57 ?_
            refine lv_aload_n hx hb dX2_nameNewcomer_60 rfl (lv_at hl 0 rfl) ?_
            refine cg_8_11 (v := (σ 9)) hx hb hts hinX2 hown hK hP (hts (.fieldLink RX2 50 "CensusDesk$Household" "persons" "I") (List.mem_of_getElem? (i := 1) rfl)) rfl dX2_nameNewcomer_61 ?_
            refine lv_iload_n hx hb dX2_nameNewcomer_64 rfl (lv_at hl 2 rfl) ?_
            refine lv_iconst (v := 1) hx hb dX2_nameNewcomer_65 (by decide) ?_
            refine lv_iadd hx hb dX2_nameNewcomer_66 ?_
            refine lv_topi (fun z_9 ez_9 => ?_)
            have tz_9 : (Int32.toInt z_9) = (Int32.toInt k) + 1 := aI_add rfl L_1 ez_9 (by have := rng k; omega)
            refine cs_44 (f := f3_c13) hx hb hK hP hI hS (i := (σ 9)) (x := z_9) (vin rfl (by omega)) rfl dX2_nameNewcomer_67 ?_
            clear hP hS; intro H locs hP hS
            obtain ⟨f_10, ef_10⟩ : ∃ z : Nat → Int32, z = upd f3_c13 (Int32.toNatClampNeg (σ 9)) z_9 := ⟨_, rfl⟩
            rw [← ef_10] at hP
            have pf_10 : PtR 0 30 f_10 := pf3_c13.set ef_10 (by omega) (by omega)
            obtain ⟨i_11, ei_11⟩ : ∃ z : Int32, z = k + 1 := ⟨_, rfl⟩
            refine lv_iinc (v := i_11) (lv' := [(2, .int i_11), (0, .ref (a 8)), (1, .ref (a 7))]) hx hb dX2_nameNewcomer_68 hl (k := 2) rfl (by rw [ei_11]; rfl) (by decide) rfl ?_
            clear hl; intro ls hl
            have ti_11 : (Int32.toInt i_11) = (Int32.toInt k) + 1 := aI_add rfl L_1 ei_11 (by have := rng k; have := rng (σ 7); omega)
            refine lv_goto (tgt := 13) hx hb dX2_nameNewcomer_71 (by decide) ?_
            exact ih13 i_11 f_10 γ_6 (up ψ_6 24 f_8) _ _ _ pf_10 (show 0 ≤ (Int32.toInt i_11) ∧ (Int32.toInt (σ 9)) < 2000 from (by omega)) (by omega) hP hS (lv_sub hl [1, 2, 0] rfl)
  refine lv_aload_n hx hb dX2_nameNewcomer_0 rfl (lv_at hl 0 rfl) ?_
  refine cg_8_11 (v := (σ 9)) hx hb hts hinX2 hown hK hP (hts (.fieldLink RX2 50 "CensusDesk$Household" "persons" "I") (List.mem_of_getElem? (i := 1) rfl)) rfl dX2_nameNewcomer_1 ?_
  refine lv_sipush (v := 2000) hx hb dX2_nameNewcomer_4 (by decide) ?_
  refine lv_icmp_lt (tgt := 11) hx hb dX2_nameNewcomer_7 (by decide) (fun c_12 => ?_) (fun c_12 => ?_)
  · have kc_12 := bI_lt rfl L_2000 c_12
    refine lv_iconst (v := 0) hx hb dX2_nameNewcomer_11 (by decide) ?_
    refine lv_istore_n (lv' := [(2, .int 0), (0, .ref (a 8)), (1, .ref (a 7))]) hx hb dX2_nameNewcomer_12 rfl hl (by decide) rfl ?_
    clear hl; intro ls hl
    exact J13 (_ + 1) 0 (φ 3) γ ψ _ _ _ p_hh_nameLength (show 0 ≤ (Int32.toInt 0) ∧ (Int32.toInt (σ 9)) < 2000 from (by have := L_0; omega)) (Nat.lt_succ_self _) hP hS (lv_sub hl [1, 2, 0] rfl)
  · have kc_12 := bI_nlt rfl L_2000 c_12
    subst eQ
    exact W.vret hx hb hr (fun t ht hW => ⟨⟨(σ, (up φ 3 (φ 3)), γ, ψ), rfl, ⟨(φ 3), rfl, rfl, p_hh_nameLength⟩, (by show va_P _ _ _ _; rw [ht]; exact hP)⟩, hS.F ht⟩) hS.2.2 dX2_nameNewcomer_10
set_option maxHeartbeats 4000000 in
set_option maxRecDepth 100000 in
theorem c_X2_describeNewcomer (l : Launch) (dC : Nat → ClassId) (dI : Nat → Nat → Nat) (a : Nat → Nat) (κ : Nat → ClassId) (σ : Nat → Int32) (φ : Nat → Nat → Int32) (γ : Nat → Int32) (ψ : Nat → Nat → Int32) (g1 g2 : Nat) (itsSex : Int32) (itsAge : Int32) (itsTrade : Int32) (p_hh_sex : PtR (-1) 1 (φ 4)) (hp : 0 ≤ (Int32.toInt (σ 9)) ∧ (Int32.toInt (σ 9)) ≤ 2000 ∧ 0 ≤ (Int32.toInt (σ 10)) ∧ (Int32.toInt (σ 10)) ≤ 30 * (Int32.toInt (σ 9))) (hs : -1 ≤ (Int32.toInt itsSex) ∧ (Int32.toInt itsSex) ≤ 1) : Met l yX2_describeNewcomer wsX2_describeNewcomer ({ frames := 0, cells := 0, slots := 0, locals := 0 } : Room) (va_Pc [.ref (a 8), .int itsSex, .int itsAge, .int itsTrade] (cPre dC dI a κ (σ, φ, γ, ψ) g1 g2)) (va_Qv (QV (fun S F => ∃ (f4 : Nat → Int32), σ = S ∧ (up φ 4 f4) = F ∧ PtR (-1) 1 f4)) (cB dC dI a κ) (cA a)) 0 0 (cA a) := by
  refine Met.ofW (cc := cX2_describeNewcomer) (maxL := 4) (ret := none) (by decide) rfl ?_
  intro p e s m args below meth c s₁ B hml hv
  obtain ⟨rfl, hP, hK, hI, hN, hX⟩ := hv
  have hx := B.exec
  have hb := B.bytes
  have hr := B.returns
  have hts := atoms_spec (ws := wsX2_describeNewcomer) B.pre
  have hown : s.vm.findClass RX2 = some m.cls := findClass_of_methodNamed B.named
  have hlocks := B.notSynchronized
  have hS : va_S (cA a) s.heap s.heap [] := va_S.rf
  have hinX2 : ∀ w ∈ wsX20, w ∈ wsX2_describeNewcomer := fun _ h => List.mem_cons_of_mem _ (List.mem_append_right _ h)
  have hl := lv_entry ([.ref (a 8), .int itsSex, .int itsAge, .int itsTrade]) (n := 4) (Nat.le_of_ble_eq_true rfl)
  rw [lg_entry_eq]
  generalize (lg_sl ([.ref (a 8), .int itsSex, .int itsAge, .int itsTrade]) ++ List.replicate (4 - (lg_sl ([.ref (a 8), .int itsSex, .int itsAge, .int itsTrade])).length) Slot.unset).toArray = ls at hl ⊢
  have hl : lv_has ls 4 [(0, .ref (a 8)), (1, .int itsSex), (2, .int itsAge), (3, .int itsTrade)] := hl
  refine lv_aload_n hx hb dX2_describeNewcomer_0 rfl (lv_at hl 0 rfl) ?_
  refine cg_8_11 (v := (σ 9)) hx hb hts hinX2 hown hK hP (hts (.fieldLink RX2 50 "CensusDesk$Household" "persons" "I") (List.mem_of_getElem? (i := 1) rfl)) rfl dX2_describeNewcomer_1 ?_
  refine lv_sipush (v := 2000) hx hb dX2_describeNewcomer_4 (by decide) ?_
  refine lv_icmp_lt (tgt := 11) hx hb dX2_describeNewcomer_7 (by decide) (fun c_1 => ?_) (fun c_1 => ?_)
  · have kc_1 := bI_lt rfl L_2000 c_1
    refine lv_aload_n hx hb dX2_describeNewcomer_11 rfl (lv_at hl 0 rfl) ?_
    refine cg_8_0 hx hb hts hinX2 hown hK hP (hts (.fieldLink RX2 13 "CensusDesk$Household" "sex" "[I") (List.mem_of_getElem? (i := 2) rfl)) dX2_describeNewcomer_12 ?_
    refine lv_aload_n hx hb dX2_describeNewcomer_15 rfl (lv_at hl 0 rfl) ?_
    refine cg_8_11 (v := (σ 9)) hx hb hts hinX2 hown hK hP (hts (.fieldLink RX2 50 "CensusDesk$Household" "persons" "I") (List.mem_of_getElem? (i := 1) rfl)) rfl dX2_describeNewcomer_16 ?_
    refine lv_iload_n hx hb dX2_describeNewcomer_19 rfl (lv_at hl 1 rfl) ?_
    refine cs_40 (f := (φ 4)) hx hb hK hP hI hS (i := (σ 9)) (x := itsSex) (vin rfl (by omega)) rfl dX2_describeNewcomer_20 ?_
    clear hP hS; intro H locs hP hS
    obtain ⟨f_2, ef_2⟩ : ∃ z : Nat → Int32, z = upd (φ 4) (Int32.toNatClampNeg (σ 9)) itsSex := ⟨_, rfl⟩
    rw [← ef_2] at hP
    have pf_2 : PtR (-1) 1 f_2 := p_hh_sex.set ef_2 (by omega) (by omega)
    refine lv_aload_n hx hb dX2_describeNewcomer_21 rfl (lv_at hl 0 rfl) ?_
    refine cg_8_1 hx hb hts hinX2 hown hK hP (hts (.fieldLink RX2 17 "CensusDesk$Household" "age" "[I") (List.mem_of_getElem? (i := 3) rfl)) dX2_describeNewcomer_22 ?_
    refine lv_aload_n hx hb dX2_describeNewcomer_25 rfl (lv_at hl 0 rfl) ?_
    refine cg_8_11 (v := (σ 9)) hx hb hts hinX2 hown hK hP (hts (.fieldLink RX2 50 "CensusDesk$Household" "persons" "I") (List.mem_of_getElem? (i := 1) rfl)) rfl dX2_describeNewcomer_26 ?_
    refine lv_iload_n hx hb dX2_describeNewcomer_29 rfl (lv_at hl 2 rfl) ?_
    refine cs_41 (f := (ψ 21)) hx hb hK hP hI hS (i := (σ 9)) (x := itsAge) (vin rfl (by omega)) rfl dX2_describeNewcomer_30 ?_
    clear hP hS; intro H locs hP hS
    obtain ⟨f_3, ef_3⟩ : ∃ z : Nat → Int32, z = upd (ψ 21) (Int32.toNatClampNeg (σ 9)) itsAge := ⟨_, rfl⟩
    rw [← ef_3] at hP
    refine lv_aload_n hx hb dX2_describeNewcomer_31 rfl (lv_at hl 0 rfl) ?_
    refine cg_8_2 hx hb hts hinX2 hown hK hP (hts (.fieldLink RX2 20 "CensusDesk$Household" "trade" "[I") (List.mem_of_getElem? (i := 4) rfl)) dX2_describeNewcomer_32 ?_
    refine lv_aload_n hx hb dX2_describeNewcomer_35 rfl (lv_at hl 0 rfl) ?_
    refine cg_8_11 (v := (σ 9)) hx hb hts hinX2 hown hK hP (hts (.fieldLink RX2 50 "CensusDesk$Household" "persons" "I") (List.mem_of_getElem? (i := 1) rfl)) rfl dX2_describeNewcomer_36 ?_
    refine lv_iload_n hx hb dX2_describeNewcomer_39 rfl (lv_at hl 3 rfl) ?_
    refine cs_42 (f := (ψ 22)) hx hb hK hP hI hS (i := (σ 9)) (x := itsTrade) (vin rfl (by omega)) rfl dX2_describeNewcomer_40 ?_
    clear hP hS; intro H locs hP hS
    obtain ⟨f_4, ef_4⟩ : ∃ z : Nat → Int32, z = upd (ψ 22) (Int32.toNatClampNeg (σ 9)) itsTrade := ⟨_, rfl⟩
    rw [← ef_4] at hP
    exact W.vret hx hb hr (fun t ht hW => ⟨⟨(σ, (up φ 4 f_2), γ, (up (up ψ 21 f_3) 22 f_4)), rfl, ⟨f_2, rfl, rfl, pf_2⟩, (by show va_P _ _ _ _; rw [ht]; exact hP)⟩, hS.F ht⟩) hS.2.2 dX2_describeNewcomer_41
  · have kc_1 := bI_nlt rfl L_2000 c_1
    exact W.vret hx hb hr (fun t ht hW => ⟨⟨(σ, (up φ 4 (φ 4)), γ, ψ), rfl, ⟨(φ 4), rfl, rfl, p_hh_sex⟩, (by show va_P _ _ _ _; rw [ht]; exact hP)⟩, hS.F ht⟩) hS.2.2 dX2_describeNewcomer_10
set_option maxHeartbeats 4000000 in
set_option maxRecDepth 100000 in
theorem c_X2_signOf (l : Launch) (dC : Nat → ClassId) (dI : Nat → Nat → Nat) (a : Nat → Nat) (κ : Nat → ClassId) (σ : Nat → Int32) (φ : Nat → Nat → Int32) (γ : Nat → Int32) (ψ : Nat → Nat → Int32) (g1 g2 : Nat) (i : Int32) (k : Int32) : Met l yX2_signOf wsX2_signOf ({ frames := 0, cells := 0, slots := 0, locals := 0 } : Room) (va_Pc [.ref (a 8), .int i, .int k] (cPre dC dI a κ (σ, φ, γ, ψ) g1 g2)) (va_Qi (QI (fun r S F => σ = S ∧ φ = F ∧ True)) (cB dC dI a κ) (cA a)) 0 0 (cA a) := by
  refine Met.ofW (cc := cX2_signOf) (maxL := 4) (ret := (some .int)) (by decide) rfl ?_
  intro p e s m args below meth c s₁ B hml hv
  obtain ⟨rfl, hP, hK, hI, hN, hX⟩ := hv
  have hx := B.exec
  have hb := B.bytes
  have hr := B.returns
  have hts := atoms_spec (ws := wsX2_signOf) B.pre
  have hown : s.vm.findClass RX2 = some m.cls := findClass_of_methodNamed B.named
  have hlocks := B.notSynchronized
  have hS : va_S (cA a) s.heap s.heap [] := va_S.rf
  have hinX2 : ∀ w ∈ wsX20, w ∈ wsX2_signOf := fun _ h => List.mem_cons_of_mem _ (List.mem_append_right _ h)
  have hl := lv_entry ([.ref (a 8), .int i, .int k]) (n := 4) (Nat.le_of_ble_eq_true rfl)
  rw [lg_entry_eq]
  generalize (lg_sl ([.ref (a 8), .int i, .int k]) ++ List.replicate (4 - (lg_sl ([.ref (a 8), .int i, .int k])).length) Slot.unset).toArray = ls at hl ⊢
  have hl : lv_has ls 4 [(0, .ref (a 8)), (1, .int i), (2, .int k)] := hl
  refine lv_iload_n hx hb dX2_signOf_0 rfl (lv_at hl 1 rfl) ?_
  refine lv_if_lt (tgt := 25) hx hb dX2_signOf_1 (by decide) (fun c_1 => ?_) (fun c_1 => ?_)
  · have kc_1 := bI_lt rfl L_0 c_1
    refine lv_iconst (v := 0) hx hb dX2_signOf_25 (by decide) ?_
    exact W.iret (v := 0) hx hb hr (fun t ht hW => ⟨⟨0, (σ, φ, γ, ψ), rfl, ⟨rfl, rfl, trivial⟩, (by show va_P _ _ _ _; rw [ht]; exact hP)⟩, hS.F ht⟩) hS.2.2 dX2_signOf_26
  · have kc_1 := bI_nlt rfl L_0 c_1
    refine lv_iload_n hx hb dX2_signOf_4 rfl (lv_at hl 1 rfl) ?_
    refine lv_sipush (v := 2000) hx hb dX2_signOf_5 (by decide) ?_
    refine lv_icmp_ge (tgt := 25) hx hb dX2_signOf_8 (by decide) (fun c_2 => ?_) (fun c_2 => ?_)
    · have kc_2 := bI_le L_2000 rfl c_2
      refine lv_iconst (v := 0) hx hb dX2_signOf_25 (by decide) ?_
      exact W.iret (v := 0) hx hb hr (fun t ht hW => ⟨⟨0, (σ, φ, γ, ψ), rfl, ⟨rfl, rfl, trivial⟩, (by show va_P _ _ _ _; rw [ht]; exact hP)⟩, hS.F ht⟩) hS.2.2 dX2_signOf_26
    · have kc_2 := bI_nle L_2000 rfl c_2
      refine lv_iload_n hx hb dX2_signOf_11 rfl (lv_at hl 2 rfl) ?_
      refine lv_if_lt (tgt := 25) hx hb dX2_signOf_12 (by decide) (fun c_3 => ?_) (fun c_3 => ?_)
      · have kc_3 := bI_lt rfl L_0 c_3
        refine lv_iconst (v := 0) hx hb dX2_signOf_25 (by decide) ?_
        exact W.iret (v := 0) hx hb hr (fun t ht hW => ⟨⟨0, (σ, φ, γ, ψ), rfl, ⟨rfl, rfl, trivial⟩, (by show va_P _ _ _ _; rw [ht]; exact hP)⟩, hS.F ht⟩) hS.2.2 dX2_signOf_26
      · have kc_3 := bI_nlt rfl L_0 c_3
        refine lv_iload_n hx hb dX2_signOf_15 rfl (lv_at hl 2 rfl) ?_
        refine lv_aload_n hx hb dX2_signOf_16 rfl (lv_at hl 0 rfl) ?_
        refine cg_8_4 hx hb hts hinX2 hown hK hP (hts (.fieldLink RX2 26 "CensusDesk$Household" "nameLength" "[I") (List.mem_of_getElem? (i := 1) rfl)) dX2_signOf_17 ?_
        refine lv_iload_n hx hb dX2_signOf_20 rfl (lv_at hl 1 rfl) ?_
        refine cl_44 (f := (φ 3)) hx hb hK hP (i := i) (vin rfl (by omega)) rfl dX2_signOf_21 ?_
        refine lv_topi (fun z_4 ez_4 => ?_)
        have tz_4 : (Int32.toInt z_4) = Int32.toInt ((φ 3) (Int32.toNatClampNeg i)) := congrArg Int32.toInt ez_4
        refine lv_icmp_lt (tgt := 27) hx hb dX2_signOf_22 (by decide) (fun c_5 => ?_) (fun c_5 => ?_)
        · have kc_5 := bI_lt rfl rfl c_5
          refine lv_aload_n hx hb dX2_signOf_27 rfl (lv_at hl 0 rfl) ?_
          refine cg_8_3 hx hb hts hinX2 hown hK hP (hts (.fieldLink RX2 23 "CensusDesk$Household" "nameStart" "[I") (List.mem_of_getElem? (i := 2) rfl)) dX2_signOf_28 ?_
          refine lv_iload_n hx hb dX2_signOf_31 rfl (lv_at hl 1 rfl) ?_
          refine cl_43 (f := (ψ 23)) hx hb hK hP (i := i) (vin rfl (by omega)) rfl dX2_signOf_32 ?_
          refine lv_topi (fun z_6 ez_6 => ?_)
          refine lv_iload_n hx hb dX2_signOf_33 rfl (lv_at hl 2 rfl) ?_
          refine lv_iadd hx hb dX2_signOf_34 ?_
          refine lv_topi (fun z_7 ez_7 => ?_)
          refine lv_istore_n (lv' := [(3, .int z_7), (0, .ref (a 8)), (1, .int i), (2, .int k)]) hx hb dX2_signOf_35 rfl hl (by decide) rfl ?_
          clear hl; intro ls hl
          refine lv_iload_n hx hb dX2_signOf_36 rfl (lv_at hl 0 rfl) ?_
          refine lv_if_lt (tgt := 60) hx hb dX2_signOf_37 (by decide) (fun c_8 => ?_) (fun c_8 => ?_)
          · have kc_8 := bI_lt rfl L_0 c_8
            refine lv_iconst (v := 0) hx hb dX2_signOf_60 (by decide) ?_
            exact W.iret (v := 0) hx hb hr (fun t ht hW => ⟨⟨0, (σ, φ, γ, ψ), rfl, ⟨rfl, rfl, trivial⟩, (by show va_P _ _ _ _; rw [ht]; exact hP)⟩, hS.F ht⟩) hS.2.2 dX2_signOf_61
          · have kc_8 := bI_nlt rfl L_0 c_8
            refine lv_iload_n hx hb dX2_signOf_40 rfl (lv_at hl 0 rfl) ?_
            refine lv_sipush (v := 4000) hx hb dX2_signOf_41 (by decide) ?_
            refine lv_icmp_ge (tgt := 60) hx hb dX2_signOf_44 (by decide) (fun c_9 => ?_) (fun c_9 => ?_)
            · have kc_9 := bI_le L_4000 rfl c_9
              refine lv_iconst (v := 0) hx hb dX2_signOf_60 (by decide) ?_
              exact W.iret (v := 0) hx hb hr (fun t ht hW => ⟨⟨0, (σ, φ, γ, ψ), rfl, ⟨rfl, rfl, trivial⟩, (by show va_P _ _ _ _; rw [ht]; exact hP)⟩, hS.F ht⟩) hS.2.2 dX2_signOf_61
            · have kc_9 := bI_nle L_4000 rfl c_9
              refine lv_aload_n hx hb dX2_signOf_47 rfl (lv_at hl 1 rfl) ?_
              refine cg_8_5 hx hb hts hinX2 hown hK hP (hts (.fieldLink RX2 29 "CensusDesk$Household" "names" "[B") (List.mem_of_getElem? (i := 3) rfl)) dX2_signOf_48 ?_
              refine lv_iload_n hx hb dX2_signOf_51 rfl (lv_at hl 0 rfl) ?_
              refine cl_45 (f := (ψ 24)) hx hb hK hP (i := z_7) (vin rfl (by omega)) rfl dX2_signOf_52 ?_
              refine lv_topi (fun z_10 ez_10 => ?_)
              refine lv_sipush (v := 255) hx hb dX2_signOf_53 (by decide) ?_
              refine lv_iand hx hb dX2_signOf_56 ?_
              refine lv_topi (fun z_11 ez_11 => ?_)
              refine lv_goto (tgt := 61) hx hb dX2_signOf_57 (by decide) ?_
              exact W.iret (v := z_11) hx hb hr (fun t ht hW => ⟨⟨z_11, (σ, φ, γ, ψ), rfl, ⟨rfl, rfl, trivial⟩, (by show va_P _ _ _ _; rw [ht]; exact hP)⟩, hS.F ht⟩) hS.2.2 dX2_signOf_61
        · have kc_5 := bI_nlt rfl rfl c_5
          refine lv_iconst (v := 0) hx hb dX2_signOf_25 (by decide) ?_
          exact W.iret (v := 0) hx hb hr (fun t ht hW => ⟨⟨0, (σ, φ, γ, ψ), rfl, ⟨rfl, rfl, trivial⟩, (by show va_P _ _ _ _; rw [ht]; exact hP)⟩, hS.F ht⟩) hS.2.2 dX2_signOf_26
set_option maxHeartbeats 4000000 in
set_option maxRecDepth 100000 in
theorem c_X2_hasNewcomersName (l : Launch) (dC : Nat → ClassId) (dI : Nat → Nat → Nat) (a : Nat → Nat) (κ : Nat → ClassId) (σ : Nat → Int32) (φ : Nat → Nat → Int32) (γ : Nat → Int32) (ψ : Nat → Nat → Int32) (g1 g2 : Nat) (i : Int32) (p_hh_nameLength : PtR 0 30 (φ 3)) (hp : 0 ≤ (Int32.toInt (σ 9)) ∧ (Int32.toInt (σ 9)) ≤ 2000 ∧ 0 ≤ (Int32.toInt (σ 10)) ∧ (Int32.toInt (σ 10)) ≤ 30 * (Int32.toInt (σ 9))) (hi : 0 ≤ (Int32.toInt i) ∧ (Int32.toInt i) < 2000 ∧ (Int32.toInt (σ 9)) < 2000) : Met l yX2_hasNewcomersName wsX2_hasNewcomersName ({ frames := 1, cells := 0, slots := 0, locals := 23 } : Room) (va_Pc [.ref (a 8), .int i] (cPre dC dI a κ (σ, φ, γ, ψ) g1 g2)) (va_Qi (QI (fun r S F => σ = S ∧ φ = F ∧ True)) (cB dC dI a κ) (cA a)) 0 0 (cA a) := by
  refine Met.ofW (cc := cX2_hasNewcomersName) (maxL := 3) (ret := (some .boolean)) (by decide) rfl ?_
  intro p e s m args below meth c s₁ B hml hv
  obtain ⟨rfl, hP, hK, hI, hN, hX⟩ := hv
  have hx := B.exec
  have hb := B.bytes
  have hr := B.returns
  have hts := atoms_spec (ws := wsX2_hasNewcomersName) B.pre
  have hown : s.vm.findClass RX2 = some m.cls := findClass_of_methodNamed B.named
  have hlocks := B.notSynchronized
  have hS : va_S (cA a) s.heap s.heap [] := va_S.rf
  have hinX2 : ∀ w ∈ wsX20, w ∈ wsX2_hasNewcomersName := fun _ h => List.mem_cons_of_mem _ (List.mem_append_right _ h)
  have hl := lv_entry ([.ref (a 8), .int i]) (n := 3) (Nat.le_of_ble_eq_true rfl)
  rw [lg_entry_eq]
  generalize (lg_sl ([.ref (a 8), .int i]) ++ List.replicate (3 - (lg_sl ([.ref (a 8), .int i])).length) Slot.unset).toArray = ls at hl ⊢
  have hl : lv_has ls 3 [(0, .ref (a 8)), (1, .int i)] := hl
  refine k_gen (fun QQ eQ => ?_)
  have J22 : ∀ (n22 : Nat), ∀ (k : Int32) (γ : Nat → Int32) (ψ : Nat → Nat → Int32) (H : Heap) (locs : List Loc) (ls : Array Slot), (0 ≤ (Int32.toInt k)) → ((30 - (Int32.toInt k)).toNat < n22) → va_P (dC, dI) vwCl (cw a κ (σ, φ, γ, ψ)) H → va_S (cA a) s.heap H locs → lv_has ls 3 [(0, .ref (a 8)), (1, .int i), (2, .int k)] → W p l e ({ frames := 1, cells := 0, slots := 0, locals := 23 } : Room) s m ([.ref (a 8), .int i] : List Value).toArray below meth c H locs 0 0 QQ (F0 m 22 ls []) := by
    intro n22
    induction n22 with
    | zero =>
      intro k γ ψ H locs ls v0 hm
      exact absurd hm (Nat.not_lt_zero _)
    | succ n22 ih22 =>
      intro k γ ψ H locs ls v0 hm hP hS hl
      refine lv_iload_n hx hb dX2_hasNewcomersName_22 rfl (lv_at hl 2 rfl) ?_
      refine lv_aload_n hx hb dX2_hasNewcomersName_23 rfl (lv_at hl 0 rfl) ?_
      refine cg_8_4 hx hb hts hinX2 hown hK hP (hts (.fieldLink RX2 26 "CensusDesk$Household" "nameLength" "[I") (List.mem_of_getElem? (i := 1) rfl)) dX2_hasNewcomersName_24 ?_
      refine lv_iload_n hx hb dX2_hasNewcomersName_27 rfl (lv_at hl 1 rfl) ?_
      refine cl_44 (f := (φ 3)) hx hb hK hP (i := i) (vin rfl (by omega)) rfl dX2_hasNewcomersName_28 ?_
      refine lv_topi (fun z_1 ez_1 => ?_)
      have tz_1 : (Int32.toInt z_1) = Int32.toInt ((φ 3) (Int32.toNatClampNeg i)) := congrArg Int32.toInt ez_1
      have pz_1 : 0 ≤ (Int32.toInt z_1) ∧ (Int32.toInt z_1) ≤ 30 := p_hh_nameLength.of ez_1
      refine lv_icmp_ge (tgt := 58) hx hb dX2_hasNewcomersName_29 (by decide) (fun c_2 => ?_) (fun c_2 => ?_)
      · have kc_2 := bI_le rfl rfl c_2
        refine lv_iconst (v := 1) hx hb dX2_hasNewcomersName_58 (by decide) ?_
        subst eQ
        exact W.zret (v := 1) hx hb hr (by first | rfl | decide) (fun t ht hW => ⟨⟨1, (σ, φ, γ, ψ), rfl, ⟨rfl, rfl, trivial⟩, (by show va_P _ _ _ _; rw [ht]; exact hP)⟩, hS.F ht⟩) hS.2.2 dX2_hasNewcomersName_59
      · have kc_2 := bI_nle rfl rfl c_2
        refine lv_aload_n hx hb dX2_hasNewcomersName_32 rfl (lv_at hl 0 rfl) ?_
        refine lv_iload_n hx hb dX2_hasNewcomersName_33 rfl (lv_at hl 1 rfl) ?_
        refine lv_iload_n hx hb dX2_hasNewcomersName_34 rfl (lv_at hl 2 rfl) ?_
        refine c_calli (va_runV (As := [.int i, .int k]) (rest := []) ⟨hx, hb, hml, hown, hts⟩ (c_X2_signOf l dC dI a κ σ φ γ ψ g1 g2 i k ) (cwV 2 hts gX2_hasNewcomersName_X2_signOf rfl rfl rfl ⟨rfl, hd_X2_signOf⟩ ⟨Nat.le_of_ble_eq_true rfl, Nat.le_of_ble_eq_true rfl⟩) (cPreV hP hK hI hN hX hS (va_recv hK hP (ci := 2) (q0 := 8) rfl rfl)) rfl rfl hl.1 rfl (lv_room (Nat.le_of_ble_eq_true rfl)) dX2_hasNewcomersName_35 ⟨(by decide +kernel), (by decide +kernel)⟩) hS ?_
        clear hP hS; intro r_3 S_3 F_3 γ_3 ψ_3 H locs hw hP hS
        obtain ⟨rfl, rfl, -⟩ := hw
        refine lv_aload_n hx hb dX2_hasNewcomersName_38 rfl (lv_at hl 0 rfl) ?_
        refine lv_aload_n hx hb dX2_hasNewcomersName_39 rfl (lv_at hl 0 rfl) ?_
        refine cg_8_11 (v := (σ 9)) hx hb hts hinX2 hown hK hP (hts (.fieldLink RX2 50 "CensusDesk$Household" "persons" "I") (List.mem_of_getElem? (i := 2) rfl)) rfl dX2_hasNewcomersName_40 ?_
        refine lv_iload_n hx hb dX2_hasNewcomersName_43 rfl (lv_at hl 2 rfl) ?_
        refine c_calli (va_runV (As := [.int (σ 9), .int k]) (rest := [.int r_3]) ⟨hx, hb, hml, hown, hts⟩ (c_X2_signOf l dC dI a κ σ φ γ_3 ψ_3 g1 g2 (σ 9) k ) (cwV 2 hts gX2_hasNewcomersName_X2_signOf rfl rfl rfl ⟨rfl, hd_X2_signOf⟩ ⟨Nat.le_of_ble_eq_true rfl, Nat.le_of_ble_eq_true rfl⟩) (cPreV hP hK hI hN hX hS (va_recv hK hP (ci := 2) (q0 := 8) rfl rfl)) rfl rfl hl.1 rfl (lv_room (Nat.le_of_ble_eq_true rfl)) dX2_hasNewcomersName_44 ⟨(by decide +kernel), (by decide +kernel)⟩) hS ?_
        clear hP hS; intro r_4 S_4 F_4 γ_4 ψ_4 H locs hw hP hS
        obtain ⟨rfl, rfl, -⟩ := hw
        refine lv_icmp_eq (tgt := 52) hx hb dX2_hasNewcomersName_47 (by decide) (fun c_5 => ?_) (fun c_5 => ?_)
        · have kc_5 := bI_eq rfl rfl c_5
          obtain ⟨i_6, ei_6⟩ : ∃ z : Int32, z = k + 1 := ⟨_, rfl⟩
          refine lv_iinc (v := i_6) (lv' := [(2, .int i_6), (0, .ref (a 8)), (1, .int i)]) hx hb dX2_hasNewcomersName_52 hl (k := 2) rfl (by rw [ei_6]; rfl) (by decide) rfl ?_
          clear hl; intro ls hl
          have ti_6 : (Int32.toInt i_6) = (Int32.toInt k) + 1 := aI_add rfl L_1 ei_6 (by have := rng k; have := rng z_1; omega)
          refine lv_goto (tgt := 22) hx hb dX2_hasNewcomersName_55 (by decide) ?_
          exact ih22 i_6 γ_4 ψ_4 _ _ _ (show 0 ≤ (Int32.toInt i_6) from (by omega)) (by omega) hP hS (lv_sub hl [1, 2, 0] rfl)
        · have kc_5 := bI_ne rfl rfl c_5
          refine lv_iconst (v := 0) hx hb dX2_hasNewcomersName_50 (by decide) ?_
          subst eQ
          exact W.zret (v := 0) hx hb hr (by first | rfl | decide) (fun t ht hW => ⟨⟨0, (σ, φ, γ_4, ψ_4), rfl, ⟨rfl, rfl, trivial⟩, (by show va_P _ _ _ _; rw [ht]; exact hP)⟩, hS.F ht⟩) hS.2.2 dX2_hasNewcomersName_51
  refine lv_aload_n hx hb dX2_hasNewcomersName_0 rfl (lv_at hl 0 rfl) ?_
  refine cg_8_4 hx hb hts hinX2 hown hK hP (hts (.fieldLink RX2 26 "CensusDesk$Household" "nameLength" "[I") (List.mem_of_getElem? (i := 1) rfl)) dX2_hasNewcomersName_1 ?_
  refine lv_iload_n hx hb dX2_hasNewcomersName_4 rfl (lv_at hl 1 rfl) ?_
  refine cl_44 (f := (φ 3)) hx hb hK hP (i := i) (vin rfl (by omega)) rfl dX2_hasNewcomersName_5 ?_
  refine lv_topi (fun z_7 ez_7 => ?_)
  have tz_7 : (Int32.toInt z_7) = Int32.toInt ((φ 3) (Int32.toNatClampNeg i)) := congrArg Int32.toInt ez_7
  have pz_7 : 0 ≤ (Int32.toInt z_7) ∧ (Int32.toInt z_7) ≤ 30 := p_hh_nameLength.of ez_7
  refine lv_aload_n hx hb dX2_hasNewcomersName_6 rfl (lv_at hl 0 rfl) ?_
  refine cg_8_4 hx hb hts hinX2 hown hK hP (hts (.fieldLink RX2 26 "CensusDesk$Household" "nameLength" "[I") (List.mem_of_getElem? (i := 1) rfl)) dX2_hasNewcomersName_7 ?_
  refine lv_aload_n hx hb dX2_hasNewcomersName_10 rfl (lv_at hl 0 rfl) ?_
  refine cg_8_11 (v := (σ 9)) hx hb hts hinX2 hown hK hP (hts (.fieldLink RX2 50 "CensusDesk$Household" "persons" "I") (List.mem_of_getElem? (i := 2) rfl)) rfl dX2_hasNewcomersName_11 ?_
  refine cl_44 (f := (φ 3)) hx hb hK hP (i := (σ 9)) (vin rfl (by omega)) rfl dX2_hasNewcomersName_14 ?_
  refine lv_topi (fun z_8 ez_8 => ?_)
  have tz_8 : (Int32.toInt z_8) = Int32.toInt ((φ 3) (Int32.toNatClampNeg (σ 9))) := congrArg Int32.toInt ez_8
  have pz_8 : 0 ≤ (Int32.toInt z_8) ∧ (Int32.toInt z_8) ≤ 30 := p_hh_nameLength.of ez_8
  refine lv_icmp_eq (tgt := 20) hx hb dX2_hasNewcomersName_15 (by decide) (fun c_9 => ?_) (fun c_9 => ?_)
  · have kc_9 := bI_eq rfl rfl c_9
    refine lv_iconst (v := 0) hx hb dX2_hasNewcomersName_20 (by decide) ?_
    refine lv_istore_n (lv' := [(2, .int 0), (0, .ref (a 8)), (1, .int i)]) hx hb dX2_hasNewcomersName_21 rfl hl (by decide) rfl ?_
    clear hl; intro ls hl
    exact J22 (_ + 1) 0 γ ψ _ _ _ (show 0 ≤ (Int32.toInt 0) from (by have := L_0; omega)) (Nat.lt_succ_self _) hP hS (lv_sub hl [1, 2, 0] rfl)
  · have kc_9 := bI_ne rfl rfl c_9
    refine lv_iconst (v := 0) hx hb dX2_hasNewcomersName_18 (by decide) ?_
    subst eQ
    exact W.zret (v := 0) hx hb hr (by first | rfl | decide) (fun t ht hW => ⟨⟨0, (σ, φ, γ, ψ), rfl, ⟨rfl, rfl, trivial⟩, (by show va_P _ _ _ _; rw [ht]; exact hP)⟩, hS.F ht⟩) hS.2.2 dX2_hasNewcomersName_19
set_option maxHeartbeats 4000000 in
set_option maxRecDepth 100000 in
theorem c_X2_hasLikeOfNewcomer (l : Launch) (dC : Nat → ClassId) (dI : Nat → Nat → Nat) (a : Nat → Nat) (κ : Nat → ClassId) (σ : Nat → Int32) (φ : Nat → Nat → Int32) (γ : Nat → Int32) (ψ : Nat → Nat → Int32) (g1 g2 : Nat)  (p_hh_nameLength : PtR 0 30 (φ 3)) (hp : 0 ≤ (Int32.toInt (σ 9)) ∧ (Int32.toInt (σ 9)) ≤ 2000 ∧ 0 ≤ (Int32.toInt (σ 10)) ∧ (Int32.toInt (σ 10)) ≤ 30 * (Int32.toInt (σ 9))) : Met l yX2_hasLikeOfNewcomer wsX2_hasLikeOfNewcomer ({ frames := 2, cells := 0, slots := 0, locals := 45 } : Room) (va_Pc [.ref (a 8)] (cPre dC dI a κ (σ, φ, γ, ψ) g1 g2)) (va_Qi (QI (fun r S F => σ = S ∧ φ = F ∧ True)) (cB dC dI a κ) (cA a)) 0 0 (cA a) := by
  refine Met.ofW (cc := cX2_hasLikeOfNewcomer) (maxL := 2) (ret := (some .boolean)) (by decide) rfl ?_
  intro p e s m args below meth c s₁ B hml hv
  obtain ⟨rfl, hP, hK, hI, hN, hX⟩ := hv
  have hx := B.exec
  have hb := B.bytes
  have hr := B.returns
  have hts := atoms_spec (ws := wsX2_hasLikeOfNewcomer) B.pre
  have hown : s.vm.findClass RX2 = some m.cls := findClass_of_methodNamed B.named
  have hlocks := B.notSynchronized
  have hS : va_S (cA a) s.heap s.heap [] := va_S.rf
  have hinX2 : ∀ w ∈ wsX20, w ∈ wsX2_hasLikeOfNewcomer := fun _ h => List.mem_cons_of_mem _ (List.mem_append_right _ h)
  have hl := lv_entry ([.ref (a 8)]) (n := 2) (Nat.le_of_ble_eq_true rfl)
  rw [lg_entry_eq]
  generalize (lg_sl ([.ref (a 8)]) ++ List.replicate (2 - (lg_sl ([.ref (a 8)])).length) Slot.unset).toArray = ls at hl ⊢
  have hl : lv_has ls 2 [(0, .ref (a 8))] := hl
  refine k_gen (fun QQ eQ => ?_)
  have J41 : ∀ (n41 : Nat), ∀ (i : Int32) (γ : Nat → Int32) (ψ : Nat → Nat → Int32) (H : Heap) (locs : List Loc) (ls : Array Slot), (0 ≤ (Int32.toInt i) ∧ (Int32.toInt (σ 9)) < 2000) → (((Int32.toInt (σ 9)) - (Int32.toInt i)).toNat < n41) → va_P (dC, dI) vwCl (cw a κ (σ, φ, γ, ψ)) H → va_S (cA a) s.heap H locs → lv_has ls 2 [(0, .ref (a 8)), (1, .int i)] → W p l e ({ frames := 2, cells := 0, slots := 0, locals := 45 } : Room) s m ([.ref (a 8)] : List Value).toArray below meth c H locs 0 0 QQ (F0 m 41 ls []) := by
    intro n41
    induction n41 with
    | zero =>
      intro i γ ψ H locs ls v0 hm
      exact absurd hm (Nat.not_lt_zero _)
    | succ n41 ih41 =>
      intro i γ ψ H locs ls v0 hm hP hS hl
      refine lv_iload_n hx hb dX2_hasLikeOfNewcomer_41 rfl (lv_at hl 1 rfl) ?_
      refine lv_aload_n hx hb dX2_hasLikeOfNewcomer_42 rfl (lv_at hl 0 rfl) ?_
      refine cg_8_11 (v := (σ 9)) hx hb hts hinX2 hown hK hP (hts (.fieldLink RX2 50 "CensusDesk$Household" "persons" "I") (List.mem_of_getElem? (i := 1) rfl)) rfl dX2_hasLikeOfNewcomer_43 ?_
      refine lv_icmp_ge (tgt := 83) hx hb dX2_hasLikeOfNewcomer_46 (by decide) (fun c_1 => ?_) (fun c_1 => ?_)
      · have kc_1 := bI_le rfl rfl c_1
        refine lv_iconst (v := 0) hx hb dX2_hasLikeOfNewcomer_83 (by decide) ?_
        subst eQ
        exact W.zret (v := 0) hx hb hr (by first | rfl | decide) (fun t ht hW => ⟨⟨0, (σ, φ, γ, ψ), rfl, ⟨rfl, rfl, trivial⟩, (by show va_P _ _ _ _; rw [ht]; exact hP)⟩, hS.F ht⟩) hS.2.2 dX2_hasLikeOfNewcomer_84
      · have kc_1 := bI_nle rfl rfl c_1
        refine lv_aload_n hx hb dX2_hasLikeOfNewcomer_49 rfl (lv_at hl 0 rfl) ?_
        refine cg_8_1 hx hb hts hinX2 hown hK hP (hts (.fieldLink RX2 17 "CensusDesk$Household" "age" "[I") (List.mem_of_getElem? (i := 3) rfl)) dX2_hasLikeOfNewcomer_50 ?_
        refine lv_iload_n hx hb dX2_hasLikeOfNewcomer_53 rfl (lv_at hl 1 rfl) ?_
        refine cl_41 (f := (ψ 21)) hx hb hK hP (i := i) (vin rfl (by omega)) rfl dX2_hasLikeOfNewcomer_54 ?_
        refine lv_topi (fun z_2 ez_2 => ?_)
        refine lv_aload_n hx hb dX2_hasLikeOfNewcomer_55 rfl (lv_at hl 0 rfl) ?_
        refine cg_8_1 hx hb hts hinX2 hown hK hP (hts (.fieldLink RX2 17 "CensusDesk$Household" "age" "[I") (List.mem_of_getElem? (i := 3) rfl)) dX2_hasLikeOfNewcomer_56 ?_
        refine lv_aload_n hx hb dX2_hasLikeOfNewcomer_59 rfl (lv_at hl 0 rfl) ?_
        refine cg_8_11 (v := (σ 9)) hx hb hts hinX2 hown hK hP (hts (.fieldLink RX2 50 "CensusDesk$Household" "persons" "I") (List.mem_of_getElem? (i := 1) rfl)) rfl dX2_hasLikeOfNewcomer_60 ?_
        refine cl_41 (f := (ψ 21)) hx hb hK hP (i := (σ 9)) (vin rfl (by omega)) rfl dX2_hasLikeOfNewcomer_63 ?_
        refine lv_topi (fun z_3 ez_3 => ?_)
        refine lv_icmp_ne (tgt := 77) hx hb dX2_hasLikeOfNewcomer_64 (by decide) (fun c_4 => ?_) (fun c_4 => ?_)
        · have kc_4 := bI_ne rfl rfl c_4
          obtain ⟨i_5, ei_5⟩ : ∃ z : Int32, z = i + 1 := ⟨_, rfl⟩
          refine lv_iinc (v := i_5) (lv' := [(1, .int i_5), (0, .ref (a 8))]) hx hb dX2_hasLikeOfNewcomer_77 hl (k := 1) rfl (by rw [ei_5]; rfl) (by decide) rfl ?_
          clear hl; intro ls hl
          have ti_5 : (Int32.toInt i_5) = (Int32.toInt i) + 1 := aI_add rfl L_1 ei_5 (by have := rng i; have := rng (σ 9); omega)
          refine lv_goto (tgt := 41) hx hb dX2_hasLikeOfNewcomer_80 (by decide) ?_
          exact ih41 i_5 γ ψ _ _ _ (show 0 ≤ (Int32.toInt i_5) ∧ (Int32.toInt (σ 9)) < 2000 from (by omega)) (by omega) hP hS (lv_sub hl [1, 0] rfl)
        · have kc_4 := bI_eq rfl rfl c_4
          refine lv_aload_n hx hb dX2_hasLikeOfNewcomer_67 rfl (lv_at hl 0 rfl) ?_
          refine lv_iload_n hx hb dX2_hasLikeOfNewcomer_68 rfl (lv_at hl 1 rfl) ?_
          refine c_calli (va_runV (As := [.int i]) (rest := []) ⟨hx, hb, hml, hown, hts⟩ (c_X2_hasNewcomersName l dC dI a κ σ φ γ ψ g1 g2 i p_hh_nameLength (show 0 ≤ (Int32.toInt (σ 9)) ∧ (Int32.toInt (σ 9)) ≤ 2000 ∧ 0 ≤ (Int32.toInt (σ 10)) ∧ (Int32.toInt (σ 10)) ≤ 30 * (Int32.toInt (σ 9)) from (by omega)) (show 0 ≤ (Int32.toInt i) ∧ (Int32.toInt i) < 2000 ∧ (Int32.toInt (σ 9)) < 2000 from (by omega))) (cwV 1 hts gX2_hasLikeOfNewcomer_X2_hasNewcomersName rfl rfl rfl ⟨rfl, hd_X2_hasNewcomersName⟩ ⟨Nat.le_of_ble_eq_true rfl, Nat.le_of_ble_eq_true rfl⟩) (cPreV hP hK hI hN hX hS (va_recv hK hP (ci := 2) (q0 := 8) rfl rfl)) rfl rfl hl.1 rfl (lv_room (Nat.le_of_ble_eq_true rfl)) dX2_hasLikeOfNewcomer_69 ⟨(by decide +kernel), (by decide +kernel)⟩) hS ?_
          clear hP hS; intro r_6 S_6 F_6 γ_6 ψ_6 H locs hw hP hS
          obtain ⟨rfl, rfl, -⟩ := hw
          refine lv_if_eq (tgt := 77) hx hb dX2_hasLikeOfNewcomer_72 (by decide) (fun c_7 => ?_) (fun c_7 => ?_)
          · have kc_7 := bI_eq rfl L_0 c_7
            obtain ⟨i_8, ei_8⟩ : ∃ z : Int32, z = i + 1 := ⟨_, rfl⟩
            refine lv_iinc (v := i_8) (lv' := [(1, .int i_8), (0, .ref (a 8))]) hx hb dX2_hasLikeOfNewcomer_77 hl (k := 1) rfl (by rw [ei_8]; rfl) (by decide) rfl ?_
            clear hl; intro ls hl
            have ti_8 : (Int32.toInt i_8) = (Int32.toInt i) + 1 := aI_add rfl L_1 ei_8 (by have := rng i; have := rng (σ 9); omega)
            refine lv_goto (tgt := 41) hx hb dX2_hasLikeOfNewcomer_80 (by decide) ?_
            exact ih41 i_8 γ_6 ψ_6 _ _ _ (show 0 ≤ (Int32.toInt i_8) ∧ (Int32.toInt (σ 9)) < 2000 from (by omega)) (by omega) hP hS (lv_sub hl [1, 0] rfl)
          · have kc_7 := bI_ne rfl L_0 c_7
            refine lv_iconst (v := 1) hx hb dX2_hasLikeOfNewcomer_75 (by decide) ?_
            subst eQ
            exact W.zret (v := 1) hx hb hr (by first | rfl | decide) (fun t ht hW => ⟨⟨1, (σ, φ, γ_6, ψ_6), rfl, ⟨rfl, rfl, trivial⟩, (by show va_P _ _ _ _; rw [ht]; exact hP)⟩, hS.F ht⟩) hS.2.2 dX2_hasLikeOfNewcomer_76
  refine lv_aload_n hx hb dX2_hasLikeOfNewcomer_0 rfl (lv_at hl 0 rfl) ?_
  refine cg_8_11 (v := (σ 9)) hx hb hts hinX2 hown hK hP (hts (.fieldLink RX2 50 "CensusDesk$Household" "persons" "I") (List.mem_of_getElem? (i := 1) rfl)) rfl dX2_hasLikeOfNewcomer_1 ?_
  refine lv_sipush (v := 2000) hx hb dX2_hasLikeOfNewcomer_4 (by decide) ?_
  refine lv_icmp_lt (tgt := 12) hx hb dX2_hasLikeOfNewcomer_7 (by decide) (fun c_9 => ?_) (fun c_9 => ?_)
  · have kc_9 := bI_lt rfl L_2000 c_9
    refine lv_aload_n hx hb dX2_hasLikeOfNewcomer_12 rfl (lv_at hl 0 rfl) ?_
    refine cg_8_4 hx hb hts hinX2 hown hK hP (hts (.fieldLink RX2 26 "CensusDesk$Household" "nameLength" "[I") (List.mem_of_getElem? (i := 2) rfl)) dX2_hasLikeOfNewcomer_13 ?_
    refine lv_aload_n hx hb dX2_hasLikeOfNewcomer_16 rfl (lv_at hl 0 rfl) ?_
    refine cg_8_11 (v := (σ 9)) hx hb hts hinX2 hown hK hP (hts (.fieldLink RX2 50 "CensusDesk$Household" "persons" "I") (List.mem_of_getElem? (i := 1) rfl)) rfl dX2_hasLikeOfNewcomer_17 ?_
    refine cl_44 (f := (φ 3)) hx hb hK hP (i := (σ 9)) (vin rfl (by omega)) rfl dX2_hasLikeOfNewcomer_20 ?_
    refine lv_topi (fun z_10 ez_10 => ?_)
    have tz_10 : (Int32.toInt z_10) = Int32.toInt ((φ 3) (Int32.toNatClampNeg (σ 9))) := congrArg Int32.toInt ez_10
    have pz_10 : 0 ≤ (Int32.toInt z_10) ∧ (Int32.toInt z_10) ≤ 30 := p_hh_nameLength.of ez_10
    refine lv_if_eq (tgt := 37) hx hb dX2_hasLikeOfNewcomer_21 (by decide) (fun c_11 => ?_) (fun c_11 => ?_)
    · have kc_11 := bI_eq rfl L_0 c_11
      refine lv_iconst (v := 0) hx hb dX2_hasLikeOfNewcomer_37 (by decide) ?_
      subst eQ
      exact W.zret (v := 0) hx hb hr (by first | rfl | decide) (fun t ht hW => ⟨⟨0, (σ, φ, γ, ψ), rfl, ⟨rfl, rfl, trivial⟩, (by show va_P _ _ _ _; rw [ht]; exact hP)⟩, hS.F ht⟩) hS.2.2 dX2_hasLikeOfNewcomer_38
    · have kc_11 := bI_ne rfl L_0 c_11
      refine lv_aload_n hx hb dX2_hasLikeOfNewcomer_24 rfl (lv_at hl 0 rfl) ?_
      refine cg_8_1 hx hb hts hinX2 hown hK hP (hts (.fieldLink RX2 17 "CensusDesk$Household" "age" "[I") (List.mem_of_getElem? (i := 3) rfl)) dX2_hasLikeOfNewcomer_25 ?_
      refine lv_aload_n hx hb dX2_hasLikeOfNewcomer_28 rfl (lv_at hl 0 rfl) ?_
      refine cg_8_11 (v := (σ 9)) hx hb hts hinX2 hown hK hP (hts (.fieldLink RX2 50 "CensusDesk$Household" "persons" "I") (List.mem_of_getElem? (i := 1) rfl)) rfl dX2_hasLikeOfNewcomer_29 ?_
      refine cl_41 (f := (ψ 21)) hx hb hK hP (i := (σ 9)) (vin rfl (by omega)) rfl dX2_hasLikeOfNewcomer_32 ?_
      refine lv_topi (fun z_12 ez_12 => ?_)
      refine lv_iconst (v := (-1)) hx hb dX2_hasLikeOfNewcomer_33 (by decide) ?_
      refine lv_icmp_ne (tgt := 39) hx hb dX2_hasLikeOfNewcomer_34 (by decide) (fun c_13 => ?_) (fun c_13 => ?_)
      · have kc_13 := bI_ne rfl L_m1 c_13
        refine lv_iconst (v := 0) hx hb dX2_hasLikeOfNewcomer_39 (by decide) ?_
        refine lv_istore_n (lv' := [(1, .int 0), (0, .ref (a 8))]) hx hb dX2_hasLikeOfNewcomer_40 rfl hl (by decide) rfl ?_
        clear hl; intro ls hl
        exact J41 (_ + 1) 0 γ ψ _ _ _ (show 0 ≤ (Int32.toInt 0) ∧ (Int32.toInt (σ 9)) < 2000 from (by have := L_0; omega)) (Nat.lt_succ_self _) hP hS (lv_sub hl [1, 0] rfl)
      · have kc_13 := bI_eq rfl L_m1 c_13
        refine lv_iconst (v := 0) hx hb dX2_hasLikeOfNewcomer_37 (by decide) ?_
        subst eQ
        exact W.zret (v := 0) hx hb hr (by first | rfl | decide) (fun t ht hW => ⟨⟨0, (σ, φ, γ, ψ), rfl, ⟨rfl, rfl, trivial⟩, (by show va_P _ _ _ _; rw [ht]; exact hP)⟩, hS.F ht⟩) hS.2.2 dX2_hasLikeOfNewcomer_38
  · have kc_9 := bI_nlt rfl L_2000 c_9
    refine lv_iconst (v := 0) hx hb dX2_hasLikeOfNewcomer_10 (by decide) ?_
    subst eQ
    exact W.zret (v := 0) hx hb hr (by first | rfl | decide) (fun t ht hW => ⟨⟨0, (σ, φ, γ, ψ), rfl, ⟨rfl, rfl, trivial⟩, (by show va_P _ _ _ _; rw [ht]; exact hP)⟩, hS.F ht⟩) hS.2.2 dX2_hasLikeOfNewcomer_11
