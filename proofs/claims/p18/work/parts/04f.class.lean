set_option maxHeartbeats 4000000 in
set_option maxRecDepth 100000 in
theorem c_X0_write (l : Launch) (dC : Nat → ClassId) (dI : Nat → Nat → Nat) (a : Nat → Nat) (κ : Nat → ClassId) (σ : Nat → Int32) (φ : Nat → Nat → Int32) (γ : Nat → Int32) (ψ : Nat → Nat → Int32) (g1 g2 : Nat) (takenAhead : Int32) (personsAhead : Int32) (p_hh_sex : PtR (-1) 1 (φ 4)) (p_book_personFacts0 : PtR (-1) 1 (φ 6)) (hb : 0 ≤ (Int32.toInt (σ 11)) ∧ (Int32.toInt (σ 11)) ≤ 60 ∧ 0 ≤ (Int32.toInt (σ 12)) ∧ (Int32.toInt (σ 12)) ≤ 300) (hbs : BS (σ 11) (σ 12) (σ 13) (σ 14) (σ 15) (φ 5) (φ 6) (φ 7)) (hbp : BP (σ 11) (σ 12) takenAhead personsAhead (φ 5)) (ht : 0 ≤ (Int32.toInt takenAhead) ∧ (Int32.toInt takenAhead) ≤ 4000 ∧ 0 ≤ (Int32.toInt personsAhead) ∧ (Int32.toInt personsAhead) ≤ 8000000) (hp : 0 ≤ (Int32.toInt (σ 9)) ∧ (Int32.toInt (σ 9)) ≤ 2000 ∧ 0 ≤ (Int32.toInt (σ 10)) ∧ (Int32.toInt (σ 10)) ≤ 30 * (Int32.toInt (σ 9))) : Met l yX0_write wsX0_write ({ frames := 2, cells := 0, slots := 0, locals := 48 } : Room) (va_Pc [.ref (a 4), .ref (a 8), .int takenAhead, .int personsAhead] (cPre dC dI a κ (σ, φ, γ, ψ) g1 g2)) (va_Qv (QV (fun S F => ∃ (f5 : Nat → Int32) (f6 : Nat → Int32) (f7 : Nat → Int32), σ = S ∧ (up (up (up φ 5 f5) 6 f6) 7 f7) = F ∧ PtR (-1) 1 f6 ∧ (BS (σ 11) (σ 12) (σ 13) (σ 14) (σ 15) f5 f6 f7) ∧ (∀ (t q : Int32), t = takenAhead + 1 → q = personsAhead + (σ 9) → BP (σ 11) (σ 12) t q f5))) (cB dC dI a κ) (cA a)) 0 0 (cA a) := by
  refine Met.ofW (cc := cX0_write) (maxL := 7) (ret := none) (by decide) rfl ?_
  intro p e s m args below meth c s₁ B hml hv
  obtain ⟨rfl, hP, hK, hI, hN, hX⟩ := hv
  have hx := B.exec
  have hb := B.bytes
  have hr := B.returns
  have hts := atoms_spec (ws := wsX0_write) B.pre
  have hown : s.vm.findClass RX0 = some m.cls := findClass_of_methodNamed B.named
  have hlocks := B.notSynchronized
  have hS : va_S (cA a) s.heap s.heap [] := va_S.rf
  have hinX0 : ∀ w ∈ wsX00, w ∈ wsX0_write := fun _ h => List.mem_cons_of_mem _ (List.mem_append_left _ (List.mem_append_right _ h))
  have hinX2 : ∀ w ∈ wsX20, w ∈ wsX0_write := fun _ h => List.mem_cons_of_mem _ (List.mem_append_right _ h)
  have hl := lv_entry ([.ref (a 4), .ref (a 8), .int takenAhead, .int personsAhead]) (n := 7) (Nat.le_of_ble_eq_true rfl)
  rw [lg_entry_eq]
  generalize (lg_sl ([.ref (a 4), .ref (a 8), .int takenAhead, .int personsAhead]) ++ List.replicate (7 - (lg_sl ([.ref (a 4), .ref (a 8), .int takenAhead, .int personsAhead])).length) Slot.unset).toArray = ls at hl ⊢
  have hl : lv_has ls 7 [(0, .ref (a 4)), (1, .ref (a 8)), (2, .int takenAhead), (3, .int personsAhead)] := hl
  refine k_gen (fun QQ eQ => ?_)
  have J101 : ∀ (n101 : Nat), ∀ (row : Int32) (fp : Int32) (i : Int32) (f5_c101 : Nat → Int32) (f6_c101 : Nat → Int32) (f7_c101 : Nat → Int32) (γ : Nat → Int32) (ψ : Nat → Nat → Int32) (H : Heap) (locs : List Loc) (ls : Array Slot), (PtR (-1) 1 f6_c101) → (BS (σ 11) (σ 12) (σ 13) (σ 14) (σ 15) f5_c101 f6_c101 f7_c101) → (∀ (t q : Int32), t = takenAhead + 1 → q = personsAhead + (σ 9) → BP (σ 11) (σ 12) t q f5_c101) → (0 ≤ (Int32.toInt i) ∧ (Int32.toInt (σ 12)) ≤ (Int32.toInt fp) ∧ (Int32.toInt fp) ≤ 300) → (((Int32.toInt (σ 9)) - (Int32.toInt i)).toNat < n101) → va_P (dC, dI) vwCl (cw a κ (σ, (up (up (up φ 5 f5_c101) 6 f6_c101) 7 f7_c101), γ, ψ)) H → va_S (cA a) s.heap H locs → lv_has ls 7 [(0, .ref (a 4)), (1, .ref (a 8)), (4, .int row), (5, .int fp), (6, .int i)] → W p l e ({ frames := 2, cells := 0, slots := 0, locals := 48 } : Room) s m ([.ref (a 4), .ref (a 8), .int takenAhead, .int personsAhead] : List Value).toArray below meth c H locs 0 0 QQ (F0 m 101 ls []) := by
    intro n101
    induction n101 with
    | zero =>
      intro row fp i f5_c101 f6_c101 f7_c101 γ ψ H locs ls pf6_c101 vb vn v0 hm
      exact absurd hm (Nat.not_lt_zero _)
    | succ n101 ih101 =>
      intro row fp i f5_c101 f6_c101 f7_c101 γ ψ H locs ls pf6_c101 vb vn v0 hm hP hS hl
      refine lv_iload hx hb dX0_write_101 (lv_at hl 4 rfl) ?_
      refine lv_aload_n hx hb dX0_write_103 rfl (lv_at hl 1 rfl) ?_
      refine cgN_8_11 (v := (σ 9)) hx hb hts hinX2 hown hK hP (va_Nw.use rfl (hN.1 ("CensusDesk$Book", 36, "CensusDesk$Household", "persons", "I") (List.mem_of_getElem? (i := 26) rfl))) rfl dX0_write_104 ?_
      refine lv_icmp_ge (tgt := 138) hx hb dX0_write_107 (by decide) (fun c_1 => ?_) (fun c_1 => ?_)
      · have kc_1 := bI_le rfl rfl c_1
        subst eQ
        exact W.vret hx hb hr (fun t ht hW => ⟨⟨(σ, (up (up (up φ 5 f5_c101) 6 f6_c101) 7 f7_c101), γ, ψ), rfl, ⟨f5_c101, f6_c101, f7_c101, rfl, rfl, pf6_c101, (show BS (σ 11) (σ 12) (σ 13) (σ 14) (σ 15) f5_c101 f6_c101 f7_c101 from (by with_reducible assumption)), (show ∀ (t q : Int32), t = takenAhead + 1 → q = personsAhead + (σ 9) → BP (σ 11) (σ 12) t q f5_c101 from (by with_reducible assumption))⟩, (by show va_P _ _ _ _; rw [ht]; exact hP)⟩, hS.F ht⟩) hS.2.2 dX0_write_138
      · have kc_1 := bI_nle rfl rfl c_1
        refine lv_iload hx hb dX0_write_110 (lv_at hl 4 rfl) ?_
        refine lv_sipush (v := 2000) hx hb dX0_write_112 (by decide) ?_
        refine lv_icmp_ge (tgt := 138) hx hb dX0_write_115 (by decide) (fun c_2 => ?_) (fun c_2 => ?_)
        · have kc_2 := bI_le L_2000 rfl c_2
          subst eQ
          exact W.vret hx hb hr (fun t ht hW => ⟨⟨(σ, (up (up (up φ 5 f5_c101) 6 f6_c101) 7 f7_c101), γ, ψ), rfl, ⟨f5_c101, f6_c101, f7_c101, rfl, rfl, pf6_c101, (show BS (σ 11) (σ 12) (σ 13) (σ 14) (σ 15) f5_c101 f6_c101 f7_c101 from (by with_reducible assumption)), (show ∀ (t q : Int32), t = takenAhead + 1 → q = personsAhead + (σ 9) → BP (σ 11) (σ 12) t q f5_c101 from (by with_reducible assumption))⟩, (by show va_P _ _ _ _; rw [ht]; exact hP)⟩, hS.F ht⟩) hS.2.2 dX0_write_138
        · have kc_2 := bI_nle L_2000 rfl c_2
          refine lv_aload_n hx hb dX0_write_118 rfl (lv_at hl 0 rfl) ?_
          refine lv_aload_n hx hb dX0_write_119 rfl (lv_at hl 1 rfl) ?_
          refine lv_iload hx hb dX0_write_120 (lv_at hl 4 rfl) ?_
          refine lv_iload hx hb dX0_write_122 (lv_at hl 3 rfl) ?_
          refine lv_iload hx hb dX0_write_124 (lv_at hl 4 rfl) ?_
          refine lv_iadd hx hb dX0_write_126 ?_
          refine lv_topi (fun z_3 ez_3 => ?_)
          have tz_3 : (Int32.toInt z_3) = (Int32.toInt fp) + (Int32.toInt i) := aI_add rfl rfl ez_3 (by have := rng fp; have := rng i; omega)
          refine lv_iload hx hb dX0_write_127 (lv_at hl 2 rfl) ?_
          refine c_callv (va_runV (As := [.ref (a 8), .int i, .int z_3, .int row]) (rest := []) ⟨hx, hb, hml, hown, hts⟩ (c_X0_writePerson l dC dI a κ σ (up (up (up φ 5 f5_c101) 6 f6_c101) 7 f7_c101) γ ψ g1 g2 i z_3 row p_hh_sex pf6_c101 (show 0 ≤ (Int32.toInt (σ 11)) ∧ (Int32.toInt (σ 11)) ≤ 60 ∧ 0 ≤ (Int32.toInt (σ 12)) ∧ (Int32.toInt (σ 12)) ≤ 300 from (by omega)) (show BS (σ 11) (σ 12) (σ 13) (σ 14) (σ 15) f5_c101 f6_c101 f7_c101 from (by with_reducible assumption)) (show 0 ≤ (Int32.toInt i) ∧ (Int32.toInt i) < 2000 ∧ (Int32.toInt (σ 12)) ≤ (Int32.toInt z_3) from (by omega))) (cwV 4 hts gX0_write_X0_writePerson rfl rfl rfl ⟨rfl, hd_X0_writePerson⟩ ⟨Nat.le_of_ble_eq_true rfl, Nat.le_of_ble_eq_true rfl⟩) (cPreV hP hK hI hN hX hS (va_recv hK hP (ci := 0) (q0 := 4) rfl rfl)) rfl rfl hl.1 rfl (lv_room (Nat.le_of_ble_eq_true rfl)) dX0_write_129 ⟨(by decide +kernel), (by decide +kernel)⟩) hS ?_
          clear hP hS; intro S_4 F_4 γ_4 ψ_4 H locs hw hP hS
          obtain ⟨f6_4, f7_4, rfl, rfl, pf6_4, (qb_4 : BS (σ 11) (σ 12) (σ 13) (σ 14) (σ 15) f5_c101 f6_4 f7_4)⟩ := hw
          obtain ⟨i_5, ei_5⟩ : ∃ z : Int32, z = i + 1 := ⟨_, rfl⟩
          refine lv_iinc (v := i_5) (lv' := [(6, .int i_5), (0, .ref (a 4)), (1, .ref (a 8)), (4, .int row), (5, .int fp)]) hx hb dX0_write_132 hl (k := 4) rfl (by rw [ei_5]; rfl) (by decide) rfl ?_
          clear hl; intro ls hl
          have ti_5 : (Int32.toInt i_5) = (Int32.toInt i) + 1 := aI_add rfl L_1 ei_5 (by have := rng i; have := rng (σ 9); omega)
          refine lv_goto (tgt := 101) hx hb dX0_write_135 (by decide) ?_
          exact ih101 row fp i_5 f5_c101 f6_4 f7_4 γ_4 ψ_4 _ _ _ pf6_4 (show BS (σ 11) (σ 12) (σ 13) (σ 14) (σ 15) f5_c101 f6_4 f7_4 from (by with_reducible assumption)) (show ∀ (t q : Int32), t = takenAhead + 1 → q = personsAhead + (σ 9) → BP (σ 11) (σ 12) t q f5_c101 from (by with_reducible assumption)) (show 0 ≤ (Int32.toInt i_5) ∧ (Int32.toInt (σ 12)) ≤ (Int32.toInt fp) ∧ (Int32.toInt fp) ≤ 300 from (by omega)) (by omega) hP hS (lv_sub hl [1, 2, 3, 4, 0] rfl)
  refine lv_aload_n hx hb dX0_write_0 rfl (lv_at hl 0 rfl) ?_
  refine cg_4_4 (v := (σ 11)) hx hb hts hinX0 hown hK hP (hts (.fieldLink RX0 29 "CensusDesk$Book" "households" "I") (List.mem_of_getElem? (i := 1) rfl)) rfl dX0_write_1 ?_
  refine lv_iload_n hx hb dX0_write_4 rfl (lv_at hl 2 rfl) ?_
  refine lv_iadd hx hb dX0_write_5 ?_
  refine lv_topi (fun z_6 ez_6 => ?_)
  have tz_6 : (Int32.toInt z_6) = (Int32.toInt (σ 11)) + (Int32.toInt takenAhead) := aI_add rfl rfl ez_6 (by have := rng (σ 11); have := rng takenAhead; omega)
  refine lv_istore (lv' := [(4, .int z_6), (0, .ref (a 4)), (1, .ref (a 8)), (2, .int takenAhead), (3, .int personsAhead)]) hx hb dX0_write_6 hl (by decide) rfl ?_
  clear hl; intro ls hl
  refine lv_aload_n hx hb dX0_write_8 rfl (lv_at hl 1 rfl) ?_
  refine cg_4_5 (v := (σ 12)) hx hb hts hinX0 hown hK hP (hts (.fieldLink RX0 33 "CensusDesk$Book" "persons" "I") (List.mem_of_getElem? (i := 2) rfl)) rfl dX0_write_9 ?_
  refine lv_iload_n hx hb dX0_write_12 rfl (lv_at hl 4 rfl) ?_
  refine lv_iadd hx hb dX0_write_13 ?_
  refine lv_topi (fun z_7 ez_7 => ?_)
  have tz_7 : (Int32.toInt z_7) = (Int32.toInt (σ 12)) + (Int32.toInt personsAhead) := aI_add rfl rfl ez_7 (by have := rng (σ 12); have := rng personsAhead; omega)
  refine lv_istore (lv' := [(5, .int z_7), (4, .int z_6), (0, .ref (a 4)), (1, .ref (a 8)), (2, .int takenAhead), (3, .int personsAhead)]) hx hb dX0_write_14 hl (by decide) rfl ?_
  clear hl; intro ls hl
  refine lv_iload hx hb dX0_write_16 (lv_at hl 1 rfl) ?_
  refine lv_if_lt (tgt := 28) hx hb dX0_write_18 (by decide) (fun c_8 => ?_) (fun c_8 => ?_)
  · have kc_8 := bI_lt rfl L_0 c_8
    subst eQ
    exact W.vret hx hb hr (fun t ht hW => ⟨⟨(σ, (up (up (up φ 5 (φ 5)) 6 (φ 6)) 7 (φ 7)), γ, ψ), rfl, ⟨(φ 5), (φ 6), (φ 7), rfl, rfl, p_book_personFacts0, (show BS (σ 11) (σ 12) (σ 13) (σ 14) (σ 15) (φ 5) (φ 6) (φ 7) from (by with_reducible assumption)), (fun t q e1 e2 => BP.vac (by have t1 := aI_add rfl L_1 e1 (by omega); have t2 := aI_add rfl rfl e2 (by omega); omega))⟩, (by show va_P _ _ _ _; rw [ht]; exact hP)⟩, hS.F ht⟩) hS.2.2 dX0_write_28
  · have kc_8 := bI_nlt rfl L_0 c_8
    refine lv_iload hx hb dX0_write_21 (lv_at hl 1 rfl) ?_
    refine lv_bipush (v := 60) hx hb dX0_write_23 (by decide) ?_
    refine lv_icmp_lt (tgt := 29) hx hb dX0_write_25 (by decide) (fun c_9 => ?_) (fun c_9 => ?_)
    · have kc_9 := bI_lt rfl L_60 c_9
      refine lv_iload hx hb dX0_write_29 (lv_at hl 0 rfl) ?_
      refine lv_if_lt (tgt := 47) hx hb dX0_write_31 (by decide) (fun c_10 => ?_) (fun c_10 => ?_)
      · have kc_10 := bI_lt rfl L_0 c_10
        subst eQ
        exact W.vret hx hb hr (fun t ht hW => ⟨⟨(σ, (up (up (up φ 5 (φ 5)) 6 (φ 6)) 7 (φ 7)), γ, ψ), rfl, ⟨(φ 5), (φ 6), (φ 7), rfl, rfl, p_book_personFacts0, (show BS (σ 11) (σ 12) (σ 13) (σ 14) (σ 15) (φ 5) (φ 6) (φ 7) from (by with_reducible assumption)), (fun t q e1 e2 => BP.vac (by have t1 := aI_add rfl L_1 e1 (by omega); have t2 := aI_add rfl rfl e2 (by omega); omega))⟩, (by show va_P _ _ _ _; rw [ht]; exact hP)⟩, hS.F ht⟩) hS.2.2 dX0_write_47
      · have kc_10 := bI_nlt rfl L_0 c_10
        refine lv_iload hx hb dX0_write_34 (lv_at hl 0 rfl) ?_
        refine lv_aload_n hx hb dX0_write_36 rfl (lv_at hl 3 rfl) ?_
        refine cgN_8_11 (v := (σ 9)) hx hb hts hinX2 hown hK hP (va_Nw.use rfl (hN.1 ("CensusDesk$Book", 36, "CensusDesk$Household", "persons", "I") (List.mem_of_getElem? (i := 26) rfl))) rfl dX0_write_37 ?_
        refine lv_iadd hx hb dX0_write_40 ?_
        refine lv_topi (fun z_11 ez_11 => ?_)
        have tz_11 : (Int32.toInt z_11) = (Int32.toInt z_7) + (Int32.toInt (σ 9)) := aI_add rfl rfl ez_11 (by have := rng z_7; have := rng (σ 9); omega)
        refine lv_sipush (v := 300) hx hb dX0_write_41 (by decide) ?_
        refine lv_icmp_le (tgt := 48) hx hb dX0_write_44 (by decide) (fun c_12 => ?_) (fun c_12 => ?_)
        · have kc_12 := bI_le rfl L_300 c_12
          refine lv_aload_n hx hb dX0_write_48 rfl (lv_at hl 2 rfl) ?_
          refine cg_4_0 hx hb hts hinX0 hown hK hP (hts (.fieldLink RX0 13 "CensusDesk$Book" "householdFacts" "[[I") (List.mem_of_getElem? (i := 3) rfl)) dX0_write_49 ?_
          refine lv_iconst (v := 0) hx hb dX0_write_52 (by decide) ?_
          refine cr_21_0 hx hb hK hP dX0_write_53 ?_
          refine lv_iload hx hb dX0_write_54 (lv_at hl 1 rfl) ?_
          refine lv_aload_n hx hb dX0_write_56 rfl (lv_at hl 3 rfl) ?_
          refine cgN_8_9 (v := (γ 11)) hx hb hts hinX2 hown hK hP (va_Nw.use rfl (hN.1 ("CensusDesk$Book", 39, "CensusDesk$Household", "number", "I") (List.mem_of_getElem? (i := 22) rfl))) rfl dX0_write_57 ?_
          refine cs_22 (f := (ψ 10)) hx hb hK hP hI hS (i := z_6) (x := (γ 11)) (vin rfl (by omega)) rfl dX0_write_60 ?_
          clear hP hS; intro H locs hP hS
          obtain ⟨f_13, ef_13⟩ : ∃ z : Nat → Int32, z = upd (ψ 10) (Int32.toNatClampNeg z_6) (γ 11) := ⟨_, rfl⟩
          rw [← ef_13] at hP
          refine lv_aload_n hx hb dX0_write_61 rfl (lv_at hl 2 rfl) ?_
          refine cg_4_0 hx hb hts hinX0 hown hK hP (hts (.fieldLink RX0 13 "CensusDesk$Book" "householdFacts" "[[I") (List.mem_of_getElem? (i := 3) rfl)) dX0_write_62 ?_
          refine lv_iconst (v := 1) hx hb dX0_write_65 (by decide) ?_
          refine cr_21_1 hx hb hK hP dX0_write_66 ?_
          refine lv_iload hx hb dX0_write_67 (lv_at hl 1 rfl) ?_
          refine lv_aload_n hx hb dX0_write_69 rfl (lv_at hl 3 rfl) ?_
          refine cgN_8_10 (v := (γ 12)) hx hb hts hinX2 hown hK hP (va_Nw.use rfl (hN.1 ("CensusDesk$Book", 42, "CensusDesk$Household", "told", "I") (List.mem_of_getElem? (i := 24) rfl))) rfl dX0_write_70 ?_
          refine cs_23 (f := (ψ 11)) hx hb hK hP hI hS (i := z_6) (x := (γ 12)) (vin rfl (by omega)) rfl dX0_write_73 ?_
          clear hP hS; intro H locs hP hS
          obtain ⟨f_14, ef_14⟩ : ∃ z : Nat → Int32, z = upd (ψ 11) (Int32.toNatClampNeg z_6) (γ 12) := ⟨_, rfl⟩
          rw [← ef_14] at hP
          refine lv_aload_n hx hb dX0_write_74 rfl (lv_at hl 2 rfl) ?_
          refine cg_4_0 hx hb hts hinX0 hown hK hP (hts (.fieldLink RX0 13 "CensusDesk$Book" "householdFacts" "[[I") (List.mem_of_getElem? (i := 3) rfl)) dX0_write_75 ?_
          refine lv_iconst (v := 2) hx hb dX0_write_78 (by decide) ?_
          refine cr_21_2 hx hb hK hP dX0_write_79 ?_
          refine lv_iload hx hb dX0_write_80 (lv_at hl 1 rfl) ?_
          refine lv_aload_n hx hb dX0_write_82 rfl (lv_at hl 3 rfl) ?_
          refine cgN_8_11 (v := (σ 9)) hx hb hts hinX2 hown hK hP (va_Nw.use rfl (hN.1 ("CensusDesk$Book", 36, "CensusDesk$Household", "persons", "I") (List.mem_of_getElem? (i := 26) rfl))) rfl dX0_write_83 ?_
          refine cs_24 (f := (φ 5)) hx hb hK hP hI hS (i := z_6) (x := (σ 9)) (vin rfl (by omega)) rfl dX0_write_86 ?_
          clear hP hS; intro H locs hP hS
          obtain ⟨f_15, ef_15⟩ : ∃ z : Nat → Int32, z = upd (φ 5) (Int32.toNatClampNeg z_6) (σ 9) := ⟨_, rfl⟩
          rw [← ef_15] at hP
          have hbs : BS (σ 11) (σ 12) (σ 13) (σ 14) (σ 15) f_15 (φ 6) (φ 7) := hbs.f2 ef_15 (by omega) (by omega)
          have hbn : ∀ (t q : Int32), t = takenAhead + 1 → q = personsAhead + (σ 9) → BP (σ 11) (σ 12) t q f_15 := fun t q e1 e2 => hbp.step ez_6 ef_15 (by omega) e1 e2
          refine lv_aload_n hx hb dX0_write_87 rfl (lv_at hl 2 rfl) ?_
          refine cg_4_0 hx hb hts hinX0 hown hK hP (hts (.fieldLink RX0 13 "CensusDesk$Book" "householdFacts" "[[I") (List.mem_of_getElem? (i := 3) rfl)) dX0_write_88 ?_
          refine lv_iconst (v := 3) hx hb dX0_write_91 (by decide) ?_
          refine cr_21_3 hx hb hK hP dX0_write_92 ?_
          refine lv_iload hx hb dX0_write_93 (lv_at hl 1 rfl) ?_
          refine lv_iload hx hb dX0_write_95 (lv_at hl 0 rfl) ?_
          refine cs_25 (f := (ψ 12)) hx hb hK hP hI hS (i := z_6) (x := z_7) (vin rfl (by omega)) rfl dX0_write_97 ?_
          clear hP hS; intro H locs hP hS
          obtain ⟨f_16, ef_16⟩ : ∃ z : Nat → Int32, z = upd (ψ 12) (Int32.toNatClampNeg z_6) z_7 := ⟨_, rfl⟩
          rw [← ef_16] at hP
          refine lv_iconst (v := 0) hx hb dX0_write_98 (by decide) ?_
          refine lv_istore (lv' := [(6, .int 0), (5, .int z_7), (4, .int z_6), (0, .ref (a 4)), (1, .ref (a 8)), (2, .int takenAhead), (3, .int personsAhead)]) hx hb dX0_write_99 hl (by decide) rfl ?_
          clear hl; intro ls hl
          exact J101 (_ + 1) z_6 z_7 0 f_15 (φ 6) (φ 7) γ (up (up (up ψ 10 f_13) 11 f_14) 12 f_16) _ _ _ p_book_personFacts0 (show BS (σ 11) (σ 12) (σ 13) (σ 14) (σ 15) f_15 (φ 6) (φ 7) from (by with_reducible assumption)) (show ∀ (t q : Int32), t = takenAhead + 1 → q = personsAhead + (σ 9) → BP (σ 11) (σ 12) t q f_15 from (by with_reducible assumption)) (show 0 ≤ (Int32.toInt 0) ∧ (Int32.toInt (σ 12)) ≤ (Int32.toInt z_7) ∧ (Int32.toInt z_7) ≤ 300 from (by have := L_0; omega)) (Nat.lt_succ_self _) hP hS (lv_sub hl [3, 4, 2, 1, 0] rfl)
        · have kc_12 := bI_nle rfl L_300 c_12
          subst eQ
          exact W.vret hx hb hr (fun t ht hW => ⟨⟨(σ, (up (up (up φ 5 (φ 5)) 6 (φ 6)) 7 (φ 7)), γ, ψ), rfl, ⟨(φ 5), (φ 6), (φ 7), rfl, rfl, p_book_personFacts0, (show BS (σ 11) (σ 12) (σ 13) (σ 14) (σ 15) (φ 5) (φ 6) (φ 7) from (by with_reducible assumption)), (fun t q e1 e2 => BP.vac (by have t1 := aI_add rfl L_1 e1 (by omega); have t2 := aI_add rfl rfl e2 (by omega); omega))⟩, (by show va_P _ _ _ _; rw [ht]; exact hP)⟩, hS.F ht⟩) hS.2.2 dX0_write_47
    · have kc_9 := bI_nlt rfl L_60 c_9
      subst eQ
      exact W.vret hx hb hr (fun t ht hW => ⟨⟨(σ, (up (up (up φ 5 (φ 5)) 6 (φ 6)) 7 (φ 7)), γ, ψ), rfl, ⟨(φ 5), (φ 6), (φ 7), rfl, rfl, p_book_personFacts0, (show BS (σ 11) (σ 12) (σ 13) (σ 14) (σ 15) (φ 5) (φ 6) (φ 7) from (by with_reducible assumption)), (fun t q e1 e2 => BP.vac (by have t1 := aI_add rfl L_1 e1 (by omega); have t2 := aI_add rfl rfl e2 (by omega); omega))⟩, (by show va_P _ _ _ _; rw [ht]; exact hP)⟩, hS.F ht⟩) hS.2.2 dX0_write_28
set_option maxHeartbeats 4000000 in
set_option maxRecDepth 100000 in
theorem c_X0_countIn (l : Launch) (dC : Nat → ClassId) (dI : Nat → Nat → Nat) (a : Nat → Nat) (κ : Nat → ClassId) (σ : Nat → Int32) (φ : Nat → Nat → Int32) (γ : Nat → Int32) (ψ : Nat → Nat → Int32) (g1 g2 : Nat) (sex : Int32) (age : Int32) : Met l yX0_countIn wsX0_countIn ({ frames := 0, cells := 0, slots := 0, locals := 0 } : Room) (va_Pc [.ref (a 4), .int sex, .int age] (cPre dC dI a κ (σ, φ, γ, ψ) g1 g2)) (va_Qv (QV (fun S F => ∃ (s13 : Int32) (s14 : Int32) (s15 : Int32), (up (up (up σ 13 s13) 14 s14) 15 s15) = S ∧ φ = F ∧ (s13 = (σ 13) + (if sex = 0 then 1 else 0)) ∧ (s14 = (σ 14) + (if sex = 1 then 1 else 0)) ∧ (s15 = (σ 15) + (if age = -1 then 0 else age)))) (cB dC dI a κ) (cA a)) 0 0 (cA a) := by
  refine Met.ofW (cc := cX0_countIn) (maxL := 3) (ret := none) (by decide) rfl ?_
  intro p e s m args below meth c s₁ B hml hv
  obtain ⟨rfl, hP, hK, hI, hN, hX⟩ := hv
  have hx := B.exec
  have hb := B.bytes
  have hr := B.returns
  have hts := atoms_spec (ws := wsX0_countIn) B.pre
  have hown : s.vm.findClass RX0 = some m.cls := findClass_of_methodNamed B.named
  have hlocks := B.notSynchronized
  have hS : va_S (cA a) s.heap s.heap [] := va_S.rf
  have hinX0 : ∀ w ∈ wsX00, w ∈ wsX0_countIn := fun _ h => List.mem_cons_of_mem _ (List.mem_append_right _ h)
  have hl := lv_entry ([.ref (a 4), .int sex, .int age]) (n := 3) (Nat.le_of_ble_eq_true rfl)
  rw [lg_entry_eq]
  generalize (lg_sl ([.ref (a 4), .int sex, .int age]) ++ List.replicate (3 - (lg_sl ([.ref (a 4), .int sex, .int age])).length) Slot.unset).toArray = ls at hl ⊢
  have hl : lv_has ls 3 [(0, .ref (a 4)), (1, .int sex), (2, .int age)] := hl
  refine lv_iload_n hx hb dX0_countIn_0 rfl (lv_at hl 1 rfl) ?_
  refine lv_if_ne (tgt := 14) hx hb dX0_countIn_1 (by decide) (fun c_1 => ?_) (fun c_1 => ?_)
  · have kc_1 := bI_ne rfl L_0 c_1
    refine lv_iload_n hx hb dX0_countIn_14 rfl (lv_at hl 1 rfl) ?_
    refine lv_iconst (v := 1) hx hb dX0_countIn_15 (by decide) ?_
    refine lv_icmp_ne (tgt := 29) hx hb dX0_countIn_16 (by decide) (fun c_2 => ?_) (fun c_2 => ?_)
    · have kc_2 := bI_ne rfl L_1 c_2
      refine lv_iload_n hx hb dX0_countIn_29 rfl (lv_at hl 2 rfl) ?_
      refine lv_iconst (v := (-1)) hx hb dX0_countIn_30 (by decide) ?_
      refine lv_icmp_ne (tgt := 47) hx hb dX0_countIn_31 (by decide) (fun c_3 => ?_) (fun c_3 => ?_)
      · have kc_3 := bI_ne rfl L_m1 c_3
        refine lv_aload_n hx hb dX0_countIn_47 rfl (lv_at hl 0 rfl) ?_
        refine lv_dup hx hb dX0_countIn_48 rfl ?_
        refine cg_4_8 (v := (σ 15)) hx hb hts hinX0 hown hK hP (hts (.fieldLink RX0 78 "CensusDesk$Book" "ageSum" "I") (List.mem_of_getElem? (i := 4) rfl)) rfl dX0_countIn_49 ?_
        refine lv_iload_n hx hb dX0_countIn_52 rfl (lv_at hl 2 rfl) ?_
        refine lv_iadd hx hb dX0_countIn_53 ?_
        refine lv_topi (fun z_4 ez_4 => ?_)
        refine cp_4_8 (v := z_4) hx hb hts hinX0 hown hK hP hI hS (hts (.fieldLink RX0 78 "CensusDesk$Book" "ageSum" "I") (List.mem_of_getElem? (i := 4) rfl)) dX0_countIn_54 ?_
        clear hP hS; intro H locs hP hS
        exact W.vret hx hb hr (fun t ht hW => ⟨⟨((up (up (up σ 13 (σ 13)) 14 (σ 14)) 15 z_4), φ, γ, ψ), rfl, ⟨(σ 13), (σ 14), z_4, rfl, rfl, (by rw [if_neg c_1, Int32.add_zero]), (by rw [if_neg c_2, Int32.add_zero]), (by rw [if_neg c_3]; exact ez_4)⟩, (by show va_P _ _ _ _; rw [ht]; exact hP)⟩, hS.F ht⟩) hS.2.2 dX0_countIn_57
      · have kc_3 := bI_eq rfl L_m1 c_3
        refine lv_aload_n hx hb dX0_countIn_34 rfl (lv_at hl 0 rfl) ?_
        refine lv_dup hx hb dX0_countIn_35 rfl ?_
        refine cg_4_9 (v := (γ 0)) hx hb hts hinX0 hown hK hP (hts (.fieldLink RX0 75 "CensusDesk$Book" "agesMissing" "I") (List.mem_of_getElem? (i := 3) rfl)) rfl dX0_countIn_36 ?_
        refine lv_iconst (v := 1) hx hb dX0_countIn_39 (by decide) ?_
        refine lv_iadd hx hb dX0_countIn_40 ?_
        refine lv_topi (fun z_5 ez_5 => ?_)
        refine cp_4_9 (v := z_5) hx hb hts hinX0 hown hK hP hI hS (hts (.fieldLink RX0 75 "CensusDesk$Book" "agesMissing" "I") (List.mem_of_getElem? (i := 3) rfl)) dX0_countIn_41 ?_
        clear hP hS; intro H locs hP hS
        refine lv_goto (tgt := 57) hx hb dX0_countIn_44 (by decide) ?_
        exact W.vret hx hb hr (fun t ht hW => ⟨⟨((up (up (up σ 13 (σ 13)) 14 (σ 14)) 15 (σ 15)), φ, (up γ 0 z_5), ψ), rfl, ⟨(σ 13), (σ 14), (σ 15), rfl, rfl, (by rw [if_neg c_1, Int32.add_zero]), (by rw [if_neg c_2, Int32.add_zero]), (by rw [if_pos c_3, Int32.add_zero])⟩, (by show va_P _ _ _ _; rw [ht]; exact hP)⟩, hS.F ht⟩) hS.2.2 dX0_countIn_57
    · have kc_2 := bI_eq rfl L_1 c_2
      refine lv_aload_n hx hb dX0_countIn_19 rfl (lv_at hl 0 rfl) ?_
      refine lv_dup hx hb dX0_countIn_20 rfl ?_
      refine cg_4_7 (v := (σ 14)) hx hb hts hinX0 hown hK hP (hts (.fieldLink RX0 72 "CensusDesk$Book" "women" "I") (List.mem_of_getElem? (i := 2) rfl)) rfl dX0_countIn_21 ?_
      refine lv_iconst (v := 1) hx hb dX0_countIn_24 (by decide) ?_
      refine lv_iadd hx hb dX0_countIn_25 ?_
      refine lv_topi (fun z_6 ez_6 => ?_)
      refine cp_4_7 (v := z_6) hx hb hts hinX0 hown hK hP hI hS (hts (.fieldLink RX0 72 "CensusDesk$Book" "women" "I") (List.mem_of_getElem? (i := 2) rfl)) dX0_countIn_26 ?_
      clear hP hS; intro H locs hP hS
      refine lv_iload_n hx hb dX0_countIn_29 rfl (lv_at hl 2 rfl) ?_
      refine lv_iconst (v := (-1)) hx hb dX0_countIn_30 (by decide) ?_
      refine lv_icmp_ne (tgt := 47) hx hb dX0_countIn_31 (by decide) (fun c_7 => ?_) (fun c_7 => ?_)
      · have kc_7 := bI_ne rfl L_m1 c_7
        refine lv_aload_n hx hb dX0_countIn_47 rfl (lv_at hl 0 rfl) ?_
        refine lv_dup hx hb dX0_countIn_48 rfl ?_
        refine cg_4_8 (v := (σ 15)) hx hb hts hinX0 hown hK hP (hts (.fieldLink RX0 78 "CensusDesk$Book" "ageSum" "I") (List.mem_of_getElem? (i := 4) rfl)) rfl dX0_countIn_49 ?_
        refine lv_iload_n hx hb dX0_countIn_52 rfl (lv_at hl 2 rfl) ?_
        refine lv_iadd hx hb dX0_countIn_53 ?_
        refine lv_topi (fun z_8 ez_8 => ?_)
        refine cp_4_8 (v := z_8) hx hb hts hinX0 hown hK hP hI hS (hts (.fieldLink RX0 78 "CensusDesk$Book" "ageSum" "I") (List.mem_of_getElem? (i := 4) rfl)) dX0_countIn_54 ?_
        clear hP hS; intro H locs hP hS
        exact W.vret hx hb hr (fun t ht hW => ⟨⟨((up (up (up σ 13 (σ 13)) 14 z_6) 15 z_8), φ, γ, ψ), rfl, ⟨(σ 13), z_6, z_8, rfl, rfl, (by rw [if_neg c_1, Int32.add_zero]), (by rw [if_pos c_2]; exact ez_6), (by rw [if_neg c_7]; exact ez_8)⟩, (by show va_P _ _ _ _; rw [ht]; exact hP)⟩, hS.F ht⟩) hS.2.2 dX0_countIn_57
      · have kc_7 := bI_eq rfl L_m1 c_7
        refine lv_aload_n hx hb dX0_countIn_34 rfl (lv_at hl 0 rfl) ?_
        refine lv_dup hx hb dX0_countIn_35 rfl ?_
        refine cg_4_9 (v := (γ 0)) hx hb hts hinX0 hown hK hP (hts (.fieldLink RX0 75 "CensusDesk$Book" "agesMissing" "I") (List.mem_of_getElem? (i := 3) rfl)) rfl dX0_countIn_36 ?_
        refine lv_iconst (v := 1) hx hb dX0_countIn_39 (by decide) ?_
        refine lv_iadd hx hb dX0_countIn_40 ?_
        refine lv_topi (fun z_9 ez_9 => ?_)
        refine cp_4_9 (v := z_9) hx hb hts hinX0 hown hK hP hI hS (hts (.fieldLink RX0 75 "CensusDesk$Book" "agesMissing" "I") (List.mem_of_getElem? (i := 3) rfl)) dX0_countIn_41 ?_
        clear hP hS; intro H locs hP hS
        refine lv_goto (tgt := 57) hx hb dX0_countIn_44 (by decide) ?_
        exact W.vret hx hb hr (fun t ht hW => ⟨⟨((up (up (up σ 13 (σ 13)) 14 z_6) 15 (σ 15)), φ, (up γ 0 z_9), ψ), rfl, ⟨(σ 13), z_6, (σ 15), rfl, rfl, (by rw [if_neg c_1, Int32.add_zero]), (by rw [if_pos c_2]; exact ez_6), (by rw [if_pos c_7, Int32.add_zero])⟩, (by show va_P _ _ _ _; rw [ht]; exact hP)⟩, hS.F ht⟩) hS.2.2 dX0_countIn_57
  · have kc_1 := bI_eq rfl L_0 c_1
    refine lv_aload_n hx hb dX0_countIn_4 rfl (lv_at hl 0 rfl) ?_
    refine lv_dup hx hb dX0_countIn_5 rfl ?_
    refine cg_4_6 (v := (σ 13)) hx hb hts hinX0 hown hK hP (hts (.fieldLink RX0 69 "CensusDesk$Book" "men" "I") (List.mem_of_getElem? (i := 1) rfl)) rfl dX0_countIn_6 ?_
    refine lv_iconst (v := 1) hx hb dX0_countIn_9 (by decide) ?_
    refine lv_iadd hx hb dX0_countIn_10 ?_
    refine lv_topi (fun z_10 ez_10 => ?_)
    refine cp_4_6 (v := z_10) hx hb hts hinX0 hown hK hP hI hS (hts (.fieldLink RX0 69 "CensusDesk$Book" "men" "I") (List.mem_of_getElem? (i := 1) rfl)) dX0_countIn_11 ?_
    clear hP hS; intro H locs hP hS
    refine lv_iload_n hx hb dX0_countIn_14 rfl (lv_at hl 1 rfl) ?_
    refine lv_iconst (v := 1) hx hb dX0_countIn_15 (by decide) ?_
    refine lv_icmp_ne (tgt := 29) hx hb dX0_countIn_16 (by decide) (fun c_11 => ?_) (fun c_11 => ?_)
    · have kc_11 := bI_ne rfl L_1 c_11
      refine lv_iload_n hx hb dX0_countIn_29 rfl (lv_at hl 2 rfl) ?_
      refine lv_iconst (v := (-1)) hx hb dX0_countIn_30 (by decide) ?_
      refine lv_icmp_ne (tgt := 47) hx hb dX0_countIn_31 (by decide) (fun c_12 => ?_) (fun c_12 => ?_)
      · have kc_12 := bI_ne rfl L_m1 c_12
        refine lv_aload_n hx hb dX0_countIn_47 rfl (lv_at hl 0 rfl) ?_
        refine lv_dup hx hb dX0_countIn_48 rfl ?_
        refine cg_4_8 (v := (σ 15)) hx hb hts hinX0 hown hK hP (hts (.fieldLink RX0 78 "CensusDesk$Book" "ageSum" "I") (List.mem_of_getElem? (i := 4) rfl)) rfl dX0_countIn_49 ?_
        refine lv_iload_n hx hb dX0_countIn_52 rfl (lv_at hl 2 rfl) ?_
        refine lv_iadd hx hb dX0_countIn_53 ?_
        refine lv_topi (fun z_13 ez_13 => ?_)
        refine cp_4_8 (v := z_13) hx hb hts hinX0 hown hK hP hI hS (hts (.fieldLink RX0 78 "CensusDesk$Book" "ageSum" "I") (List.mem_of_getElem? (i := 4) rfl)) dX0_countIn_54 ?_
        clear hP hS; intro H locs hP hS
        exact W.vret hx hb hr (fun t ht hW => ⟨⟨((up (up (up σ 13 z_10) 14 (σ 14)) 15 z_13), φ, γ, ψ), rfl, ⟨z_10, (σ 14), z_13, rfl, rfl, (by rw [if_pos c_1]; exact ez_10), (by rw [if_neg c_11, Int32.add_zero]), (by rw [if_neg c_12]; exact ez_13)⟩, (by show va_P _ _ _ _; rw [ht]; exact hP)⟩, hS.F ht⟩) hS.2.2 dX0_countIn_57
      · have kc_12 := bI_eq rfl L_m1 c_12
        refine lv_aload_n hx hb dX0_countIn_34 rfl (lv_at hl 0 rfl) ?_
        refine lv_dup hx hb dX0_countIn_35 rfl ?_
        refine cg_4_9 (v := (γ 0)) hx hb hts hinX0 hown hK hP (hts (.fieldLink RX0 75 "CensusDesk$Book" "agesMissing" "I") (List.mem_of_getElem? (i := 3) rfl)) rfl dX0_countIn_36 ?_
        refine lv_iconst (v := 1) hx hb dX0_countIn_39 (by decide) ?_
        refine lv_iadd hx hb dX0_countIn_40 ?_
        refine lv_topi (fun z_14 ez_14 => ?_)
        refine cp_4_9 (v := z_14) hx hb hts hinX0 hown hK hP hI hS (hts (.fieldLink RX0 75 "CensusDesk$Book" "agesMissing" "I") (List.mem_of_getElem? (i := 3) rfl)) dX0_countIn_41 ?_
        clear hP hS; intro H locs hP hS
        refine lv_goto (tgt := 57) hx hb dX0_countIn_44 (by decide) ?_
        exact W.vret hx hb hr (fun t ht hW => ⟨⟨((up (up (up σ 13 z_10) 14 (σ 14)) 15 (σ 15)), φ, (up γ 0 z_14), ψ), rfl, ⟨z_10, (σ 14), (σ 15), rfl, rfl, (by rw [if_pos c_1]; exact ez_10), (by rw [if_neg c_11, Int32.add_zero]), (by rw [if_pos c_12, Int32.add_zero])⟩, (by show va_P _ _ _ _; rw [ht]; exact hP)⟩, hS.F ht⟩) hS.2.2 dX0_countIn_57
    · have kc_11 := bI_eq rfl L_1 c_11
      refine lv_aload_n hx hb dX0_countIn_19 rfl (lv_at hl 0 rfl) ?_
      refine lv_dup hx hb dX0_countIn_20 rfl ?_
      refine cg_4_7 (v := (σ 14)) hx hb hts hinX0 hown hK hP (hts (.fieldLink RX0 72 "CensusDesk$Book" "women" "I") (List.mem_of_getElem? (i := 2) rfl)) rfl dX0_countIn_21 ?_
      refine lv_iconst (v := 1) hx hb dX0_countIn_24 (by decide) ?_
      refine lv_iadd hx hb dX0_countIn_25 ?_
      refine lv_topi (fun z_15 ez_15 => ?_)
      refine cp_4_7 (v := z_15) hx hb hts hinX0 hown hK hP hI hS (hts (.fieldLink RX0 72 "CensusDesk$Book" "women" "I") (List.mem_of_getElem? (i := 2) rfl)) dX0_countIn_26 ?_
      clear hP hS; intro H locs hP hS
      refine lv_iload_n hx hb dX0_countIn_29 rfl (lv_at hl 2 rfl) ?_
      refine lv_iconst (v := (-1)) hx hb dX0_countIn_30 (by decide) ?_
      refine lv_icmp_ne (tgt := 47) hx hb dX0_countIn_31 (by decide) (fun c_16 => ?_) (fun c_16 => ?_)
      · have kc_16 := bI_ne rfl L_m1 c_16
        refine lv_aload_n hx hb dX0_countIn_47 rfl (lv_at hl 0 rfl) ?_
        refine lv_dup hx hb dX0_countIn_48 rfl ?_
        refine cg_4_8 (v := (σ 15)) hx hb hts hinX0 hown hK hP (hts (.fieldLink RX0 78 "CensusDesk$Book" "ageSum" "I") (List.mem_of_getElem? (i := 4) rfl)) rfl dX0_countIn_49 ?_
        refine lv_iload_n hx hb dX0_countIn_52 rfl (lv_at hl 2 rfl) ?_
        refine lv_iadd hx hb dX0_countIn_53 ?_
        refine lv_topi (fun z_17 ez_17 => ?_)
        refine cp_4_8 (v := z_17) hx hb hts hinX0 hown hK hP hI hS (hts (.fieldLink RX0 78 "CensusDesk$Book" "ageSum" "I") (List.mem_of_getElem? (i := 4) rfl)) dX0_countIn_54 ?_
        clear hP hS; intro H locs hP hS
        exact W.vret hx hb hr (fun t ht hW => ⟨⟨((up (up (up σ 13 z_10) 14 z_15) 15 z_17), φ, γ, ψ), rfl, ⟨z_10, z_15, z_17, rfl, rfl, (by rw [if_pos c_1]; exact ez_10), (by rw [if_pos c_11]; exact ez_15), (by rw [if_neg c_16]; exact ez_17)⟩, (by show va_P _ _ _ _; rw [ht]; exact hP)⟩, hS.F ht⟩) hS.2.2 dX0_countIn_57
      · have kc_16 := bI_eq rfl L_m1 c_16
        refine lv_aload_n hx hb dX0_countIn_34 rfl (lv_at hl 0 rfl) ?_
        refine lv_dup hx hb dX0_countIn_35 rfl ?_
        refine cg_4_9 (v := (γ 0)) hx hb hts hinX0 hown hK hP (hts (.fieldLink RX0 75 "CensusDesk$Book" "agesMissing" "I") (List.mem_of_getElem? (i := 3) rfl)) rfl dX0_countIn_36 ?_
        refine lv_iconst (v := 1) hx hb dX0_countIn_39 (by decide) ?_
        refine lv_iadd hx hb dX0_countIn_40 ?_
        refine lv_topi (fun z_18 ez_18 => ?_)
        refine cp_4_9 (v := z_18) hx hb hts hinX0 hown hK hP hI hS (hts (.fieldLink RX0 75 "CensusDesk$Book" "agesMissing" "I") (List.mem_of_getElem? (i := 3) rfl)) dX0_countIn_41 ?_
        clear hP hS; intro H locs hP hS
        refine lv_goto (tgt := 57) hx hb dX0_countIn_44 (by decide) ?_
        exact W.vret hx hb hr (fun t ht hW => ⟨⟨((up (up (up σ 13 z_10) 14 z_15) 15 (σ 15)), φ, (up γ 0 z_18), ψ), rfl, ⟨z_10, z_15, (σ 15), rfl, rfl, (by rw [if_pos c_1]; exact ez_10), (by rw [if_pos c_11]; exact ez_15), (by rw [if_pos c_16, Int32.add_zero])⟩, (by show va_P _ _ _ _; rw [ht]; exact hP)⟩, hS.F ht⟩) hS.2.2 dX0_countIn_57
set_option maxHeartbeats 4000000 in
set_option maxRecDepth 100000 in
theorem c_X0_enter (l : Launch) (dC : Nat → ClassId) (dI : Nat → Nat → Nat) (a : Nat → Nat) (κ : Nat → ClassId) (σ : Nat → Int32) (φ : Nat → Nat → Int32) (γ : Nat → Int32) (ψ : Nat → Nat → Int32) (g1 g2 : Nat) (newHouseholds : Int32) (newPersons : Int32) (sheet : Int32) (hb : 0 ≤ (Int32.toInt (σ 11)) ∧ (Int32.toInt (σ 11)) ≤ 60 ∧ 0 ≤ (Int32.toInt (σ 12)) ∧ (Int32.toInt (σ 12)) ≤ 300) (hbs : BS (σ 11) (σ 12) (σ 13) (σ 14) (σ 15) (φ 5) (φ 6) (φ 7)) (hbp : BP (σ 11) (σ 12) newHouseholds newPersons (φ 5)) (hn : 0 ≤ (Int32.toInt newHouseholds) ∧ (Int32.toInt newHouseholds) ≤ 4000 ∧ 0 ≤ (Int32.toInt newPersons) ∧ (Int32.toInt newPersons) ≤ 8000000) : Met l yX0_enter wsX0_enter ({ frames := 1, cells := 0, slots := 0, locals := 22 } : Room) (va_Pc [.ref (a 4), .int newHouseholds, .int newPersons, .int sheet] (cPre dC dI a κ (σ, φ, γ, ψ) g1 g2)) (va_Qi (QI (fun r S F => ∃ (s11 : Int32) (s12 : Int32) (s13 : Int32) (s14 : Int32) (s15 : Int32), (up (up (up (up (up σ 11 s11) 12 s12) 13 s13) 14 s14) 15 s15) = S ∧ φ = F ∧ (0 ≤ (Int32.toInt s11) ∧ (Int32.toInt s11) ≤ 60 ∧ 0 ≤ (Int32.toInt s12) ∧ (Int32.toInt s12) ≤ 300) ∧ (BS s11 s12 s13 s14 s15 (φ 5) (φ 6) (φ 7)))) (cB dC dI a κ) (cA a)) 0 0 (cA a) := by
  refine Met.ofW (cc := cX0_enter) (maxL := 5) (ret := (some .boolean)) (by decide) rfl ?_
  intro p e s m args below meth c s₁ B hml hv
  obtain ⟨rfl, hP, hK, hI, hN, hX⟩ := hv
  have hx := B.exec
  have hb := B.bytes
  have hr := B.returns
  have hts := atoms_spec (ws := wsX0_enter) B.pre
  have hown : s.vm.findClass RX0 = some m.cls := findClass_of_methodNamed B.named
  have hlocks := B.notSynchronized
  have hS : va_S (cA a) s.heap s.heap [] := va_S.rf
  have hinX0 : ∀ w ∈ wsX00, w ∈ wsX0_enter := fun _ h => List.mem_cons_of_mem _ (List.mem_append_right _ h)
  have hl := lv_entry ([.ref (a 4), .int newHouseholds, .int newPersons, .int sheet]) (n := 5) (Nat.le_of_ble_eq_true rfl)
  rw [lg_entry_eq]
  generalize (lg_sl ([.ref (a 4), .int newHouseholds, .int newPersons, .int sheet]) ++ List.replicate (5 - (lg_sl ([.ref (a 4), .int newHouseholds, .int newPersons, .int sheet])).length) Slot.unset).toArray = ls at hl ⊢
  have hl : lv_has ls 5 [(0, .ref (a 4)), (1, .int newHouseholds), (2, .int newPersons), (3, .int sheet)] := hl
  refine k_gen (fun QQ eQ => ?_)
  have J76 : ∀ (n76 : Nat), ∀ (n : Int32) (s11_c76 : Int32) (s12_c76 : Int32) (s13_c76 : Int32) (s14_c76 : Int32) (s15_c76 : Int32) (γ : Nat → Int32) (ψ : Nat → Nat → Int32) (H : Heap) (locs : List Loc) (ls : Array Slot), (0 ≤ (Int32.toInt n) ∧ (Int32.toInt n) ≤ (Int32.toInt newPersons) ∧ (Int32.toInt s11_c76) = (Int32.toInt (σ 11)) + (Int32.toInt newHouseholds) ∧ (Int32.toInt newHouseholds) ≤ 60 - (Int32.toInt (σ 11)) ∧ (Int32.toInt s12_c76) = (Int32.toInt (σ 12)) + (Int32.toInt n) ∧ (Int32.toInt newPersons) ≤ 300 - (Int32.toInt (σ 12))) → (s13_c76 = icnt 0 (φ 6) (Int32.toNatClampNeg s12_c76) ∧ s14_c76 = icnt 1 (φ 6) (Int32.toNatClampNeg s12_c76) ∧ s15_c76 = iage (φ 7) (Int32.toNatClampNeg s12_c76)) → (((Int32.toInt newPersons) - (Int32.toInt n)).toNat < n76) → va_P (dC, dI) vwCl (cw a κ ((up (up (up (up (up σ 11 s11_c76) 12 s12_c76) 13 s13_c76) 14 s14_c76) 15 s15_c76), φ, γ, ψ)) H → va_S (cA a) s.heap H locs → lv_has ls 5 [(0, .ref (a 4)), (2, .int newPersons), (4, .int n)] → W p l e ({ frames := 1, cells := 0, slots := 0, locals := 22 } : Room) s m ([.ref (a 4), .int newHouseholds, .int newPersons, .int sheet] : List Value).toArray below meth c H locs 0 0 QQ (F0 m 76 ls []) := by
    intro n76
    induction n76 with
    | zero =>
      intro n s11_c76 s12_c76 s13_c76 s14_c76 s15_c76 γ ψ H locs ls v0 vs hm
      exact absurd hm (Nat.not_lt_zero _)
    | succ n76 ih76 =>
      intro n s11_c76 s12_c76 s13_c76 s14_c76 s15_c76 γ ψ H locs ls v0 vs hm hP hS hl
      refine lv_iload hx hb dX0_enter_76 (lv_at hl 2 rfl) ?_
      refine lv_iload_n hx hb dX0_enter_78 rfl (lv_at hl 1 rfl) ?_
      refine lv_icmp_ge (tgt := 134) hx hb dX0_enter_79 (by decide) (fun c_1 => ?_) (fun c_1 => ?_)
      · have kc_1 := bI_le rfl rfl c_1
        have eh : σ 11 + newHouseholds = s11_c76 := Int32.toInt_inj.mp ((aI_add rfl rfl rfl (by omega)).trans (by omega))
        have ep : σ 12 + newPersons = s12_c76 := Int32.toInt_inj.mp ((aI_add rfl rfl rfl (by omega)).trans (by omega))
        have hfin : BS s11_c76 s12_c76 s13_c76 s14_c76 s15_c76 (φ 5) (φ 6) (φ 7) := ⟨by have h := hbp (by omega) (by omega); rw [eh, ep] at h; exact h, vs⟩
        refine lv_iconst (v := 1) hx hb dX0_enter_134 (by decide) ?_
        subst eQ
        exact W.zret (v := 1) hx hb hr (by first | rfl | decide) (fun t ht hW => ⟨⟨1, ((up (up (up (up (up σ 11 s11_c76) 12 s12_c76) 13 s13_c76) 14 s14_c76) 15 s15_c76), φ, γ, ψ), rfl, ⟨s11_c76, s12_c76, s13_c76, s14_c76, s15_c76, rfl, rfl, (show 0 ≤ (Int32.toInt s11_c76) ∧ (Int32.toInt s11_c76) ≤ 60 ∧ 0 ≤ (Int32.toInt s12_c76) ∧ (Int32.toInt s12_c76) ≤ 300 from (by omega)), (show BS s11_c76 s12_c76 s13_c76 s14_c76 s15_c76 (φ 5) (φ 6) (φ 7) from (by with_reducible assumption))⟩, (by show va_P _ _ _ _; rw [ht]; exact hP)⟩, hS.F ht⟩) hS.2.2 dX0_enter_135
      · have kc_1 := bI_nle rfl rfl c_1
        refine lv_aload_n hx hb dX0_enter_82 rfl (lv_at hl 0 rfl) ?_
        refine cg_4_5 (v := s12_c76) hx hb hts hinX0 hown hK hP (hts (.fieldLink RX0 33 "CensusDesk$Book" "persons" "I") (List.mem_of_getElem? (i := 2) rfl)) rfl dX0_enter_83 ?_
        refine lv_sipush (v := 300) hx hb dX0_enter_86 (by decide) ?_
        refine lv_icmp_ge (tgt := 134) hx hb dX0_enter_89 (by decide) (fun c_2 => ?_) (fun c_2 => ?_)
        · have kc_2 := bI_le L_300 rfl c_2
          have eh : σ 11 + newHouseholds = s11_c76 := Int32.toInt_inj.mp ((aI_add rfl rfl rfl (by omega)).trans (by omega))
          have ep : σ 12 + newPersons = s12_c76 := Int32.toInt_inj.mp ((aI_add rfl rfl rfl (by omega)).trans (by omega))
          have hfin : BS s11_c76 s12_c76 s13_c76 s14_c76 s15_c76 (φ 5) (φ 6) (φ 7) := ⟨by have h := hbp (by omega) (by omega); rw [eh, ep] at h; exact h, vs⟩
          refine lv_iconst (v := 1) hx hb dX0_enter_134 (by decide) ?_
          subst eQ
          exact W.zret (v := 1) hx hb hr (by first | rfl | decide) (fun t ht hW => ⟨⟨1, ((up (up (up (up (up σ 11 s11_c76) 12 s12_c76) 13 s13_c76) 14 s14_c76) 15 s15_c76), φ, γ, ψ), rfl, ⟨s11_c76, s12_c76, s13_c76, s14_c76, s15_c76, rfl, rfl, (show 0 ≤ (Int32.toInt s11_c76) ∧ (Int32.toInt s11_c76) ≤ 60 ∧ 0 ≤ (Int32.toInt s12_c76) ∧ (Int32.toInt s12_c76) ≤ 300 from (by omega)), (show BS s11_c76 s12_c76 s13_c76 s14_c76 s15_c76 (φ 5) (φ 6) (φ 7) from (by with_reducible assumption))⟩, (by show va_P _ _ _ _; rw [ht]; exact hP)⟩, hS.F ht⟩) hS.2.2 dX0_enter_135
        · have kc_2 := bI_nle L_300 rfl c_2
          refine lv_aload_n hx hb dX0_enter_92 rfl (lv_at hl 0 rfl) ?_
          refine lv_aload_n hx hb dX0_enter_93 rfl (lv_at hl 0 rfl) ?_
          refine cg_4_1 hx hb hts hinX0 hown hK hP (hts (.fieldLink RX0 16 "CensusDesk$Book" "personFacts" "[[I") (List.mem_of_getElem? (i := 4) rfl)) dX0_enter_94 ?_
          refine lv_iconst (v := 0) hx hb dX0_enter_97 (by decide) ?_
          refine cr_27_0 hx hb hK hP dX0_enter_98 ?_
          refine lv_aload_n hx hb dX0_enter_99 rfl (lv_at hl 0 rfl) ?_
          refine cg_4_5 (v := s12_c76) hx hb hts hinX0 hown hK hP (hts (.fieldLink RX0 33 "CensusDesk$Book" "persons" "I") (List.mem_of_getElem? (i := 2) rfl)) rfl dX0_enter_100 ?_
          refine cl_28 (f := (φ 6)) hx hb hK hP (i := s12_c76) (vin rfl (by omega)) rfl dX0_enter_103 ?_
          refine lv_topi (fun z_3 ez_3 => ?_)
          have tz_3 : (Int32.toInt z_3) = Int32.toInt ((φ 6) (Int32.toNatClampNeg s12_c76)) := congrArg Int32.toInt ez_3
          refine lv_aload_n hx hb dX0_enter_104 rfl (lv_at hl 0 rfl) ?_
          refine cg_4_1 hx hb hts hinX0 hown hK hP (hts (.fieldLink RX0 16 "CensusDesk$Book" "personFacts" "[[I") (List.mem_of_getElem? (i := 4) rfl)) dX0_enter_105 ?_
          refine lv_iconst (v := 1) hx hb dX0_enter_108 (by decide) ?_
          refine cr_27_1 hx hb hK hP dX0_enter_109 ?_
          refine lv_aload_n hx hb dX0_enter_110 rfl (lv_at hl 0 rfl) ?_
          refine cg_4_5 (v := s12_c76) hx hb hts hinX0 hown hK hP (hts (.fieldLink RX0 33 "CensusDesk$Book" "persons" "I") (List.mem_of_getElem? (i := 2) rfl)) rfl dX0_enter_111 ?_
          refine cl_29 (f := (φ 7)) hx hb hK hP (i := s12_c76) (vin rfl (by omega)) rfl dX0_enter_114 ?_
          refine lv_topi (fun z_4 ez_4 => ?_)
          have tz_4 : (Int32.toInt z_4) = Int32.toInt ((φ 7) (Int32.toNatClampNeg s12_c76)) := congrArg Int32.toInt ez_4
          refine c_callv (va_runV (As := [.int z_3, .int z_4]) (rest := []) ⟨hx, hb, hml, hown, hts⟩ (c_X0_countIn l dC dI a κ (up (up (up (up (up σ 11 s11_c76) 12 s12_c76) 13 s13_c76) 14 s14_c76) 15 s15_c76) φ γ ψ g1 g2 z_3 z_4 ) (cwV 2 hts gX0_enter_X0_countIn rfl rfl rfl ⟨rfl, hd_X0_countIn⟩ ⟨Nat.le_of_ble_eq_true rfl, Nat.le_of_ble_eq_true rfl⟩) (cPreV hP hK hI hN hX hS (va_recv hK hP (ci := 0) (q0 := 4) rfl rfl)) rfl rfl hl.1 rfl (lv_room (Nat.le_of_ble_eq_true rfl)) dX0_enter_115 ⟨(by decide +kernel), (by decide +kernel)⟩) hS ?_
          clear hP hS; intro S_5 F_5 γ_5 ψ_5 H locs hw hP hS
          obtain ⟨s13_5, s14_5, s15_5, rfl, rfl, (qm_5 : s13_5 = s13_c76 + (if z_3 = 0 then 1 else 0)), (qw_5 : s14_5 = s14_c76 + (if z_3 = 1 then 1 else 0)), (qa_5 : s15_5 = s15_c76 + (if z_4 = -1 then 0 else z_4))⟩ := hw
          refine lv_aload_n hx hb dX0_enter_118 rfl (lv_at hl 0 rfl) ?_
          refine lv_dup hx hb dX0_enter_119 rfl ?_
          refine cg_4_5 (v := s12_c76) hx hb hts hinX0 hown hK hP (hts (.fieldLink RX0 33 "CensusDesk$Book" "persons" "I") (List.mem_of_getElem? (i := 2) rfl)) rfl dX0_enter_120 ?_
          refine lv_iconst (v := 1) hx hb dX0_enter_123 (by decide) ?_
          refine lv_iadd hx hb dX0_enter_124 ?_
          refine lv_topi (fun z_6 ez_6 => ?_)
          have tz_6 : (Int32.toInt z_6) = (Int32.toInt s12_c76) + 1 := aI_add rfl L_1 ez_6 (by have := rng s12_c76; omega)
          refine cp_4_5 (v := z_6) hx hb hts hinX0 hown hK hP hI hS (hts (.fieldLink RX0 33 "CensusDesk$Book" "persons" "I") (List.mem_of_getElem? (i := 2) rfl)) dX0_enter_125 ?_
          clear hP hS; intro H locs hP hS
          have hn : Int32.toNatClampNeg z_6 = Int32.toNatClampNeg s12_c76 + 1 := tn_succ (by omega) tz_6
          have vs : s13_5 = icnt 0 (φ 6) (Int32.toNatClampNeg z_6) ∧ s14_5 = icnt 1 (φ 6) (Int32.toNatClampNeg z_6) ∧ s15_5 = iage (φ 7) (Int32.toNatClampNeg z_6) := ⟨by rw [hn, icnt, ← ez_3, ← vs.1]; exact qm_5, by rw [hn, icnt, ← ez_3, ← vs.2.1]; exact qw_5, by rw [hn, iage, ← ez_4, ← vs.2.2]; exact qa_5⟩
          obtain ⟨i_7, ei_7⟩ : ∃ z : Int32, z = n + 1 := ⟨_, rfl⟩
          refine lv_iinc (v := i_7) (lv' := [(4, .int i_7), (0, .ref (a 4)), (2, .int newPersons)]) hx hb dX0_enter_128 hl (k := 2) rfl (by rw [ei_7]; rfl) (by decide) rfl ?_
          clear hl; intro ls hl
          have ti_7 : (Int32.toInt i_7) = (Int32.toInt n) + 1 := aI_add rfl L_1 ei_7 (by have := rng n; have := rng newPersons; omega)
          refine lv_goto (tgt := 76) hx hb dX0_enter_131 (by decide) ?_
          exact ih76 i_7 s11_c76 z_6 s13_5 s14_5 s15_5 γ_5 ψ_5 _ _ _ (show 0 ≤ (Int32.toInt i_7) ∧ (Int32.toInt i_7) ≤ (Int32.toInt newPersons) ∧ (Int32.toInt s11_c76) = (Int32.toInt (σ 11)) + (Int32.toInt newHouseholds) ∧ (Int32.toInt newHouseholds) ≤ 60 - (Int32.toInt (σ 11)) ∧ (Int32.toInt z_6) = (Int32.toInt (σ 12)) + (Int32.toInt i_7) ∧ (Int32.toInt newPersons) ≤ 300 - (Int32.toInt (σ 12)) from (by omega)) (show s13_5 = icnt 0 (φ 6) (Int32.toNatClampNeg z_6) ∧ s14_5 = icnt 1 (φ 6) (Int32.toNatClampNeg z_6) ∧ s15_5 = iage (φ 7) (Int32.toNatClampNeg z_6) from (by with_reducible assumption)) (by omega) hP hS (lv_sub hl [1, 2, 0] rfl)
  have J30 : ∀ (n30 : Nat), ∀ (n : Int32) (s11_c30 : Int32) (γ : Nat → Int32) (ψ : Nat → Nat → Int32) (H : Heap) (locs : List Loc) (ls : Array Slot), (0 ≤ (Int32.toInt n) ∧ (Int32.toInt n) ≤ (Int32.toInt newHouseholds) ∧ (Int32.toInt s11_c30) = (Int32.toInt (σ 11)) + (Int32.toInt n) ∧ (Int32.toInt newHouseholds) ≤ 60 - (Int32.toInt (σ 11)) ∧ (Int32.toInt newPersons) ≤ 300 - (Int32.toInt (σ 12))) → (((Int32.toInt newHouseholds) - (Int32.toInt n)).toNat < n30) → va_P (dC, dI) vwCl (cw a κ ((up σ 11 s11_c30), φ, γ, ψ)) H → va_S (cA a) s.heap H locs → lv_has ls 5 [(0, .ref (a 4)), (1, .int newHouseholds), (2, .int newPersons), (3, .int sheet), (4, .int n)] → W p l e ({ frames := 1, cells := 0, slots := 0, locals := 22 } : Room) s m ([.ref (a 4), .int newHouseholds, .int newPersons, .int sheet] : List Value).toArray below meth c H locs 0 0 QQ (F0 m 30 ls []) := by
    intro n30
    induction n30 with
    | zero =>
      intro n s11_c30 γ ψ H locs ls v0 hm
      exact absurd hm (Nat.not_lt_zero _)
    | succ n30 ih30 =>
      intro n s11_c30 γ ψ H locs ls v0 hm hP hS hl
      refine lv_iload hx hb dX0_enter_30 (lv_at hl 4 rfl) ?_
      refine lv_iload_n hx hb dX0_enter_32 rfl (lv_at hl 1 rfl) ?_
      refine lv_icmp_ge (tgt := 73) hx hb dX0_enter_33 (by decide) (fun c_8 => ?_) (fun c_8 => ?_)
      · have kc_8 := bI_le rfl rfl c_8
        refine lv_iconst (v := 0) hx hb dX0_enter_73 (by decide) ?_
        have vs : (σ 13) = icnt 0 (φ 6) (Int32.toNatClampNeg (σ 12)) ∧ (σ 14) = icnt 1 (φ 6) (Int32.toNatClampNeg (σ 12)) ∧ (σ 15) = iage (φ 7) (Int32.toNatClampNeg (σ 12)) := hbs.2
        refine lv_istore (lv' := [(4, .int 0), (0, .ref (a 4)), (1, .int newHouseholds), (2, .int newPersons), (3, .int sheet)]) hx hb dX0_enter_74 hl (by decide) rfl ?_
        clear hl; intro ls hl
        exact J76 (_ + 1) 0 s11_c30 (σ 12) (σ 13) (σ 14) (σ 15) γ ψ _ _ _ (show 0 ≤ (Int32.toInt 0) ∧ (Int32.toInt 0) ≤ (Int32.toInt newPersons) ∧ (Int32.toInt s11_c30) = (Int32.toInt (σ 11)) + (Int32.toInt newHouseholds) ∧ (Int32.toInt newHouseholds) ≤ 60 - (Int32.toInt (σ 11)) ∧ (Int32.toInt (σ 12)) = (Int32.toInt (σ 12)) + (Int32.toInt 0) ∧ (Int32.toInt newPersons) ≤ 300 - (Int32.toInt (σ 12)) from (by have := L_0; omega)) (show (σ 13) = icnt 0 (φ 6) (Int32.toNatClampNeg (σ 12)) ∧ (σ 14) = icnt 1 (φ 6) (Int32.toNatClampNeg (σ 12)) ∧ (σ 15) = iage (φ 7) (Int32.toNatClampNeg (σ 12)) from (by with_reducible assumption)) (Nat.lt_succ_self _) hP hS (lv_sub hl [1, 3, 0] rfl)
      · have kc_8 := bI_nle rfl rfl c_8
        refine lv_aload_n hx hb dX0_enter_36 rfl (lv_at hl 0 rfl) ?_
        refine cg_4_4 (v := s11_c30) hx hb hts hinX0 hown hK hP (hts (.fieldLink RX0 29 "CensusDesk$Book" "households" "I") (List.mem_of_getElem? (i := 1) rfl)) rfl dX0_enter_37 ?_
        refine lv_bipush (v := 60) hx hb dX0_enter_40 (by decide) ?_
        refine lv_icmp_ge (tgt := 73) hx hb dX0_enter_42 (by decide) (fun c_9 => ?_) (fun c_9 => ?_)
        · have kc_9 := bI_le L_60 rfl c_9
          refine lv_iconst (v := 0) hx hb dX0_enter_73 (by decide) ?_
          have vs : (σ 13) = icnt 0 (φ 6) (Int32.toNatClampNeg (σ 12)) ∧ (σ 14) = icnt 1 (φ 6) (Int32.toNatClampNeg (σ 12)) ∧ (σ 15) = iage (φ 7) (Int32.toNatClampNeg (σ 12)) := hbs.2
          refine lv_istore (lv' := [(4, .int 0), (0, .ref (a 4)), (1, .int newHouseholds), (2, .int newPersons), (3, .int sheet)]) hx hb dX0_enter_74 hl (by decide) rfl ?_
          clear hl; intro ls hl
          exact J76 (_ + 1) 0 s11_c30 (σ 12) (σ 13) (σ 14) (σ 15) γ ψ _ _ _ (show 0 ≤ (Int32.toInt 0) ∧ (Int32.toInt 0) ≤ (Int32.toInt newPersons) ∧ (Int32.toInt s11_c30) = (Int32.toInt (σ 11)) + (Int32.toInt newHouseholds) ∧ (Int32.toInt newHouseholds) ≤ 60 - (Int32.toInt (σ 11)) ∧ (Int32.toInt (σ 12)) = (Int32.toInt (σ 12)) + (Int32.toInt 0) ∧ (Int32.toInt newPersons) ≤ 300 - (Int32.toInt (σ 12)) from (by have := L_0; omega)) (show (σ 13) = icnt 0 (φ 6) (Int32.toNatClampNeg (σ 12)) ∧ (σ 14) = icnt 1 (φ 6) (Int32.toNatClampNeg (σ 12)) ∧ (σ 15) = iage (φ 7) (Int32.toNatClampNeg (σ 12)) from (by with_reducible assumption)) (Nat.lt_succ_self _) hP hS (lv_sub hl [1, 3, 0] rfl)
        · have kc_9 := bI_nle L_60 rfl c_9
          refine lv_aload_n hx hb dX0_enter_45 rfl (lv_at hl 0 rfl) ?_
          refine cg_4_0 hx hb hts hinX0 hown hK hP (hts (.fieldLink RX0 13 "CensusDesk$Book" "householdFacts" "[[I") (List.mem_of_getElem? (i := 3) rfl)) dX0_enter_46 ?_
          refine lv_iconst (v := 4) hx hb dX0_enter_49 (by decide) ?_
          refine cr_21_4 hx hb hK hP dX0_enter_50 ?_
          refine lv_aload_n hx hb dX0_enter_51 rfl (lv_at hl 0 rfl) ?_
          refine cg_4_4 (v := s11_c30) hx hb hts hinX0 hown hK hP (hts (.fieldLink RX0 29 "CensusDesk$Book" "households" "I") (List.mem_of_getElem? (i := 1) rfl)) rfl dX0_enter_52 ?_
          refine lv_iload_n hx hb dX0_enter_55 rfl (lv_at hl 3 rfl) ?_
          refine cs_26 (f := (ψ 13)) hx hb hK hP hI hS (i := s11_c30) (x := sheet) (vin rfl (by omega)) rfl dX0_enter_56 ?_
          clear hP hS; intro H locs hP hS
          obtain ⟨f_10, ef_10⟩ : ∃ z : Nat → Int32, z = upd (ψ 13) (Int32.toNatClampNeg s11_c30) sheet := ⟨_, rfl⟩
          rw [← ef_10] at hP
          refine lv_aload_n hx hb dX0_enter_57 rfl (lv_at hl 0 rfl) ?_
          refine lv_dup hx hb dX0_enter_58 rfl ?_
          refine cg_4_4 (v := s11_c30) hx hb hts hinX0 hown hK hP (hts (.fieldLink RX0 29 "CensusDesk$Book" "households" "I") (List.mem_of_getElem? (i := 1) rfl)) rfl dX0_enter_59 ?_
          refine lv_iconst (v := 1) hx hb dX0_enter_62 (by decide) ?_
          refine lv_iadd hx hb dX0_enter_63 ?_
          refine lv_topi (fun z_11 ez_11 => ?_)
          have tz_11 : (Int32.toInt z_11) = (Int32.toInt s11_c30) + 1 := aI_add rfl L_1 ez_11 (by have := rng s11_c30; omega)
          refine cp_4_4 (v := z_11) hx hb hts hinX0 hown hK hP hI hS (hts (.fieldLink RX0 29 "CensusDesk$Book" "households" "I") (List.mem_of_getElem? (i := 1) rfl)) dX0_enter_64 ?_
          clear hP hS; intro H locs hP hS
          obtain ⟨i_12, ei_12⟩ : ∃ z : Int32, z = n + 1 := ⟨_, rfl⟩
          refine lv_iinc (v := i_12) (lv' := [(4, .int i_12), (0, .ref (a 4)), (1, .int newHouseholds), (2, .int newPersons), (3, .int sheet)]) hx hb dX0_enter_67 hl (k := 4) rfl (by rw [ei_12]; rfl) (by decide) rfl ?_
          clear hl; intro ls hl
          have ti_12 : (Int32.toInt i_12) = (Int32.toInt n) + 1 := aI_add rfl L_1 ei_12 (by have := rng n; have := rng newHouseholds; omega)
          refine lv_goto (tgt := 30) hx hb dX0_enter_70 (by decide) ?_
          exact ih30 i_12 z_11 γ (up ψ 13 f_10) _ _ _ (show 0 ≤ (Int32.toInt i_12) ∧ (Int32.toInt i_12) ≤ (Int32.toInt newHouseholds) ∧ (Int32.toInt z_11) = (Int32.toInt (σ 11)) + (Int32.toInt i_12) ∧ (Int32.toInt newHouseholds) ≤ 60 - (Int32.toInt (σ 11)) ∧ (Int32.toInt newPersons) ≤ 300 - (Int32.toInt (σ 12)) from (by omega)) (by omega) hP hS (lv_sub hl [1, 2, 3, 4, 0] rfl)
  refine lv_iload_n hx hb dX0_enter_0 rfl (lv_at hl 1 rfl) ?_
  refine lv_bipush (v := 60) hx hb dX0_enter_1 (by decide) ?_
  refine lv_aload_n hx hb dX0_enter_3 rfl (lv_at hl 0 rfl) ?_
  refine cg_4_4 (v := (σ 11)) hx hb hts hinX0 hown hK hP (hts (.fieldLink RX0 29 "CensusDesk$Book" "households" "I") (List.mem_of_getElem? (i := 1) rfl)) rfl dX0_enter_4 ?_
  refine lv_isub hx hb dX0_enter_7 ?_
  refine lv_topi (fun z_13 ez_13 => ?_)
  have tz_13 : (Int32.toInt z_13) = 60 - (Int32.toInt (σ 11)) := aI_sub L_60 rfl ez_13 (by have := rng (σ 11); omega)
  refine lv_icmp_le (tgt := 13) hx hb dX0_enter_8 (by decide) (fun c_14 => ?_) (fun c_14 => ?_)
  · have kc_14 := bI_le rfl rfl c_14
    refine lv_iload_n hx hb dX0_enter_13 rfl (lv_at hl 2 rfl) ?_
    refine lv_sipush (v := 300) hx hb dX0_enter_14 (by decide) ?_
    refine lv_aload_n hx hb dX0_enter_17 rfl (lv_at hl 0 rfl) ?_
    refine cg_4_5 (v := (σ 12)) hx hb hts hinX0 hown hK hP (hts (.fieldLink RX0 33 "CensusDesk$Book" "persons" "I") (List.mem_of_getElem? (i := 2) rfl)) rfl dX0_enter_18 ?_
    refine lv_isub hx hb dX0_enter_21 ?_
    refine lv_topi (fun z_15 ez_15 => ?_)
    have tz_15 : (Int32.toInt z_15) = 300 - (Int32.toInt (σ 12)) := aI_sub L_300 rfl ez_15 (by have := rng (σ 12); omega)
    refine lv_icmp_le (tgt := 27) hx hb dX0_enter_22 (by decide) (fun c_16 => ?_) (fun c_16 => ?_)
    · have kc_16 := bI_le rfl rfl c_16
      refine lv_iconst (v := 0) hx hb dX0_enter_27 (by decide) ?_
      refine lv_istore (lv' := [(4, .int 0), (0, .ref (a 4)), (1, .int newHouseholds), (2, .int newPersons), (3, .int sheet)]) hx hb dX0_enter_28 hl (by decide) rfl ?_
      clear hl; intro ls hl
      exact J30 (_ + 1) 0 (σ 11) γ ψ _ _ _ (show 0 ≤ (Int32.toInt 0) ∧ (Int32.toInt 0) ≤ (Int32.toInt newHouseholds) ∧ (Int32.toInt (σ 11)) = (Int32.toInt (σ 11)) + (Int32.toInt 0) ∧ (Int32.toInt newHouseholds) ≤ 60 - (Int32.toInt (σ 11)) ∧ (Int32.toInt newPersons) ≤ 300 - (Int32.toInt (σ 12)) from (by have := L_0; omega)) (Nat.lt_succ_self _) hP hS (lv_sub hl [1, 2, 3, 4, 0] rfl)
    · have kc_16 := bI_nle rfl rfl c_16
      refine lv_iconst (v := 0) hx hb dX0_enter_25 (by decide) ?_
      subst eQ
      exact W.zret (v := 0) hx hb hr (by first | rfl | decide) (fun t ht hW => ⟨⟨0, ((up (up (up (up (up σ 11 (σ 11)) 12 (σ 12)) 13 (σ 13)) 14 (σ 14)) 15 (σ 15)), φ, γ, ψ), rfl, ⟨(σ 11), (σ 12), (σ 13), (σ 14), (σ 15), rfl, rfl, (show 0 ≤ (Int32.toInt (σ 11)) ∧ (Int32.toInt (σ 11)) ≤ 60 ∧ 0 ≤ (Int32.toInt (σ 12)) ∧ (Int32.toInt (σ 12)) ≤ 300 from (by omega)), (show BS (σ 11) (σ 12) (σ 13) (σ 14) (σ 15) (φ 5) (φ 6) (φ 7) from (by with_reducible assumption))⟩, (by show va_P _ _ _ _; rw [ht]; exact hP)⟩, hS.F ht⟩) hS.2.2 dX0_enter_26
  · have kc_14 := bI_nle rfl rfl c_14
    refine lv_iconst (v := 0) hx hb dX0_enter_11 (by decide) ?_
    subst eQ
    exact W.zret (v := 0) hx hb hr (by first | rfl | decide) (fun t ht hW => ⟨⟨0, ((up (up (up (up (up σ 11 (σ 11)) 12 (σ 12)) 13 (σ 13)) 14 (σ 14)) 15 (σ 15)), φ, γ, ψ), rfl, ⟨(σ 11), (σ 12), (σ 13), (σ 14), (σ 15), rfl, rfl, (show 0 ≤ (Int32.toInt (σ 11)) ∧ (Int32.toInt (σ 11)) ≤ 60 ∧ 0 ≤ (Int32.toInt (σ 12)) ∧ (Int32.toInt (σ 12)) ≤ 300 from (by omega)), (show BS (σ 11) (σ 12) (σ 13) (σ 14) (σ 15) (φ 5) (φ 6) (φ 7) from (by with_reducible assumption))⟩, (by show va_P _ _ _ _; rw [ht]; exact hP)⟩, hS.F ht⟩) hS.2.2 dX0_enter_12
set_option maxHeartbeats 4000000 in
set_option maxRecDepth 100000 in
theorem c_X0_disagreements (l : Launch) (dC : Nat → ClassId) (dI : Nat → Nat → Nat) (a : Nat → Nat) (κ : Nat → ClassId) (σ : Nat → Int32) (φ : Nat → Nat → Int32) (γ : Nat → Int32) (ψ : Nat → Nat → Int32) (g1 g2 : Nat)  (p_book_personFacts0 : PtR (-1) 1 (φ 6)) (hb : 0 ≤ (Int32.toInt (σ 11)) ∧ (Int32.toInt (σ 11)) ≤ 60 ∧ 0 ≤ (Int32.toInt (σ 12)) ∧ (Int32.toInt (σ 12)) ≤ 300) (hbs : BS (σ 11) (σ 12) (σ 13) (σ 14) (σ 15) (φ 5) (φ 6) (φ 7)) : Met l yX0_disagreements wsX0_disagreements ({ frames := 1, cells := 0, slots := 0, locals := 22 } : Room) (va_Pc [.ref (a 4)] (cPre dC dI a κ (σ, φ, γ, ψ) g1 g2)) (va_Qi (QI (fun r S F => σ = S ∧ φ = F ∧ ((Int32.toInt r) = 0))) (cB dC dI a κ) (cA a)) 0 0 (cA a) := by
  refine Met.ofW (cc := cX0_disagreements) (maxL := 5) (ret := (some .int)) (by decide) rfl ?_
  intro p e s m args below meth c s₁ B hml hv
  obtain ⟨rfl, hP, hK, hI, hN, hX⟩ := hv
  have hx := B.exec
  have hb := B.bytes
  have hr := B.returns
  have hts := atoms_spec (ws := wsX0_disagreements) B.pre
  have hown : s.vm.findClass RX0 = some m.cls := findClass_of_methodNamed B.named
  have hlocks := B.notSynchronized
  have hS : va_S (cA a) s.heap s.heap [] := va_S.rf
  have hinX0 : ∀ w ∈ wsX00, w ∈ wsX0_disagreements := fun _ h => List.mem_cons_of_mem _ (List.mem_append_right _ h)
  have hl := lv_entry ([.ref (a 4)]) (n := 5) (Nat.le_of_ble_eq_true rfl)
  rw [lg_entry_eq]
  generalize (lg_sl ([.ref (a 4)]) ++ List.replicate (5 - (lg_sl ([.ref (a 4)])).length) Slot.unset).toArray = ls at hl ⊢
  have hl : lv_has ls 5 [(0, .ref (a 4))] := hl
  refine k_gen (fun QQ eQ => ?_)
  have J34 : ∀ (n34 : Nat), ∀ (inH : Int32) (wos : Int32) (ages : Int32) (j : Int32) (γ : Nat → Int32) (ψ : Nat → Nat → Int32) (H : Heap) (locs : List Loc) (ls : Array Slot), (0 ≤ (Int32.toInt j) ∧ (Int32.toInt j) ≤ (Int32.toInt (σ 12))) → (inH = (σ 12)) → (wos = icnt (-1) (φ 6) (Int32.toNatClampNeg j)) → (ages = iage (φ 7) (Int32.toNatClampNeg j)) → (((Int32.toInt (σ 12)) - (Int32.toInt j)).toNat < n34) → va_P (dC, dI) vwCl (cw a κ (σ, φ, γ, ψ)) H → va_S (cA a) s.heap H locs → lv_has ls 5 [(0, .ref (a 4)), (1, .int inH), (2, .int wos), (3, .int ages), (4, .int j)] → W p l e ({ frames := 1, cells := 0, slots := 0, locals := 22 } : Room) s m ([.ref (a 4)] : List Value).toArray below meth c H locs 0 0 QQ (F0 m 34 ls []) := by
    intro n34
    induction n34 with
    | zero =>
      intro inH wos ages j γ ψ H locs ls v0 vp w2 w3 hm
      exact absurd hm (Nat.not_lt_zero _)
    | succ n34 ih34 =>
      intro inH wos ages j γ ψ H locs ls v0 vp w2 w3 hm hP hS hl
      refine lv_iload hx hb dX0_disagreements_34 (lv_at hl 4 rfl) ?_
      refine lv_aload_n hx hb dX0_disagreements_36 rfl (lv_at hl 0 rfl) ?_
      refine cg_4_5 (v := (σ 12)) hx hb hts hinX0 hown hK hP (hts (.fieldLink RX0 33 "CensusDesk$Book" "persons" "I") (List.mem_of_getElem? (i := 2) rfl)) rfl dX0_disagreements_37 ?_
      refine lv_icmp_ge (tgt := 84) hx hb dX0_disagreements_40 (by decide) (fun c_1 => ?_) (fun c_1 => ?_)
      · have kc_1 := bI_le rfl rfl c_1
        have ej : j = (σ 12) := Int32.toInt_inj.mp (by omega)
        rw [ej] at w2 w3
        refine lv_iconst (v := 0) hx hb dX0_disagreements_84 (by decide) ?_
        refine lv_istore (lv' := [(4, .int 0), (0, .ref (a 4)), (1, .int inH), (2, .int wos), (3, .int ages)]) hx hb dX0_disagreements_85 hl (by decide) rfl ?_
        clear hl; intro ls hl
        refine lv_iload_n hx hb dX0_disagreements_87 rfl (lv_at hl 2 rfl) ?_
        refine lv_aload_n hx hb dX0_disagreements_88 rfl (lv_at hl 1 rfl) ?_
        refine cg_4_5 (v := (σ 12)) hx hb hts hinX0 hown hK hP (hts (.fieldLink RX0 33 "CensusDesk$Book" "persons" "I") (List.mem_of_getElem? (i := 2) rfl)) rfl dX0_disagreements_89 ?_
        refine lv_icmp_eq (tgt := 98) hx hb dX0_disagreements_92 (by decide) (fun c_2 => ?_) (fun c_2 => False.elim (by have kc_2 := bI_ne rfl rfl c_2; exact absurd vp c_2))
        have kc_2 := bI_eq rfl rfl c_2
        refine lv_aload_n hx hb dX0_disagreements_98 rfl (lv_at hl 1 rfl) ?_
        refine cg_4_6 (v := (σ 13)) hx hb hts hinX0 hown hK hP (hts (.fieldLink RX0 69 "CensusDesk$Book" "men" "I") (List.mem_of_getElem? (i := 3) rfl)) rfl dX0_disagreements_99 ?_
        refine lv_aload_n hx hb dX0_disagreements_102 rfl (lv_at hl 1 rfl) ?_
        refine cg_4_7 (v := (σ 14)) hx hb hts hinX0 hown hK hP (hts (.fieldLink RX0 72 "CensusDesk$Book" "women" "I") (List.mem_of_getElem? (i := 4) rfl)) rfl dX0_disagreements_103 ?_
        refine lv_iadd hx hb dX0_disagreements_106 ?_
        refine lv_topi (fun z_3 ez_3 => ?_)
        refine lv_iload_n hx hb dX0_disagreements_107 rfl (lv_at hl 3 rfl) ?_
        refine lv_iadd hx hb dX0_disagreements_108 ?_
        refine lv_topi (fun z_4 ez_4 => ?_)
        refine lv_aload_n hx hb dX0_disagreements_109 rfl (lv_at hl 1 rfl) ?_
        refine cg_4_5 (v := (σ 12)) hx hb hts hinX0 hown hK hP (hts (.fieldLink RX0 33 "CensusDesk$Book" "persons" "I") (List.mem_of_getElem? (i := 2) rfl)) rfl dX0_disagreements_110 ?_
        refine lv_icmp_eq (tgt := 119) hx hb dX0_disagreements_113 (by decide) (fun c_5 => ?_) (fun c_5 => False.elim (by have kc_5 := bI_ne rfl rfl c_5; exact absurd (show z_4 = (σ 12) from by rw [ez_4, ez_3, w2, hbs.2.1, hbs.2.2.1, icnt3 p_book_personFacts0]; exact tn_of (by omega)) c_5))
        have kc_5 := bI_eq rfl rfl c_5
        refine lv_iload_n hx hb dX0_disagreements_119 rfl (lv_at hl 4 rfl) ?_
        refine lv_aload_n hx hb dX0_disagreements_120 rfl (lv_at hl 1 rfl) ?_
        refine cg_4_8 (v := (σ 15)) hx hb hts hinX0 hown hK hP (hts (.fieldLink RX0 78 "CensusDesk$Book" "ageSum" "I") (List.mem_of_getElem? (i := 5) rfl)) rfl dX0_disagreements_121 ?_
        refine lv_icmp_eq (tgt := 130) hx hb dX0_disagreements_124 (by decide) (fun c_6 => ?_) (fun c_6 => False.elim (by have kc_6 := bI_ne rfl rfl c_6; exact absurd (w3.trans hbs.2.2.2.symm) c_6))
        have kc_6 := bI_eq rfl rfl c_6
        refine lv_iload hx hb dX0_disagreements_130 (lv_at hl 0 rfl) ?_
        subst eQ
        exact W.iret (v := 0) hx hb hr (fun t ht hW => ⟨⟨0, (σ, φ, γ, ψ), rfl, ⟨rfl, rfl, (show (Int32.toInt 0) = 0 from (by have := L_0; omega))⟩, (by show va_P _ _ _ _; rw [ht]; exact hP)⟩, hS.F ht⟩) hS.2.2 dX0_disagreements_132
      · have kc_1 := bI_nle rfl rfl c_1
        refine lv_aload_n hx hb dX0_disagreements_43 rfl (lv_at hl 0 rfl) ?_
        refine lv_iload hx hb dX0_disagreements_44 (lv_at hl 4 rfl) ?_
        refine lv_iconst (v := 0) hx hb dX0_disagreements_46 (by decide) ?_
        refine c_calli (va_runV (As := [.int j, .int 0]) (rest := []) ⟨hx, hb, hml, hown, hts⟩ (c_X0_tellPerson l dC dI a κ σ φ γ ψ g1 g2 j 0 (show 0 ≤ (Int32.toInt (σ 11)) ∧ (Int32.toInt (σ 11)) ≤ 60 ∧ 0 ≤ (Int32.toInt (σ 12)) ∧ (Int32.toInt (σ 12)) ≤ 300 from (by omega))) (cwV 2 hts gX0_disagreements_X0_tellPerson rfl rfl rfl ⟨rfl, hd_X0_tellPerson⟩ ⟨Nat.le_of_ble_eq_true rfl, Nat.le_of_ble_eq_true rfl⟩) (cPreV hP hK hI hN hX hS (va_recv hK hP (ci := 0) (q0 := 4) rfl rfl)) rfl rfl hl.1 rfl (lv_room (Nat.le_of_ble_eq_true rfl)) dX0_disagreements_47 ⟨(by decide +kernel), (by decide +kernel)⟩) hS ?_
        clear hP hS; intro r_7 S_7 F_7 γ_7 ψ_7 H locs hw hP hS
        obtain ⟨rfl, rfl, (t0_7 : (0 ≤ (Int32.toInt j) ∧ (Int32.toInt j) < (Int32.toInt (σ 12)) ∧ (Int32.toInt 0) = 0) → r_7 = (φ 6) (Int32.toNatClampNeg j)), (t1_7 : (0 ≤ (Int32.toInt j) ∧ (Int32.toInt j) < (Int32.toInt (σ 12)) ∧ (Int32.toInt 0) = 1) → r_7 = (φ 7) (Int32.toNatClampNeg j)), (to_7 : ((Int32.toInt j) < 0 ∨ (Int32.toInt (σ 12)) ≤ (Int32.toInt j)) → (Int32.toInt r_7) = -1)⟩ := hw
        have hL0_7 := L_0
        refine lv_iconst (v := (-1)) hx hb dX0_disagreements_50 (by decide) ?_
        refine lv_icmp_ne (tgt := 57) hx hb dX0_disagreements_51 (by decide) (fun c_8 => ?_) (fun c_8 => ?_)
        · have kc_8 := bI_ne rfl L_m1 c_8
          refine lv_aload_n hx hb dX0_disagreements_57 rfl (lv_at hl 0 rfl) ?_
          refine lv_iload hx hb dX0_disagreements_58 (lv_at hl 4 rfl) ?_
          refine lv_iconst (v := 1) hx hb dX0_disagreements_60 (by decide) ?_
          refine c_calli (va_runV (As := [.int j, .int 1]) (rest := []) ⟨hx, hb, hml, hown, hts⟩ (c_X0_tellPerson l dC dI a κ σ φ γ_7 ψ_7 g1 g2 j 1 (show 0 ≤ (Int32.toInt (σ 11)) ∧ (Int32.toInt (σ 11)) ≤ 60 ∧ 0 ≤ (Int32.toInt (σ 12)) ∧ (Int32.toInt (σ 12)) ≤ 300 from (by omega))) (cwV 2 hts gX0_disagreements_X0_tellPerson rfl rfl rfl ⟨rfl, hd_X0_tellPerson⟩ ⟨Nat.le_of_ble_eq_true rfl, Nat.le_of_ble_eq_true rfl⟩) (cPreV hP hK hI hN hX hS (va_recv hK hP (ci := 0) (q0 := 4) rfl rfl)) rfl rfl hl.1 rfl (lv_room (Nat.le_of_ble_eq_true rfl)) dX0_disagreements_61 ⟨(by decide +kernel), (by decide +kernel)⟩) hS ?_
          clear hP hS; intro r_9 S_9 F_9 γ_9 ψ_9 H locs hw hP hS
          obtain ⟨rfl, rfl, (t0_9 : (0 ≤ (Int32.toInt j) ∧ (Int32.toInt j) < (Int32.toInt (σ 12)) ∧ (Int32.toInt 1) = 0) → r_9 = (φ 6) (Int32.toNatClampNeg j)), (t1_9 : (0 ≤ (Int32.toInt j) ∧ (Int32.toInt j) < (Int32.toInt (σ 12)) ∧ (Int32.toInt 1) = 1) → r_9 = (φ 7) (Int32.toNatClampNeg j)), (to_9 : ((Int32.toInt j) < 0 ∨ (Int32.toInt (σ 12)) ≤ (Int32.toInt j)) → (Int32.toInt r_9) = -1)⟩ := hw
          have hL1_9 := L_1
          refine lv_iconst (v := (-1)) hx hb dX0_disagreements_64 (by decide) ?_
          refine lv_icmp_eq (tgt := 78) hx hb dX0_disagreements_65 (by decide) (fun c_10 => ?_) (fun c_10 => ?_)
          · have kc_10 := bI_eq rfl L_m1 c_10
            obtain ⟨i_11, ei_11⟩ : ∃ z : Int32, z = j + 1 := ⟨_, rfl⟩
            refine lv_iinc (v := i_11) (lv' := [(4, .int i_11), (0, .ref (a 4)), (1, .int inH), (2, .int wos), (3, .int ages)]) hx hb dX0_disagreements_78 hl (k := 4) rfl (by rw [ei_11]; rfl) (by decide) rfl ?_
            clear hl; intro ls hl
            have ti_11 : (Int32.toInt i_11) = (Int32.toInt j) + 1 := aI_add rfl L_1 ei_11 (by have := rng j; have := rng (σ 12); omega)
            have hn : Int32.toNatClampNeg i_11 = Int32.toNatClampNeg j + 1 := tn_succ (by omega) ti_11
            have w2 : wos = icnt (-1) (φ 6) (Int32.toNatClampNeg i_11) := by rw [hn, icnt, ← t0_7 (by omega), if_neg c_8, Int32.add_zero]; exact w2
            have w3 : ages = iage (φ 7) (Int32.toNatClampNeg i_11) := by rw [hn, iage, ← t1_9 (by omega), if_pos c_10, Int32.add_zero]; exact w3
            refine lv_goto (tgt := 34) hx hb dX0_disagreements_81 (by decide) ?_
            exact ih34 inH wos ages i_11 γ_9 ψ_9 _ _ _ (show 0 ≤ (Int32.toInt i_11) ∧ (Int32.toInt i_11) ≤ (Int32.toInt (σ 12)) from (by omega)) (show inH = (σ 12) from (by with_reducible assumption)) (show wos = icnt (-1) (φ 6) (Int32.toNatClampNeg i_11) from (by with_reducible assumption)) (show ages = iage (φ 7) (Int32.toNatClampNeg i_11) from (by with_reducible assumption)) (by omega) hP hS (lv_sub hl [1, 2, 3, 4, 0] rfl)
          · have kc_10 := bI_ne rfl L_m1 c_10
            refine lv_iload_n hx hb dX0_disagreements_68 rfl (lv_at hl 3 rfl) ?_
            refine lv_aload_n hx hb dX0_disagreements_69 rfl (lv_at hl 0 rfl) ?_
            refine lv_iload hx hb dX0_disagreements_70 (lv_at hl 4 rfl) ?_
            refine lv_iconst (v := 1) hx hb dX0_disagreements_72 (by decide) ?_
            refine c_calli (va_runV (As := [.int j, .int 1]) (rest := [.int ages]) ⟨hx, hb, hml, hown, hts⟩ (c_X0_tellPerson l dC dI a κ σ φ γ_9 ψ_9 g1 g2 j 1 (show 0 ≤ (Int32.toInt (σ 11)) ∧ (Int32.toInt (σ 11)) ≤ 60 ∧ 0 ≤ (Int32.toInt (σ 12)) ∧ (Int32.toInt (σ 12)) ≤ 300 from (by omega))) (cwV 2 hts gX0_disagreements_X0_tellPerson rfl rfl rfl ⟨rfl, hd_X0_tellPerson⟩ ⟨Nat.le_of_ble_eq_true rfl, Nat.le_of_ble_eq_true rfl⟩) (cPreV hP hK hI hN hX hS (va_recv hK hP (ci := 0) (q0 := 4) rfl rfl)) rfl rfl hl.1 rfl (lv_room (Nat.le_of_ble_eq_true rfl)) dX0_disagreements_73 ⟨(by decide +kernel), (by decide +kernel)⟩) hS ?_
            clear hP hS; intro r_12 S_12 F_12 γ_12 ψ_12 H locs hw hP hS
            obtain ⟨rfl, rfl, (t0_12 : (0 ≤ (Int32.toInt j) ∧ (Int32.toInt j) < (Int32.toInt (σ 12)) ∧ (Int32.toInt 1) = 0) → r_12 = (φ 6) (Int32.toNatClampNeg j)), (t1_12 : (0 ≤ (Int32.toInt j) ∧ (Int32.toInt j) < (Int32.toInt (σ 12)) ∧ (Int32.toInt 1) = 1) → r_12 = (φ 7) (Int32.toNatClampNeg j)), (to_12 : ((Int32.toInt j) < 0 ∨ (Int32.toInt (σ 12)) ≤ (Int32.toInt j)) → (Int32.toInt r_12) = -1)⟩ := hw
            have hL1_12 := L_1
            refine lv_iadd hx hb dX0_disagreements_76 ?_
            refine lv_topi (fun z_13 ez_13 => ?_)
            refine lv_istore_n (lv' := [(3, .int z_13), (0, .ref (a 4)), (1, .int inH), (2, .int wos), (4, .int j)]) hx hb dX0_disagreements_77 rfl hl (by decide) rfl ?_
            clear hl; intro ls hl
            obtain ⟨i_14, ei_14⟩ : ∃ z : Int32, z = j + 1 := ⟨_, rfl⟩
            refine lv_iinc (v := i_14) (lv' := [(4, .int i_14), (3, .int z_13), (0, .ref (a 4)), (1, .int inH), (2, .int wos)]) hx hb dX0_disagreements_78 hl (k := 4) rfl (by rw [ei_14]; rfl) (by decide) rfl ?_
            clear hl; intro ls hl
            have ti_14 : (Int32.toInt i_14) = (Int32.toInt j) + 1 := aI_add rfl L_1 ei_14 (by have := rng j; have := rng (σ 12); omega)
            have hn : Int32.toNatClampNeg i_14 = Int32.toNatClampNeg j + 1 := tn_succ (by omega) ti_14
            have w2 : wos = icnt (-1) (φ 6) (Int32.toNatClampNeg i_14) := by rw [hn, icnt, ← t0_7 (by omega), if_neg c_8, Int32.add_zero]; exact w2
            have w3 : z_13 = iage (φ 7) (Int32.toNatClampNeg i_14) := by rw [hn, iage, ← t1_9 (by omega), if_neg c_10, ← w3, t1_9 (by omega), ← t1_12 (by omega)]; exact ez_13
            refine lv_goto (tgt := 34) hx hb dX0_disagreements_81 (by decide) ?_
            exact ih34 inH wos z_13 i_14 γ_12 ψ_12 _ _ _ (show 0 ≤ (Int32.toInt i_14) ∧ (Int32.toInt i_14) ≤ (Int32.toInt (σ 12)) from (by omega)) (show inH = (σ 12) from (by with_reducible assumption)) (show wos = icnt (-1) (φ 6) (Int32.toNatClampNeg i_14) from (by with_reducible assumption)) (show z_13 = iage (φ 7) (Int32.toNatClampNeg i_14) from (by with_reducible assumption)) (by omega) hP hS (lv_sub hl [2, 3, 4, 1, 0] rfl)
        · have kc_8 := bI_eq rfl L_m1 c_8
          obtain ⟨i_15, ei_15⟩ : ∃ z : Int32, z = wos + 1 := ⟨_, rfl⟩
          refine lv_iinc (v := i_15) (lv' := [(2, .int i_15), (0, .ref (a 4)), (1, .int inH), (3, .int ages), (4, .int j)]) hx hb dX0_disagreements_54 hl (k := 2) rfl (by rw [ei_15]; rfl) (by decide) rfl ?_
          clear hl; intro ls hl
          refine lv_aload_n hx hb dX0_disagreements_57 rfl (lv_at hl 1 rfl) ?_
          refine lv_iload hx hb dX0_disagreements_58 (lv_at hl 4 rfl) ?_
          refine lv_iconst (v := 1) hx hb dX0_disagreements_60 (by decide) ?_
          refine c_calli (va_runV (As := [.int j, .int 1]) (rest := []) ⟨hx, hb, hml, hown, hts⟩ (c_X0_tellPerson l dC dI a κ σ φ γ_7 ψ_7 g1 g2 j 1 (show 0 ≤ (Int32.toInt (σ 11)) ∧ (Int32.toInt (σ 11)) ≤ 60 ∧ 0 ≤ (Int32.toInt (σ 12)) ∧ (Int32.toInt (σ 12)) ≤ 300 from (by omega))) (cwV 2 hts gX0_disagreements_X0_tellPerson rfl rfl rfl ⟨rfl, hd_X0_tellPerson⟩ ⟨Nat.le_of_ble_eq_true rfl, Nat.le_of_ble_eq_true rfl⟩) (cPreV hP hK hI hN hX hS (va_recv hK hP (ci := 0) (q0 := 4) rfl rfl)) rfl rfl hl.1 rfl (lv_room (Nat.le_of_ble_eq_true rfl)) dX0_disagreements_61 ⟨(by decide +kernel), (by decide +kernel)⟩) hS ?_
          clear hP hS; intro r_16 S_16 F_16 γ_16 ψ_16 H locs hw hP hS
          obtain ⟨rfl, rfl, (t0_16 : (0 ≤ (Int32.toInt j) ∧ (Int32.toInt j) < (Int32.toInt (σ 12)) ∧ (Int32.toInt 1) = 0) → r_16 = (φ 6) (Int32.toNatClampNeg j)), (t1_16 : (0 ≤ (Int32.toInt j) ∧ (Int32.toInt j) < (Int32.toInt (σ 12)) ∧ (Int32.toInt 1) = 1) → r_16 = (φ 7) (Int32.toNatClampNeg j)), (to_16 : ((Int32.toInt j) < 0 ∨ (Int32.toInt (σ 12)) ≤ (Int32.toInt j)) → (Int32.toInt r_16) = -1)⟩ := hw
          have hL1_16 := L_1
          refine lv_iconst (v := (-1)) hx hb dX0_disagreements_64 (by decide) ?_
          refine lv_icmp_eq (tgt := 78) hx hb dX0_disagreements_65 (by decide) (fun c_17 => ?_) (fun c_17 => ?_)
          · have kc_17 := bI_eq rfl L_m1 c_17
            obtain ⟨i_18, ei_18⟩ : ∃ z : Int32, z = j + 1 := ⟨_, rfl⟩
            refine lv_iinc (v := i_18) (lv' := [(4, .int i_18), (2, .int i_15), (0, .ref (a 4)), (1, .int inH), (3, .int ages)]) hx hb dX0_disagreements_78 hl (k := 4) rfl (by rw [ei_18]; rfl) (by decide) rfl ?_
            clear hl; intro ls hl
            have ti_18 : (Int32.toInt i_18) = (Int32.toInt j) + 1 := aI_add rfl L_1 ei_18 (by have := rng j; have := rng (σ 12); omega)
            have hn : Int32.toNatClampNeg i_18 = Int32.toNatClampNeg j + 1 := tn_succ (by omega) ti_18
            have w2 : i_15 = icnt (-1) (φ 6) (Int32.toNatClampNeg i_18) := by rw [hn, icnt, ← t0_7 (by omega), if_pos c_8, ← w2]; exact ei_15
            have w3 : ages = iage (φ 7) (Int32.toNatClampNeg i_18) := by rw [hn, iage, ← t1_16 (by omega), if_pos c_17, Int32.add_zero]; exact w3
            refine lv_goto (tgt := 34) hx hb dX0_disagreements_81 (by decide) ?_
            exact ih34 inH i_15 ages i_18 γ_16 ψ_16 _ _ _ (show 0 ≤ (Int32.toInt i_18) ∧ (Int32.toInt i_18) ≤ (Int32.toInt (σ 12)) from (by omega)) (show inH = (σ 12) from (by with_reducible assumption)) (show i_15 = icnt (-1) (φ 6) (Int32.toNatClampNeg i_18) from (by with_reducible assumption)) (show ages = iage (φ 7) (Int32.toNatClampNeg i_18) from (by with_reducible assumption)) (by omega) hP hS (lv_sub hl [2, 3, 1, 4, 0] rfl)
          · have kc_17 := bI_ne rfl L_m1 c_17
            refine lv_iload_n hx hb dX0_disagreements_68 rfl (lv_at hl 3 rfl) ?_
            refine lv_aload_n hx hb dX0_disagreements_69 rfl (lv_at hl 1 rfl) ?_
            refine lv_iload hx hb dX0_disagreements_70 (lv_at hl 4 rfl) ?_
            refine lv_iconst (v := 1) hx hb dX0_disagreements_72 (by decide) ?_
            refine c_calli (va_runV (As := [.int j, .int 1]) (rest := [.int ages]) ⟨hx, hb, hml, hown, hts⟩ (c_X0_tellPerson l dC dI a κ σ φ γ_16 ψ_16 g1 g2 j 1 (show 0 ≤ (Int32.toInt (σ 11)) ∧ (Int32.toInt (σ 11)) ≤ 60 ∧ 0 ≤ (Int32.toInt (σ 12)) ∧ (Int32.toInt (σ 12)) ≤ 300 from (by omega))) (cwV 2 hts gX0_disagreements_X0_tellPerson rfl rfl rfl ⟨rfl, hd_X0_tellPerson⟩ ⟨Nat.le_of_ble_eq_true rfl, Nat.le_of_ble_eq_true rfl⟩) (cPreV hP hK hI hN hX hS (va_recv hK hP (ci := 0) (q0 := 4) rfl rfl)) rfl rfl hl.1 rfl (lv_room (Nat.le_of_ble_eq_true rfl)) dX0_disagreements_73 ⟨(by decide +kernel), (by decide +kernel)⟩) hS ?_
            clear hP hS; intro r_19 S_19 F_19 γ_19 ψ_19 H locs hw hP hS
            obtain ⟨rfl, rfl, (t0_19 : (0 ≤ (Int32.toInt j) ∧ (Int32.toInt j) < (Int32.toInt (σ 12)) ∧ (Int32.toInt 1) = 0) → r_19 = (φ 6) (Int32.toNatClampNeg j)), (t1_19 : (0 ≤ (Int32.toInt j) ∧ (Int32.toInt j) < (Int32.toInt (σ 12)) ∧ (Int32.toInt 1) = 1) → r_19 = (φ 7) (Int32.toNatClampNeg j)), (to_19 : ((Int32.toInt j) < 0 ∨ (Int32.toInt (σ 12)) ≤ (Int32.toInt j)) → (Int32.toInt r_19) = -1)⟩ := hw
            have hL1_19 := L_1
            refine lv_iadd hx hb dX0_disagreements_76 ?_
            refine lv_topi (fun z_20 ez_20 => ?_)
            refine lv_istore_n (lv' := [(3, .int z_20), (2, .int i_15), (0, .ref (a 4)), (1, .int inH), (4, .int j)]) hx hb dX0_disagreements_77 rfl hl (by decide) rfl ?_
            clear hl; intro ls hl
            obtain ⟨i_21, ei_21⟩ : ∃ z : Int32, z = j + 1 := ⟨_, rfl⟩
            refine lv_iinc (v := i_21) (lv' := [(4, .int i_21), (3, .int z_20), (2, .int i_15), (0, .ref (a 4)), (1, .int inH)]) hx hb dX0_disagreements_78 hl (k := 4) rfl (by rw [ei_21]; rfl) (by decide) rfl ?_
            clear hl; intro ls hl
            have ti_21 : (Int32.toInt i_21) = (Int32.toInt j) + 1 := aI_add rfl L_1 ei_21 (by have := rng j; have := rng (σ 12); omega)
            have hn : Int32.toNatClampNeg i_21 = Int32.toNatClampNeg j + 1 := tn_succ (by omega) ti_21
            have w2 : i_15 = icnt (-1) (φ 6) (Int32.toNatClampNeg i_21) := by rw [hn, icnt, ← t0_7 (by omega), if_pos c_8, ← w2]; exact ei_15
            have w3 : z_20 = iage (φ 7) (Int32.toNatClampNeg i_21) := by rw [hn, iage, ← t1_16 (by omega), if_neg c_17, ← w3, t1_16 (by omega), ← t1_19 (by omega)]; exact ez_20
            refine lv_goto (tgt := 34) hx hb dX0_disagreements_81 (by decide) ?_
            exact ih34 inH i_15 z_20 i_21 γ_19 ψ_19 _ _ _ (show 0 ≤ (Int32.toInt i_21) ∧ (Int32.toInt i_21) ≤ (Int32.toInt (σ 12)) from (by omega)) (show inH = (σ 12) from (by with_reducible assumption)) (show i_15 = icnt (-1) (φ 6) (Int32.toNatClampNeg i_21) from (by with_reducible assumption)) (show z_20 = iage (φ 7) (Int32.toNatClampNeg i_21) from (by with_reducible assumption)) (by omega) hP hS (lv_sub hl [3, 4, 2, 1, 0] rfl)
  have J4 : ∀ (n4 : Nat), ∀ (inH : Int32) (i : Int32) (γ : Nat → Int32) (ψ : Nat → Nat → Int32) (H : Heap) (locs : List Loc) (ls : Array Slot), (0 ≤ (Int32.toInt i) ∧ (Int32.toInt i) ≤ (Int32.toInt (σ 11))) → (inH = isum (φ 5) (Int32.toNatClampNeg i)) → (((Int32.toInt (σ 11)) - (Int32.toInt i)).toNat < n4) → va_P (dC, dI) vwCl (cw a κ (σ, φ, γ, ψ)) H → va_S (cA a) s.heap H locs → lv_has ls 5 [(0, .ref (a 4)), (1, .int inH), (2, .int i)] → W p l e ({ frames := 1, cells := 0, slots := 0, locals := 22 } : Room) s m ([.ref (a 4)] : List Value).toArray below meth c H locs 0 0 QQ (F0 m 4 ls []) := by
    intro n4
    induction n4 with
    | zero =>
      intro inH i γ ψ H locs ls v0 vs hm
      exact absurd hm (Nat.not_lt_zero _)
    | succ n4 ih4 =>
      intro inH i γ ψ H locs ls v0 vs hm hP hS hl
      refine lv_iload_n hx hb dX0_disagreements_4 rfl (lv_at hl 2 rfl) ?_
      refine lv_aload_n hx hb dX0_disagreements_5 rfl (lv_at hl 0 rfl) ?_
      refine cg_4_4 (v := (σ 11)) hx hb hts hinX0 hown hK hP (hts (.fieldLink RX0 29 "CensusDesk$Book" "households" "I") (List.mem_of_getElem? (i := 1) rfl)) rfl dX0_disagreements_6 ?_
      refine lv_icmp_ge (tgt := 27) hx hb dX0_disagreements_9 (by decide) (fun c_22 => ?_) (fun c_22 => ?_)
      · have kc_22 := bI_le rfl rfl c_22
        have ei : i = (σ 11) := Int32.toInt_inj.mp (by omega)
        have vp : inH = (σ 12) := by rw [vs, ei]; exact hbs.1
        refine lv_iconst (v := 0) hx hb dX0_disagreements_27 (by decide) ?_
        refine lv_istore_n (lv' := [(2, .int 0), (0, .ref (a 4)), (1, .int inH)]) hx hb dX0_disagreements_28 rfl hl (by decide) rfl ?_
        clear hl; intro ls hl
        refine lv_iconst (v := 0) hx hb dX0_disagreements_29 (by decide) ?_
        refine lv_istore_n (lv' := [(3, .int 0), (2, .int 0), (0, .ref (a 4)), (1, .int inH)]) hx hb dX0_disagreements_30 rfl hl (by decide) rfl ?_
        clear hl; intro ls hl
        refine lv_iconst (v := 0) hx hb dX0_disagreements_31 (by decide) ?_
        refine lv_istore (lv' := [(4, .int 0), (3, .int 0), (2, .int 0), (0, .ref (a 4)), (1, .int inH)]) hx hb dX0_disagreements_32 hl (by decide) rfl ?_
        clear hl; intro ls hl
        exact J34 (_ + 1) inH 0 0 0 γ ψ _ _ _ (show 0 ≤ (Int32.toInt 0) ∧ (Int32.toInt 0) ≤ (Int32.toInt (σ 12)) from (by have := L_0; omega)) (show inH = (σ 12) from (by with_reducible assumption)) (show 0 = icnt (-1) (φ 6) (Int32.toNatClampNeg 0) from rfl) (show 0 = iage (φ 7) (Int32.toNatClampNeg 0) from rfl) (Nat.lt_succ_self _) hP hS (lv_sub hl [3, 4, 2, 1, 0] rfl)
      · have kc_22 := bI_nle rfl rfl c_22
        refine lv_iload_n hx hb dX0_disagreements_12 rfl (lv_at hl 1 rfl) ?_
        refine lv_aload_n hx hb dX0_disagreements_13 rfl (lv_at hl 0 rfl) ?_
        refine lv_iload_n hx hb dX0_disagreements_14 rfl (lv_at hl 2 rfl) ?_
        refine lv_iconst (v := 2) hx hb dX0_disagreements_15 (by decide) ?_
        refine c_calli (va_runV (As := [.int i, .int 2]) (rest := [.int inH]) ⟨hx, hb, hml, hown, hts⟩ (c_X0_tellHousehold l dC dI a κ σ φ γ ψ g1 g2 i 2 (show 0 ≤ (Int32.toInt (σ 11)) ∧ (Int32.toInt (σ 11)) ≤ 60 ∧ 0 ≤ (Int32.toInt (σ 12)) ∧ (Int32.toInt (σ 12)) ≤ 300 from (by omega))) (cwV 2 hts gX0_disagreements_X0_tellHousehold rfl rfl rfl ⟨rfl, hd_X0_tellHousehold⟩ ⟨Nat.le_of_ble_eq_true rfl, Nat.le_of_ble_eq_true rfl⟩) (cPreV hP hK hI hN hX hS (va_recv hK hP (ci := 0) (q0 := 4) rfl rfl)) rfl rfl hl.1 rfl (lv_room (Nat.le_of_ble_eq_true rfl)) dX0_disagreements_16 ⟨(by decide +kernel), (by decide +kernel)⟩) hS ?_
        clear hP hS; intro r_23 S_23 F_23 γ_23 ψ_23 H locs hw hP hS
        obtain ⟨rfl, rfl, (th_23 : (0 ≤ (Int32.toInt i) ∧ (Int32.toInt i) < (Int32.toInt (σ 11)) ∧ (Int32.toInt 2) = 2) → r_23 = (φ 5) (Int32.toNatClampNeg i))⟩ := hw
        have hL2_23 := L_2
        refine lv_iadd hx hb dX0_disagreements_19 ?_
        refine lv_topi (fun z_24 ez_24 => ?_)
        refine lv_istore_n (lv' := [(1, .int z_24), (0, .ref (a 4)), (2, .int i)]) hx hb dX0_disagreements_20 rfl hl (by decide) rfl ?_
        clear hl; intro ls hl
        obtain ⟨i_25, ei_25⟩ : ∃ z : Int32, z = i + 1 := ⟨_, rfl⟩
        refine lv_iinc (v := i_25) (lv' := [(2, .int i_25), (1, .int z_24), (0, .ref (a 4))]) hx hb dX0_disagreements_21 hl (k := 2) rfl (by rw [ei_25]; rfl) (by decide) rfl ?_
        clear hl; intro ls hl
        have ti_25 : (Int32.toInt i_25) = (Int32.toInt i) + 1 := aI_add rfl L_1 ei_25 (by have := rng i; have := rng (σ 11); omega)
        have vs : z_24 = isum (φ 5) (Int32.toNatClampNeg i_25) := by rw [tn_succ (x := i) (by omega) ti_25, isum, ez_24, vs, th_23 (by omega)]
        refine lv_goto (tgt := 4) hx hb dX0_disagreements_24 (by decide) ?_
        exact ih4 z_24 i_25 γ_23 ψ_23 _ _ _ (show 0 ≤ (Int32.toInt i_25) ∧ (Int32.toInt i_25) ≤ (Int32.toInt (σ 11)) from (by omega)) (show z_24 = isum (φ 5) (Int32.toNatClampNeg i_25) from (by with_reducible assumption)) (by omega) hP hS (lv_sub hl [2, 1, 0] rfl)
  refine lv_iconst (v := 0) hx hb dX0_disagreements_0 (by decide) ?_
  refine lv_istore_n (lv' := [(1, .int 0), (0, .ref (a 4))]) hx hb dX0_disagreements_1 rfl hl (by decide) rfl ?_
  clear hl; intro ls hl
  refine lv_iconst (v := 0) hx hb dX0_disagreements_2 (by decide) ?_
  refine lv_istore_n (lv' := [(2, .int 0), (1, .int 0), (0, .ref (a 4))]) hx hb dX0_disagreements_3 rfl hl (by decide) rfl ?_
  clear hl; intro ls hl
  exact J4 (_ + 1) 0 0 γ ψ _ _ _ (show 0 ≤ (Int32.toInt 0) ∧ (Int32.toInt 0) ≤ (Int32.toInt (σ 11)) from (by have := L_0; omega)) (show 0 = isum (φ 5) (Int32.toNatClampNeg 0) from rfl) (Nat.lt_succ_self _) hP hS (lv_sub hl [2, 1, 0] rfl)
set_option maxHeartbeats 4000000 in
set_option maxRecDepth 100000 in
theorem c_X4_stop (l : Launch) (dC : Nat → ClassId) (dI : Nat → Nat → Nat) (a : Nat → Nat) (κ : Nat → ClassId) (σ : Nat → Int32) (φ : Nat → Nat → Int32) (γ : Nat → Int32) (ψ : Nat → Nat → Int32) (g1 g2 : Nat) (kind : Int32) : Met l yX4_stop wsX4_stop ({ frames := 0, cells := 0, slots := 0, locals := 0 } : Room) (va_Pc [.ref (a 5), .int kind] (cPre dC dI a κ (σ, φ, γ, ψ) g1 g2)) (va_Qv (QV (fun S F => σ = S ∧ φ = F ∧ True)) (cB dC dI a κ) (cA a)) 0 0 (cA a) := by
  refine Met.ofW (cc := cX4_stop) (maxL := 2) (ret := none) (by decide) rfl ?_
  intro p e s m args below meth c s₁ B hml hv
  obtain ⟨rfl, hP, hK, hI, hN, hX⟩ := hv
  have hx := B.exec
  have hb := B.bytes
  have hr := B.returns
  have hts := atoms_spec (ws := wsX4_stop) B.pre
  have hown : s.vm.findClass RX4 = some m.cls := findClass_of_methodNamed B.named
  have hlocks := B.notSynchronized
  have hS : va_S (cA a) s.heap s.heap [] := va_S.rf
  have hinX4 : ∀ w ∈ wsX40, w ∈ wsX4_stop := fun _ h => List.mem_cons_of_mem _ (List.mem_append_left _ (List.mem_append_right _ h))
  have hinX2 : ∀ w ∈ wsX20, w ∈ wsX4_stop := fun _ h => List.mem_cons_of_mem _ (List.mem_append_right _ h)
  have hl := lv_entry ([.ref (a 5), .int kind]) (n := 2) (Nat.le_of_ble_eq_true rfl)
  rw [lg_entry_eq]
  generalize (lg_sl ([.ref (a 5), .int kind]) ++ List.replicate (2 - (lg_sl ([.ref (a 5), .int kind])).length) Slot.unset).toArray = ls at hl ⊢
  have hl : lv_has ls 2 [(0, .ref (a 5)), (1, .int kind)] := hl
  refine lv_aload_n hx hb dX4_stop_0 rfl (lv_at hl 0 rfl) ?_
  refine cg_5_6 hx hb hts hinX4 hown hK hP (hts (.fieldLink RX4 28 "CensusDesk$Reader" "household" "LCensusDesk$Household;") (List.mem_of_getElem? (i := 1) rfl)) dX4_stop_1 ?_
  refine cgN_8_6 (v := (σ 8)) hx hb hts hinX2 hown hK hP (va_Nw.use rfl (hN.1 ("CensusDesk$Reader", 81, "CensusDesk$Household", "open", "Z") (List.mem_of_getElem? (i := 19) rfl))) rfl dX4_stop_4 ?_
  refine lv_if_eq (tgt := 16) hx hb dX4_stop_7 (by decide) (fun c_1 => ?_) (fun c_1 => ?_)
  · have kc_1 := bI_eq rfl L_0 c_1
    refine lv_aload_n hx hb dX4_stop_16 rfl (lv_at hl 0 rfl) ?_
    refine lv_iconst (v := 1) hx hb dX4_stop_17 (by decide) ?_
    refine cp_5_15 (v := 1) hx hb hts hinX4 hown hK hP hI hS (hts (.fieldLink RX4 75 "CensusDesk$Reader" "stopNow" "Z") (List.mem_of_getElem? (i := 2) rfl)) (by first | rfl | decide) (by first | rfl | decide) dX4_stop_18 ?_
    clear hP hS; intro H locs hP hS
    refine lv_goto (tgt := 29) hx hb dX4_stop_21 (by decide) ?_
    exact W.vret hx hb hr (fun t ht hW => ⟨⟨(σ, φ, (up γ 5 1), ψ), rfl, ⟨rfl, rfl, trivial⟩, (by show va_P _ _ _ _; rw [ht]; exact hP)⟩, hS.F ht⟩) hS.2.2 dX4_stop_29
  · have kc_1 := bI_ne rfl L_0 c_1
    refine lv_iload_n hx hb dX4_stop_10 rfl (lv_at hl 1 rfl) ?_
    refine lv_bipush (v := 19) hx hb dX4_stop_11 (by decide) ?_
    refine lv_icmp_lt (tgt := 24) hx hb dX4_stop_13 (by decide) (fun c_2 => ?_) (fun c_2 => ?_)
    · have kc_2 := bI_lt rfl L_19 c_2
      refine lv_aload_n hx hb dX4_stop_24 rfl (lv_at hl 0 rfl) ?_
      refine lv_iconst (v := 1) hx hb dX4_stop_25 (by decide) ?_
      refine cp_5_16 (v := 1) hx hb hts hinX4 hown hK hP hI hS (hts (.fieldLink RX4 78 "CensusDesk$Reader" "stopBehindHousehold" "Z") (List.mem_of_getElem? (i := 3) rfl)) (by first | rfl | decide) (by first | rfl | decide) dX4_stop_26 ?_
      clear hP hS; intro H locs hP hS
      exact W.vret hx hb hr (fun t ht hW => ⟨⟨(σ, φ, (up γ 6 1), ψ), rfl, ⟨rfl, rfl, trivial⟩, (by show va_P _ _ _ _; rw [ht]; exact hP)⟩, hS.F ht⟩) hS.2.2 dX4_stop_29
    · have kc_2 := bI_nlt rfl L_19 c_2
      refine lv_aload_n hx hb dX4_stop_16 rfl (lv_at hl 0 rfl) ?_
      refine lv_iconst (v := 1) hx hb dX4_stop_17 (by decide) ?_
      refine cp_5_15 (v := 1) hx hb hts hinX4 hown hK hP hI hS (hts (.fieldLink RX4 75 "CensusDesk$Reader" "stopNow" "Z") (List.mem_of_getElem? (i := 2) rfl)) (by first | rfl | decide) (by first | rfl | decide) dX4_stop_18 ?_
      clear hP hS; intro H locs hP hS
      refine lv_goto (tgt := 29) hx hb dX4_stop_21 (by decide) ?_
      exact W.vret hx hb hr (fun t ht hW => ⟨⟨(σ, φ, (up γ 5 1), ψ), rfl, ⟨rfl, rfl, trivial⟩, (by show va_P _ _ _ _; rw [ht]; exact hP)⟩, hS.F ht⟩) hS.2.2 dX4_stop_29
