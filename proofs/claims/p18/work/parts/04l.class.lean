set_option maxHeartbeats 4000000 in
set_option maxRecDepth 100000 in
theorem c_X4_closeHousehold (l : Launch) (dC : Nat → ClassId) (dI : Nat → Nat → Nat) (a : Nat → Nat) (κ : Nat → ClassId) (σ : Nat → Int32) (φ : Nat → Nat → Int32) (γ : Nat → Int32) (ψ : Nat → Nat → Int32) (g1 g2 : Nat)  (p_hh_sex : PtR (-1) 1 (φ 4)) (p_book_personFacts0 : PtR (-1) 1 (φ 6)) (hc : 0 ≤ (Int32.toInt (σ 1)) ∧ (Int32.toInt (σ 1)) ≤ 1000000000) (hb : 0 ≤ (Int32.toInt (σ 11)) ∧ (Int32.toInt (σ 11)) ≤ 60 ∧ 0 ≤ (Int32.toInt (σ 12)) ∧ (Int32.toInt (σ 12)) ≤ 300) (hbs : BS (σ 11) (σ 12) (σ 13) (σ 14) (σ 15) (φ 5) (φ 6) (φ 7)) (hbp : BP (σ 11) (σ 12) (σ 16) (σ 17) (φ 5)) (ht : 0 ≤ (Int32.toInt (σ 16)) ∧ (Int32.toInt (σ 16)) ≤ 4000 ∧ 0 ≤ (Int32.toInt (σ 17)) ∧ (Int32.toInt (σ 17)) ≤ 2000 * (Int32.toInt (σ 16))) (hp : 0 ≤ (Int32.toInt (σ 9)) ∧ (Int32.toInt (σ 9)) ≤ 2000 ∧ 0 ≤ (Int32.toInt (σ 10)) ∧ (Int32.toInt (σ 10)) ≤ 30 * (Int32.toInt (σ 9))) : Met l yX4_closeHousehold wsX4_closeHousehold ({ frames := 4, cells := 0, slots := 0, locals := 97 } : Room) (va_Pc [.ref (a 5)] (cPre dC dI a κ (σ, φ, γ, ψ) g1 g2)) (va_Qv (QV (fun S F => ∃ (s1 : Int32) (f5 : Nat → Int32) (f6 : Nat → Int32) (f7 : Nat → Int32) (s16 : Int32) (s17 : Int32) (s8 : Int32), (up (up (up (up σ 1 s1) 16 s16) 17 s17) 8 s8) = S ∧ (up (up (up φ 5 f5) 6 f6) 7 f7) = F ∧ PtR (-1) 1 f6 ∧ ((Int32.toInt (σ 1)) ≤ (Int32.toInt s1) ∧ (Int32.toInt s1) ≤ (Int32.toInt (σ 1)) + 6) ∧ (BS (σ 11) (σ 12) (σ 13) (σ 14) (σ 15) f5 f6 f7) ∧ (BP (σ 11) (σ 12) s16 s17 f5) ∧ ((Int32.toInt (σ 16)) ≤ (Int32.toInt s16) ∧ (Int32.toInt s16) ≤ (Int32.toInt (σ 16)) + 1 ∧ 0 ≤ (Int32.toInt s17) ∧ (Int32.toInt s17) ≤ 2000 * (Int32.toInt s16)) ∧ ((Int32.toInt s8) = 0))) (cB dC dI a κ) (cA a)) 0 0 (cA a) := by
  refine Met.ofW (cc := cX4_closeHousehold) (maxL := 1) (ret := none) (by decide) rfl ?_
  intro p e s m args below meth c s₁ B hml hv
  obtain ⟨rfl, hP, hK, hI, hN, hX⟩ := hv
  have hx := B.exec
  have hb := B.bytes
  have hr := B.returns
  have hts := atoms_spec (ws := wsX4_closeHousehold) B.pre
  have hown : s.vm.findClass RX4 = some m.cls := findClass_of_methodNamed B.named
  have hlocks := B.notSynchronized
  have hS : va_S (cA a) s.heap s.heap [] := va_S.rf
  have hinX4 : ∀ w ∈ wsX40, w ∈ wsX4_closeHousehold := fun _ h => List.mem_cons_of_mem _ (List.mem_append_left _ (List.mem_append_left _ (List.mem_append_left _ (List.mem_append_left _ (List.mem_append_right _ h)))))
  have hinX2 : ∀ w ∈ wsX20, w ∈ wsX4_closeHousehold := fun _ h => List.mem_cons_of_mem _ (List.mem_append_left _ (List.mem_append_left _ (List.mem_append_left _ (List.mem_append_right _ h))))
  have hinX5 : ∀ w ∈ wsX50, w ∈ wsX4_closeHousehold := fun _ h => List.mem_cons_of_mem _ (List.mem_append_left _ (List.mem_append_left _ (List.mem_append_right _ h)))
  have hinX1 : ∀ w ∈ wsX10, w ∈ wsX4_closeHousehold := fun _ h => List.mem_cons_of_mem _ (List.mem_append_left _ (List.mem_append_right _ h))
  have hinX0 : ∀ w ∈ wsX00, w ∈ wsX4_closeHousehold := fun _ h => List.mem_cons_of_mem _ (List.mem_append_right _ h)
  have hl := lv_entry ([.ref (a 5)]) (n := 1) (Nat.le_of_ble_eq_true rfl)
  rw [lg_entry_eq]
  generalize (lg_sl ([.ref (a 5)]) ++ List.replicate (1 - (lg_sl ([.ref (a 5)])).length) Slot.unset).toArray = ls at hl ⊢
  have hl : lv_has ls 1 [(0, .ref (a 5))] := hl
  refine lv_aload_n hx hb dX4_closeHousehold_0 rfl (lv_at hl 0 rfl) ?_
  refine cg_5_6 hx hb hts hinX4 hown hK hP (hts (.fieldLink RX4 28 "CensusDesk$Reader" "household" "LCensusDesk$Household;") (List.mem_of_getElem? (i := 1) rfl)) dX4_closeHousehold_1 ?_
  refine cgN_8_7 (v := (γ 9)) hx hb hts hinX2 hown hK hP (va_Nw.use rfl (hN.1 ("CensusDesk$Reader", 135, "CensusDesk$Household", "lost", "Z") (List.mem_of_getElem? (i := 20) rfl))) rfl dX4_closeHousehold_4 ?_
  refine lv_if_ne (tgt := 14) hx hb dX4_closeHousehold_7 (by decide) (fun c_1 => ?_) (fun c_1 => ?_)
  · have kc_1 := bI_ne rfl L_0 c_1
    refine lv_aload_n hx hb dX4_closeHousehold_14 rfl (lv_at hl 0 rfl) ?_
    refine cg_5_6 hx hb hts hinX4 hown hK hP (hts (.fieldLink RX4 28 "CensusDesk$Reader" "household" "LCensusDesk$Household;") (List.mem_of_getElem? (i := 1) rfl)) dX4_closeHousehold_15 ?_
    refine cgN_8_7 (v := (γ 9)) hx hb hts hinX2 hown hK hP (va_Nw.use rfl (hN.1 ("CensusDesk$Reader", 135, "CensusDesk$Household", "lost", "Z") (List.mem_of_getElem? (i := 20) rfl))) rfl dX4_closeHousehold_18 ?_
    refine lv_if_ne (tgt := 28) hx hb dX4_closeHousehold_21 (by decide) (fun c_2 => ?_) (fun c_2 => ?_)
    · have kc_2 := bI_ne rfl L_0 c_2
      refine lv_aload_n hx hb dX4_closeHousehold_28 rfl (lv_at hl 0 rfl) ?_
      refine cg_5_6 hx hb hts hinX4 hown hK hP (hts (.fieldLink RX4 28 "CensusDesk$Reader" "household" "LCensusDesk$Household;") (List.mem_of_getElem? (i := 1) rfl)) dX4_closeHousehold_29 ?_
      refine lv_iconst (v := 0) hx hb dX4_closeHousehold_32 (by decide) ?_
      refine cpN_8_6 (v := 0) hx hb hts hinX2 hown hK hP hI hS (va_Nw.use rfl (hN.1 ("CensusDesk$Reader", 81, "CensusDesk$Household", "open", "Z") (List.mem_of_getElem? (i := 19) rfl))) (by first | rfl | decide) (by first | rfl | decide) dX4_closeHousehold_33 ?_
      clear hP hS; intro H locs hP hS
      refine lv_aload_n hx hb dX4_closeHousehold_36 rfl (lv_at hl 0 rfl) ?_
      refine cg_5_16 (v := (γ 6)) hx hb hts hinX4 hown hK hP (hts (.fieldLink RX4 78 "CensusDesk$Reader" "stopBehindHousehold" "Z") (List.mem_of_getElem? (i := 2) rfl)) rfl dX4_closeHousehold_37 ?_
      refine lv_if_eq (tgt := 48) hx hb dX4_closeHousehold_40 (by decide) (fun c_3 => ?_) (fun c_3 => ?_)
      · have kc_3 := bI_eq rfl L_0 c_3
        refine lv_aload_n hx hb dX4_closeHousehold_48 rfl (lv_at hl 0 rfl) ?_
        refine lv_iconst (v := 0) hx hb dX4_closeHousehold_49 (by decide) ?_
        refine cp_5_16 (v := 0) hx hb hts hinX4 hown hK hP hI hS (hts (.fieldLink RX4 78 "CensusDesk$Reader" "stopBehindHousehold" "Z") (List.mem_of_getElem? (i := 2) rfl)) (by first | rfl | decide) (by first | rfl | decide) dX4_closeHousehold_50 ?_
        clear hP hS; intro H locs hP hS
        exact W.vret hx hb hr (fun t ht hW => ⟨⟨((up (up (up (up σ 1 (σ 1)) 16 (σ 16)) 17 (σ 17)) 8 0), (up (up (up φ 5 (φ 5)) 6 (φ 6)) 7 (φ 7)), (up γ 6 0), ψ), rfl, ⟨(σ 1), (φ 5), (φ 6), (φ 7), (σ 16), (σ 17), 0, rfl, rfl, p_book_personFacts0, (show (Int32.toInt (σ 1)) ≤ (Int32.toInt (σ 1)) ∧ (Int32.toInt (σ 1)) ≤ (Int32.toInt (σ 1)) + 6 from (by omega)), (show BS (σ 11) (σ 12) (σ 13) (σ 14) (σ 15) (φ 5) (φ 6) (φ 7) from (by with_reducible assumption)), (show BP (σ 11) (σ 12) (σ 16) (σ 17) (φ 5) from (by with_reducible assumption)), (show (Int32.toInt (σ 16)) ≤ (Int32.toInt (σ 16)) ∧ (Int32.toInt (σ 16)) ≤ (Int32.toInt (σ 16)) + 1 ∧ 0 ≤ (Int32.toInt (σ 17)) ∧ (Int32.toInt (σ 17)) ≤ 2000 * (Int32.toInt (σ 16)) from (by omega)), (show (Int32.toInt 0) = 0 from (by have := L_0; omega))⟩, (by show va_P _ _ _ _; rw [ht]; exact hP)⟩, hS.F ht⟩) hS.2.2 dX4_closeHousehold_53
      · have kc_3 := bI_ne rfl L_0 c_3
        refine lv_aload_n hx hb dX4_closeHousehold_43 rfl (lv_at hl 0 rfl) ?_
        refine lv_iconst (v := 1) hx hb dX4_closeHousehold_44 (by decide) ?_
        refine cp_5_15 (v := 1) hx hb hts hinX4 hown hK hP hI hS (hts (.fieldLink RX4 75 "CensusDesk$Reader" "stopNow" "Z") (List.mem_of_getElem? (i := 3) rfl)) (by first | rfl | decide) (by first | rfl | decide) dX4_closeHousehold_45 ?_
        clear hP hS; intro H locs hP hS
        refine lv_aload_n hx hb dX4_closeHousehold_48 rfl (lv_at hl 0 rfl) ?_
        refine lv_iconst (v := 0) hx hb dX4_closeHousehold_49 (by decide) ?_
        refine cp_5_16 (v := 0) hx hb hts hinX4 hown hK hP hI hS (hts (.fieldLink RX4 78 "CensusDesk$Reader" "stopBehindHousehold" "Z") (List.mem_of_getElem? (i := 2) rfl)) (by first | rfl | decide) (by first | rfl | decide) dX4_closeHousehold_50 ?_
        clear hP hS; intro H locs hP hS
        exact W.vret hx hb hr (fun t ht hW => ⟨⟨((up (up (up (up σ 1 (σ 1)) 16 (σ 16)) 17 (σ 17)) 8 0), (up (up (up φ 5 (φ 5)) 6 (φ 6)) 7 (φ 7)), (up (up γ 5 1) 6 0), ψ), rfl, ⟨(σ 1), (φ 5), (φ 6), (φ 7), (σ 16), (σ 17), 0, rfl, rfl, p_book_personFacts0, (show (Int32.toInt (σ 1)) ≤ (Int32.toInt (σ 1)) ∧ (Int32.toInt (σ 1)) ≤ (Int32.toInt (σ 1)) + 6 from (by omega)), (show BS (σ 11) (σ 12) (σ 13) (σ 14) (σ 15) (φ 5) (φ 6) (φ 7) from (by with_reducible assumption)), (show BP (σ 11) (σ 12) (σ 16) (σ 17) (φ 5) from (by with_reducible assumption)), (show (Int32.toInt (σ 16)) ≤ (Int32.toInt (σ 16)) ∧ (Int32.toInt (σ 16)) ≤ (Int32.toInt (σ 16)) + 1 ∧ 0 ≤ (Int32.toInt (σ 17)) ∧ (Int32.toInt (σ 17)) ≤ 2000 * (Int32.toInt (σ 16)) from (by omega)), (show (Int32.toInt 0) = 0 from (by have := L_0; omega))⟩, (by show va_P _ _ _ _; rw [ht]; exact hP)⟩, hS.F ht⟩) hS.2.2 dX4_closeHousehold_53
    · have kc_2 := bI_eq rfl L_0 c_2
      refine lv_aload_n hx hb dX4_closeHousehold_24 rfl (lv_at hl 0 rfl) ?_
      refine c_callv (va_runV (As := []) (rest := []) ⟨hx, hb, hml, hown, hts⟩ (c_X4_takeHousehold l dC dI a κ σ φ γ ψ g1 g2  p_hh_sex p_book_personFacts0 (show 0 ≤ (Int32.toInt (σ 11)) ∧ (Int32.toInt (σ 11)) ≤ 60 ∧ 0 ≤ (Int32.toInt (σ 12)) ∧ (Int32.toInt (σ 12)) ≤ 300 from (by omega)) (show BS (σ 11) (σ 12) (σ 13) (σ 14) (σ 15) (φ 5) (φ 6) (φ 7) from (by with_reducible assumption)) (show BP (σ 11) (σ 12) (σ 16) (σ 17) (φ 5) from (by with_reducible assumption)) (show 0 ≤ (Int32.toInt (σ 16)) ∧ (Int32.toInt (σ 16)) ≤ 4000 ∧ 0 ≤ (Int32.toInt (σ 17)) ∧ (Int32.toInt (σ 17)) ≤ 2000 * (Int32.toInt (σ 16)) from (by omega)) (show 0 ≤ (Int32.toInt (σ 9)) ∧ (Int32.toInt (σ 9)) ≤ 2000 ∧ 0 ≤ (Int32.toInt (σ 10)) ∧ (Int32.toInt (σ 10)) ≤ 30 * (Int32.toInt (σ 9)) from (by omega))) (cwV 0 hts gX4_closeHousehold_X4_takeHousehold rfl rfl rfl ⟨rfl, hd_X4_takeHousehold⟩ ⟨Nat.le_of_ble_eq_true rfl, Nat.le_of_ble_eq_true rfl⟩) (cPreV hP hK hI hN hX hS (va_recv hK hP (ci := 4) (q0 := 5) rfl rfl)) rfl rfl hl.1 rfl (lv_room (Nat.le_of_ble_eq_true rfl)) dX4_closeHousehold_25 ⟨(by decide +kernel), (by decide +kernel)⟩) hS ?_
      clear hP hS; intro S_4 F_4 γ_4 ψ_4 H locs hw hP hS
      obtain ⟨f5_4, f6_4, f7_4, s16_4, s17_4, rfl, rfl, pf6_4, (qb_4 : BS (σ 11) (σ 12) (σ 13) (σ 14) (σ 15) f5_4 f6_4 f7_4), (qn_4 : BP (σ 11) (σ 12) s16_4 s17_4 f5_4), (qt_4 : (Int32.toInt (σ 16)) ≤ (Int32.toInt s16_4) ∧ (Int32.toInt s16_4) ≤ (Int32.toInt (σ 16)) + 1 ∧ 0 ≤ (Int32.toInt s17_4) ∧ (Int32.toInt s17_4) ≤ 2000 * (Int32.toInt s16_4))⟩ := hw
      refine lv_aload_n hx hb dX4_closeHousehold_28 rfl (lv_at hl 0 rfl) ?_
      refine cg_5_6 hx hb hts hinX4 hown hK hP (hts (.fieldLink RX4 28 "CensusDesk$Reader" "household" "LCensusDesk$Household;") (List.mem_of_getElem? (i := 1) rfl)) dX4_closeHousehold_29 ?_
      refine lv_iconst (v := 0) hx hb dX4_closeHousehold_32 (by decide) ?_
      refine cpN_8_6 (v := 0) hx hb hts hinX2 hown hK hP hI hS (va_Nw.use rfl (hN.1 ("CensusDesk$Reader", 81, "CensusDesk$Household", "open", "Z") (List.mem_of_getElem? (i := 19) rfl))) (by first | rfl | decide) (by first | rfl | decide) dX4_closeHousehold_33 ?_
      clear hP hS; intro H locs hP hS
      refine lv_aload_n hx hb dX4_closeHousehold_36 rfl (lv_at hl 0 rfl) ?_
      refine cg_5_16 (v := (γ_4 6)) hx hb hts hinX4 hown hK hP (hts (.fieldLink RX4 78 "CensusDesk$Reader" "stopBehindHousehold" "Z") (List.mem_of_getElem? (i := 2) rfl)) rfl dX4_closeHousehold_37 ?_
      refine lv_if_eq (tgt := 48) hx hb dX4_closeHousehold_40 (by decide) (fun c_5 => ?_) (fun c_5 => ?_)
      · have kc_5 := bI_eq rfl L_0 c_5
        refine lv_aload_n hx hb dX4_closeHousehold_48 rfl (lv_at hl 0 rfl) ?_
        refine lv_iconst (v := 0) hx hb dX4_closeHousehold_49 (by decide) ?_
        refine cp_5_16 (v := 0) hx hb hts hinX4 hown hK hP hI hS (hts (.fieldLink RX4 78 "CensusDesk$Reader" "stopBehindHousehold" "Z") (List.mem_of_getElem? (i := 2) rfl)) (by first | rfl | decide) (by first | rfl | decide) dX4_closeHousehold_50 ?_
        clear hP hS; intro H locs hP hS
        exact W.vret hx hb hr (fun t ht hW => ⟨⟨((up (up (up (up σ 1 (σ 1)) 16 s16_4) 17 s17_4) 8 0), (up (up (up φ 5 f5_4) 6 f6_4) 7 f7_4), (up γ_4 6 0), ψ_4), rfl, ⟨(σ 1), f5_4, f6_4, f7_4, s16_4, s17_4, 0, rfl, rfl, pf6_4, (show (Int32.toInt (σ 1)) ≤ (Int32.toInt (σ 1)) ∧ (Int32.toInt (σ 1)) ≤ (Int32.toInt (σ 1)) + 6 from (by omega)), (show BS (σ 11) (σ 12) (σ 13) (σ 14) (σ 15) f5_4 f6_4 f7_4 from (by with_reducible assumption)), (show BP (σ 11) (σ 12) s16_4 s17_4 f5_4 from (by with_reducible assumption)), (show (Int32.toInt (σ 16)) ≤ (Int32.toInt s16_4) ∧ (Int32.toInt s16_4) ≤ (Int32.toInt (σ 16)) + 1 ∧ 0 ≤ (Int32.toInt s17_4) ∧ (Int32.toInt s17_4) ≤ 2000 * (Int32.toInt s16_4) from (by omega)), (show (Int32.toInt 0) = 0 from (by have := L_0; omega))⟩, (by show va_P _ _ _ _; rw [ht]; exact hP)⟩, hS.F ht⟩) hS.2.2 dX4_closeHousehold_53
      · have kc_5 := bI_ne rfl L_0 c_5
        refine lv_aload_n hx hb dX4_closeHousehold_43 rfl (lv_at hl 0 rfl) ?_
        refine lv_iconst (v := 1) hx hb dX4_closeHousehold_44 (by decide) ?_
        refine cp_5_15 (v := 1) hx hb hts hinX4 hown hK hP hI hS (hts (.fieldLink RX4 75 "CensusDesk$Reader" "stopNow" "Z") (List.mem_of_getElem? (i := 3) rfl)) (by first | rfl | decide) (by first | rfl | decide) dX4_closeHousehold_45 ?_
        clear hP hS; intro H locs hP hS
        refine lv_aload_n hx hb dX4_closeHousehold_48 rfl (lv_at hl 0 rfl) ?_
        refine lv_iconst (v := 0) hx hb dX4_closeHousehold_49 (by decide) ?_
        refine cp_5_16 (v := 0) hx hb hts hinX4 hown hK hP hI hS (hts (.fieldLink RX4 78 "CensusDesk$Reader" "stopBehindHousehold" "Z") (List.mem_of_getElem? (i := 2) rfl)) (by first | rfl | decide) (by first | rfl | decide) dX4_closeHousehold_50 ?_
        clear hP hS; intro H locs hP hS
        exact W.vret hx hb hr (fun t ht hW => ⟨⟨((up (up (up (up σ 1 (σ 1)) 16 s16_4) 17 s17_4) 8 0), (up (up (up φ 5 f5_4) 6 f6_4) 7 f7_4), (up (up γ_4 5 1) 6 0), ψ_4), rfl, ⟨(σ 1), f5_4, f6_4, f7_4, s16_4, s17_4, 0, rfl, rfl, pf6_4, (show (Int32.toInt (σ 1)) ≤ (Int32.toInt (σ 1)) ∧ (Int32.toInt (σ 1)) ≤ (Int32.toInt (σ 1)) + 6 from (by omega)), (show BS (σ 11) (σ 12) (σ 13) (σ 14) (σ 15) f5_4 f6_4 f7_4 from (by with_reducible assumption)), (show BP (σ 11) (σ 12) s16_4 s17_4 f5_4 from (by with_reducible assumption)), (show (Int32.toInt (σ 16)) ≤ (Int32.toInt s16_4) ∧ (Int32.toInt s16_4) ≤ (Int32.toInt (σ 16)) + 1 ∧ 0 ≤ (Int32.toInt s17_4) ∧ (Int32.toInt s17_4) ≤ 2000 * (Int32.toInt s16_4) from (by omega)), (show (Int32.toInt 0) = 0 from (by have := L_0; omega))⟩, (by show va_P _ _ _ _; rw [ht]; exact hP)⟩, hS.F ht⟩) hS.2.2 dX4_closeHousehold_53
  · have kc_1 := bI_eq rfl L_0 c_1
    refine lv_aload_n hx hb dX4_closeHousehold_10 rfl (lv_at hl 0 rfl) ?_
    refine c_callv (va_runV (As := []) (rest := []) ⟨hx, hb, hml, hown, hts⟩ (c_X4_askOfHousehold l dC dI a κ σ φ γ ψ g1 g2  (show 0 ≤ (Int32.toInt (σ 1)) ∧ (Int32.toInt (σ 1)) ≤ 1000000000 from (by omega))) (cwV 0 hts gX4_closeHousehold_X4_askOfHousehold rfl rfl rfl ⟨rfl, hd_X4_askOfHousehold⟩ ⟨Nat.le_of_ble_eq_true rfl, Nat.le_of_ble_eq_true rfl⟩) (cPreV hP hK hI hN hX hS (va_recv hK hP (ci := 4) (q0 := 5) rfl rfl)) rfl rfl hl.1 rfl (lv_room (Nat.le_of_ble_eq_true rfl)) dX4_closeHousehold_11 ⟨(by decide +kernel), (by decide +kernel)⟩) hS ?_
    clear hP hS; intro S_6 F_6 γ_6 ψ_6 H locs hw hP hS
    obtain ⟨s1_6, rfl, rfl, (qc_6 : (Int32.toInt (σ 1)) ≤ (Int32.toInt s1_6) ∧ (Int32.toInt s1_6) ≤ (Int32.toInt (σ 1)) + 6)⟩ := hw
    refine lv_aload_n hx hb dX4_closeHousehold_14 rfl (lv_at hl 0 rfl) ?_
    refine cg_5_6 hx hb hts hinX4 hown hK hP (hts (.fieldLink RX4 28 "CensusDesk$Reader" "household" "LCensusDesk$Household;") (List.mem_of_getElem? (i := 1) rfl)) dX4_closeHousehold_15 ?_
    refine cgN_8_7 (v := (γ_6 9)) hx hb hts hinX2 hown hK hP (va_Nw.use rfl (hN.1 ("CensusDesk$Reader", 135, "CensusDesk$Household", "lost", "Z") (List.mem_of_getElem? (i := 20) rfl))) rfl dX4_closeHousehold_18 ?_
    refine lv_if_ne (tgt := 28) hx hb dX4_closeHousehold_21 (by decide) (fun c_7 => ?_) (fun c_7 => ?_)
    · have kc_7 := bI_ne rfl L_0 c_7
      refine lv_aload_n hx hb dX4_closeHousehold_28 rfl (lv_at hl 0 rfl) ?_
      refine cg_5_6 hx hb hts hinX4 hown hK hP (hts (.fieldLink RX4 28 "CensusDesk$Reader" "household" "LCensusDesk$Household;") (List.mem_of_getElem? (i := 1) rfl)) dX4_closeHousehold_29 ?_
      refine lv_iconst (v := 0) hx hb dX4_closeHousehold_32 (by decide) ?_
      refine cpN_8_6 (v := 0) hx hb hts hinX2 hown hK hP hI hS (va_Nw.use rfl (hN.1 ("CensusDesk$Reader", 81, "CensusDesk$Household", "open", "Z") (List.mem_of_getElem? (i := 19) rfl))) (by first | rfl | decide) (by first | rfl | decide) dX4_closeHousehold_33 ?_
      clear hP hS; intro H locs hP hS
      refine lv_aload_n hx hb dX4_closeHousehold_36 rfl (lv_at hl 0 rfl) ?_
      refine cg_5_16 (v := (γ_6 6)) hx hb hts hinX4 hown hK hP (hts (.fieldLink RX4 78 "CensusDesk$Reader" "stopBehindHousehold" "Z") (List.mem_of_getElem? (i := 2) rfl)) rfl dX4_closeHousehold_37 ?_
      refine lv_if_eq (tgt := 48) hx hb dX4_closeHousehold_40 (by decide) (fun c_8 => ?_) (fun c_8 => ?_)
      · have kc_8 := bI_eq rfl L_0 c_8
        refine lv_aload_n hx hb dX4_closeHousehold_48 rfl (lv_at hl 0 rfl) ?_
        refine lv_iconst (v := 0) hx hb dX4_closeHousehold_49 (by decide) ?_
        refine cp_5_16 (v := 0) hx hb hts hinX4 hown hK hP hI hS (hts (.fieldLink RX4 78 "CensusDesk$Reader" "stopBehindHousehold" "Z") (List.mem_of_getElem? (i := 2) rfl)) (by first | rfl | decide) (by first | rfl | decide) dX4_closeHousehold_50 ?_
        clear hP hS; intro H locs hP hS
        exact W.vret hx hb hr (fun t ht hW => ⟨⟨((up (up (up (up σ 1 s1_6) 16 (σ 16)) 17 (σ 17)) 8 0), (up (up (up φ 5 (φ 5)) 6 (φ 6)) 7 (φ 7)), (up γ_6 6 0), ψ_6), rfl, ⟨s1_6, (φ 5), (φ 6), (φ 7), (σ 16), (σ 17), 0, rfl, rfl, p_book_personFacts0, (show (Int32.toInt (σ 1)) ≤ (Int32.toInt s1_6) ∧ (Int32.toInt s1_6) ≤ (Int32.toInt (σ 1)) + 6 from (by omega)), (show BS (σ 11) (σ 12) (σ 13) (σ 14) (σ 15) (φ 5) (φ 6) (φ 7) from (by with_reducible assumption)), (show BP (σ 11) (σ 12) (σ 16) (σ 17) (φ 5) from (by with_reducible assumption)), (show (Int32.toInt (σ 16)) ≤ (Int32.toInt (σ 16)) ∧ (Int32.toInt (σ 16)) ≤ (Int32.toInt (σ 16)) + 1 ∧ 0 ≤ (Int32.toInt (σ 17)) ∧ (Int32.toInt (σ 17)) ≤ 2000 * (Int32.toInt (σ 16)) from (by omega)), (show (Int32.toInt 0) = 0 from (by have := L_0; omega))⟩, (by show va_P _ _ _ _; rw [ht]; exact hP)⟩, hS.F ht⟩) hS.2.2 dX4_closeHousehold_53
      · have kc_8 := bI_ne rfl L_0 c_8
        refine lv_aload_n hx hb dX4_closeHousehold_43 rfl (lv_at hl 0 rfl) ?_
        refine lv_iconst (v := 1) hx hb dX4_closeHousehold_44 (by decide) ?_
        refine cp_5_15 (v := 1) hx hb hts hinX4 hown hK hP hI hS (hts (.fieldLink RX4 75 "CensusDesk$Reader" "stopNow" "Z") (List.mem_of_getElem? (i := 3) rfl)) (by first | rfl | decide) (by first | rfl | decide) dX4_closeHousehold_45 ?_
        clear hP hS; intro H locs hP hS
        refine lv_aload_n hx hb dX4_closeHousehold_48 rfl (lv_at hl 0 rfl) ?_
        refine lv_iconst (v := 0) hx hb dX4_closeHousehold_49 (by decide) ?_
        refine cp_5_16 (v := 0) hx hb hts hinX4 hown hK hP hI hS (hts (.fieldLink RX4 78 "CensusDesk$Reader" "stopBehindHousehold" "Z") (List.mem_of_getElem? (i := 2) rfl)) (by first | rfl | decide) (by first | rfl | decide) dX4_closeHousehold_50 ?_
        clear hP hS; intro H locs hP hS
        exact W.vret hx hb hr (fun t ht hW => ⟨⟨((up (up (up (up σ 1 s1_6) 16 (σ 16)) 17 (σ 17)) 8 0), (up (up (up φ 5 (φ 5)) 6 (φ 6)) 7 (φ 7)), (up (up γ_6 5 1) 6 0), ψ_6), rfl, ⟨s1_6, (φ 5), (φ 6), (φ 7), (σ 16), (σ 17), 0, rfl, rfl, p_book_personFacts0, (show (Int32.toInt (σ 1)) ≤ (Int32.toInt s1_6) ∧ (Int32.toInt s1_6) ≤ (Int32.toInt (σ 1)) + 6 from (by omega)), (show BS (σ 11) (σ 12) (σ 13) (σ 14) (σ 15) (φ 5) (φ 6) (φ 7) from (by with_reducible assumption)), (show BP (σ 11) (σ 12) (σ 16) (σ 17) (φ 5) from (by with_reducible assumption)), (show (Int32.toInt (σ 16)) ≤ (Int32.toInt (σ 16)) ∧ (Int32.toInt (σ 16)) ≤ (Int32.toInt (σ 16)) + 1 ∧ 0 ≤ (Int32.toInt (σ 17)) ∧ (Int32.toInt (σ 17)) ≤ 2000 * (Int32.toInt (σ 16)) from (by omega)), (show (Int32.toInt 0) = 0 from (by have := L_0; omega))⟩, (by show va_P _ _ _ _; rw [ht]; exact hP)⟩, hS.F ht⟩) hS.2.2 dX4_closeHousehold_53
    · have kc_7 := bI_eq rfl L_0 c_7
      refine lv_aload_n hx hb dX4_closeHousehold_24 rfl (lv_at hl 0 rfl) ?_
      refine c_callv (va_runV (As := []) (rest := []) ⟨hx, hb, hml, hown, hts⟩ (c_X4_takeHousehold l dC dI a κ (up σ 1 s1_6) φ γ_6 ψ_6 g1 g2  p_hh_sex p_book_personFacts0 (show 0 ≤ (Int32.toInt (σ 11)) ∧ (Int32.toInt (σ 11)) ≤ 60 ∧ 0 ≤ (Int32.toInt (σ 12)) ∧ (Int32.toInt (σ 12)) ≤ 300 from (by omega)) (show BS (σ 11) (σ 12) (σ 13) (σ 14) (σ 15) (φ 5) (φ 6) (φ 7) from (by with_reducible assumption)) (show BP (σ 11) (σ 12) (σ 16) (σ 17) (φ 5) from (by with_reducible assumption)) (show 0 ≤ (Int32.toInt (σ 16)) ∧ (Int32.toInt (σ 16)) ≤ 4000 ∧ 0 ≤ (Int32.toInt (σ 17)) ∧ (Int32.toInt (σ 17)) ≤ 2000 * (Int32.toInt (σ 16)) from (by omega)) (show 0 ≤ (Int32.toInt (σ 9)) ∧ (Int32.toInt (σ 9)) ≤ 2000 ∧ 0 ≤ (Int32.toInt (σ 10)) ∧ (Int32.toInt (σ 10)) ≤ 30 * (Int32.toInt (σ 9)) from (by omega))) (cwV 0 hts gX4_closeHousehold_X4_takeHousehold rfl rfl rfl ⟨rfl, hd_X4_takeHousehold⟩ ⟨Nat.le_of_ble_eq_true rfl, Nat.le_of_ble_eq_true rfl⟩) (cPreV hP hK hI hN hX hS (va_recv hK hP (ci := 4) (q0 := 5) rfl rfl)) rfl rfl hl.1 rfl (lv_room (Nat.le_of_ble_eq_true rfl)) dX4_closeHousehold_25 ⟨(by decide +kernel), (by decide +kernel)⟩) hS ?_
      clear hP hS; intro S_9 F_9 γ_9 ψ_9 H locs hw hP hS
      obtain ⟨f5_9, f6_9, f7_9, s16_9, s17_9, rfl, rfl, pf6_9, (qb_9 : BS (σ 11) (σ 12) (σ 13) (σ 14) (σ 15) f5_9 f6_9 f7_9), (qn_9 : BP (σ 11) (σ 12) s16_9 s17_9 f5_9), (qt_9 : (Int32.toInt (σ 16)) ≤ (Int32.toInt s16_9) ∧ (Int32.toInt s16_9) ≤ (Int32.toInt (σ 16)) + 1 ∧ 0 ≤ (Int32.toInt s17_9) ∧ (Int32.toInt s17_9) ≤ 2000 * (Int32.toInt s16_9))⟩ := hw
      refine lv_aload_n hx hb dX4_closeHousehold_28 rfl (lv_at hl 0 rfl) ?_
      refine cg_5_6 hx hb hts hinX4 hown hK hP (hts (.fieldLink RX4 28 "CensusDesk$Reader" "household" "LCensusDesk$Household;") (List.mem_of_getElem? (i := 1) rfl)) dX4_closeHousehold_29 ?_
      refine lv_iconst (v := 0) hx hb dX4_closeHousehold_32 (by decide) ?_
      refine cpN_8_6 (v := 0) hx hb hts hinX2 hown hK hP hI hS (va_Nw.use rfl (hN.1 ("CensusDesk$Reader", 81, "CensusDesk$Household", "open", "Z") (List.mem_of_getElem? (i := 19) rfl))) (by first | rfl | decide) (by first | rfl | decide) dX4_closeHousehold_33 ?_
      clear hP hS; intro H locs hP hS
      refine lv_aload_n hx hb dX4_closeHousehold_36 rfl (lv_at hl 0 rfl) ?_
      refine cg_5_16 (v := (γ_9 6)) hx hb hts hinX4 hown hK hP (hts (.fieldLink RX4 78 "CensusDesk$Reader" "stopBehindHousehold" "Z") (List.mem_of_getElem? (i := 2) rfl)) rfl dX4_closeHousehold_37 ?_
      refine lv_if_eq (tgt := 48) hx hb dX4_closeHousehold_40 (by decide) (fun c_10 => ?_) (fun c_10 => ?_)
      · have kc_10 := bI_eq rfl L_0 c_10
        refine lv_aload_n hx hb dX4_closeHousehold_48 rfl (lv_at hl 0 rfl) ?_
        refine lv_iconst (v := 0) hx hb dX4_closeHousehold_49 (by decide) ?_
        refine cp_5_16 (v := 0) hx hb hts hinX4 hown hK hP hI hS (hts (.fieldLink RX4 78 "CensusDesk$Reader" "stopBehindHousehold" "Z") (List.mem_of_getElem? (i := 2) rfl)) (by first | rfl | decide) (by first | rfl | decide) dX4_closeHousehold_50 ?_
        clear hP hS; intro H locs hP hS
        exact W.vret hx hb hr (fun t ht hW => ⟨⟨((up (up (up (up σ 1 s1_6) 16 s16_9) 17 s17_9) 8 0), (up (up (up φ 5 f5_9) 6 f6_9) 7 f7_9), (up γ_9 6 0), ψ_9), rfl, ⟨s1_6, f5_9, f6_9, f7_9, s16_9, s17_9, 0, rfl, rfl, pf6_9, (show (Int32.toInt (σ 1)) ≤ (Int32.toInt s1_6) ∧ (Int32.toInt s1_6) ≤ (Int32.toInt (σ 1)) + 6 from (by omega)), (show BS (σ 11) (σ 12) (σ 13) (σ 14) (σ 15) f5_9 f6_9 f7_9 from (by with_reducible assumption)), (show BP (σ 11) (σ 12) s16_9 s17_9 f5_9 from (by with_reducible assumption)), (show (Int32.toInt (σ 16)) ≤ (Int32.toInt s16_9) ∧ (Int32.toInt s16_9) ≤ (Int32.toInt (σ 16)) + 1 ∧ 0 ≤ (Int32.toInt s17_9) ∧ (Int32.toInt s17_9) ≤ 2000 * (Int32.toInt s16_9) from (by omega)), (show (Int32.toInt 0) = 0 from (by have := L_0; omega))⟩, (by show va_P _ _ _ _; rw [ht]; exact hP)⟩, hS.F ht⟩) hS.2.2 dX4_closeHousehold_53
      · have kc_10 := bI_ne rfl L_0 c_10
        refine lv_aload_n hx hb dX4_closeHousehold_43 rfl (lv_at hl 0 rfl) ?_
        refine lv_iconst (v := 1) hx hb dX4_closeHousehold_44 (by decide) ?_
        refine cp_5_15 (v := 1) hx hb hts hinX4 hown hK hP hI hS (hts (.fieldLink RX4 75 "CensusDesk$Reader" "stopNow" "Z") (List.mem_of_getElem? (i := 3) rfl)) (by first | rfl | decide) (by first | rfl | decide) dX4_closeHousehold_45 ?_
        clear hP hS; intro H locs hP hS
        refine lv_aload_n hx hb dX4_closeHousehold_48 rfl (lv_at hl 0 rfl) ?_
        refine lv_iconst (v := 0) hx hb dX4_closeHousehold_49 (by decide) ?_
        refine cp_5_16 (v := 0) hx hb hts hinX4 hown hK hP hI hS (hts (.fieldLink RX4 78 "CensusDesk$Reader" "stopBehindHousehold" "Z") (List.mem_of_getElem? (i := 2) rfl)) (by first | rfl | decide) (by first | rfl | decide) dX4_closeHousehold_50 ?_
        clear hP hS; intro H locs hP hS
        exact W.vret hx hb hr (fun t ht hW => ⟨⟨((up (up (up (up σ 1 s1_6) 16 s16_9) 17 s17_9) 8 0), (up (up (up φ 5 f5_9) 6 f6_9) 7 f7_9), (up (up γ_9 5 1) 6 0), ψ_9), rfl, ⟨s1_6, f5_9, f6_9, f7_9, s16_9, s17_9, 0, rfl, rfl, pf6_9, (show (Int32.toInt (σ 1)) ≤ (Int32.toInt s1_6) ∧ (Int32.toInt s1_6) ≤ (Int32.toInt (σ 1)) + 6 from (by omega)), (show BS (σ 11) (σ 12) (σ 13) (σ 14) (σ 15) f5_9 f6_9 f7_9 from (by with_reducible assumption)), (show BP (σ 11) (σ 12) s16_9 s17_9 f5_9 from (by with_reducible assumption)), (show (Int32.toInt (σ 16)) ≤ (Int32.toInt s16_9) ∧ (Int32.toInt s16_9) ≤ (Int32.toInt (σ 16)) + 1 ∧ 0 ≤ (Int32.toInt s17_9) ∧ (Int32.toInt s17_9) ≤ 2000 * (Int32.toInt s16_9) from (by omega)), (show (Int32.toInt 0) = 0 from (by have := L_0; omega))⟩, (by show va_P _ _ _ _; rw [ht]; exact hP)⟩, hS.F ht⟩) hS.2.2 dX4_closeHousehold_53
set_option maxHeartbeats 4000000 in
set_option maxRecDepth 100000 in
theorem c_X4_begin (l : Launch) (dC : Nat → ClassId) (dI : Nat → Nat → Nat) (a : Nat → Nat) (κ : Nat → ClassId) (σ : Nat → Int32) (φ : Nat → Nat → Int32) (γ : Nat → Int32) (ψ : Nat → Nat → Int32) (g1 g2 : Nat)  : Met l yX4_begin wsX4_begin ({ frames := 0, cells := 0, slots := 0, locals := 0 } : Room) (va_Pc [.ref (a 5)] (cPre dC dI a κ (σ, φ, γ, ψ) g1 g2)) (va_Qv (QV (fun S F => ∃ (s16 : Int32) (s17 : Int32) (s18 : Int32) (s8 : Int32), (up (up (up (up σ 16 s16) 17 s17) 18 s18) 8 s8) = S ∧ φ = F ∧ ((Int32.toInt s16) = 0 ∧ (Int32.toInt s17) = 0 ∧ (Int32.toInt s18) = 0 ∧ (Int32.toInt s8) = 0) ∧ (s16 = 0 ∧ s17 = 0))) (cB dC dI a κ) (cA a)) 0 0 (cA a) := by
  refine Met.ofW (cc := cX4_begin) (maxL := 1) (ret := none) (by decide) rfl ?_
  intro p e s m args below meth c s₁ B hml hv
  obtain ⟨rfl, hP, hK, hI, hN, hX⟩ := hv
  have hx := B.exec
  have hb := B.bytes
  have hr := B.returns
  have hts := atoms_spec (ws := wsX4_begin) B.pre
  have hown : s.vm.findClass RX4 = some m.cls := findClass_of_methodNamed B.named
  have hlocks := B.notSynchronized
  have hS : va_S (cA a) s.heap s.heap [] := va_S.rf
  have hinX4 : ∀ w ∈ wsX40, w ∈ wsX4_begin := fun _ h => List.mem_cons_of_mem _ (List.mem_append_left _ (List.mem_append_right _ h))
  have hinX2 : ∀ w ∈ wsX20, w ∈ wsX4_begin := fun _ h => List.mem_cons_of_mem _ (List.mem_append_right _ h)
  have hl := lv_entry ([.ref (a 5)]) (n := 1) (Nat.le_of_ble_eq_true rfl)
  rw [lg_entry_eq]
  generalize (lg_sl ([.ref (a 5)]) ++ List.replicate (1 - (lg_sl ([.ref (a 5)])).length) Slot.unset).toArray = ls at hl ⊢
  have hl : lv_has ls 1 [(0, .ref (a 5))] := hl
  refine lv_aload_n hx hb dX4_begin_0 rfl (lv_at hl 0 rfl) ?_
  refine lv_iconst (v := 0) hx hb dX4_begin_1 (by decide) ?_
  refine cp_5_8 (v := 0) hx hb hts hinX4 hown hK hP hI hS (hts (.fieldLink RX4 52 "CensusDesk$Reader" "linesRead" "I") (List.mem_of_getElem? (i := 1) rfl)) dX4_begin_2 ?_
  clear hP hS; intro H locs hP hS
  refine lv_aload_n hx hb dX4_begin_5 rfl (lv_at hl 0 rfl) ?_
  refine lv_iconst (v := 0) hx hb dX4_begin_6 (by decide) ?_
  refine cp_5_9 (v := 0) hx hb hts hinX4 hown hK hP hI hS (hts (.fieldLink RX4 56 "CensusDesk$Reader" "taken" "I") (List.mem_of_getElem? (i := 2) rfl)) dX4_begin_7 ?_
  clear hP hS; intro H locs hP hS
  refine lv_aload_n hx hb dX4_begin_10 rfl (lv_at hl 0 rfl) ?_
  refine lv_iconst (v := 0) hx hb dX4_begin_11 (by decide) ?_
  refine cp_5_10 (v := 0) hx hb hts hinX4 hown hK hP hI hS (hts (.fieldLink RX4 59 "CensusDesk$Reader" "lost" "I") (List.mem_of_getElem? (i := 3) rfl)) dX4_begin_12 ?_
  clear hP hS; intro H locs hP hS
  refine lv_aload_n hx hb dX4_begin_15 rfl (lv_at hl 0 rfl) ?_
  refine lv_iconst (v := 0) hx hb dX4_begin_16 (by decide) ?_
  refine cp_5_11 (v := 0) hx hb hts hinX4 hown hK hP hI hS (hts (.fieldLink RX4 62 "CensusDesk$Reader" "personsTaken" "I") (List.mem_of_getElem? (i := 4) rfl)) dX4_begin_17 ?_
  clear hP hS; intro H locs hP hS
  refine lv_aload_n hx hb dX4_begin_20 rfl (lv_at hl 0 rfl) ?_
  refine lv_iconst (v := 0) hx hb dX4_begin_21 (by decide) ?_
  refine cp_5_12 (v := 0) hx hb hts hinX4 hown hK hP hI hS (hts (.fieldLink RX4 65 "CensusDesk$Reader" "position" "I") (List.mem_of_getElem? (i := 5) rfl)) dX4_begin_22 ?_
  clear hP hS; intro H locs hP hS
  refine lv_aload_n hx hb dX4_begin_25 rfl (lv_at hl 0 rfl) ?_
  refine lv_iconst (v := (-1)) hx hb dX4_begin_26 (by decide) ?_
  refine cp_5_13 (v := (-1)) hx hb hts hinX4 hown hK hP hI hS (hts (.fieldLink RX4 68 "CensusDesk$Reader" "latestNumber" "I") (List.mem_of_getElem? (i := 6) rfl)) dX4_begin_27 ?_
  clear hP hS; intro H locs hP hS
  refine lv_aload_n hx hb dX4_begin_30 rfl (lv_at hl 0 rfl) ?_
  refine lv_iconst (v := 0) hx hb dX4_begin_31 (by decide) ?_
  refine cp_5_14 (v := 0) hx hb hts hinX4 hown hK hP hI hS (hts (.fieldLink RX4 71 "CensusDesk$Reader" "rejected" "Z") (List.mem_of_getElem? (i := 7) rfl)) (by first | rfl | decide) (by first | rfl | decide) dX4_begin_32 ?_
  clear hP hS; intro H locs hP hS
  refine lv_aload_n hx hb dX4_begin_35 rfl (lv_at hl 0 rfl) ?_
  refine lv_iconst (v := 0) hx hb dX4_begin_36 (by decide) ?_
  refine cp_5_15 (v := 0) hx hb hts hinX4 hown hK hP hI hS (hts (.fieldLink RX4 75 "CensusDesk$Reader" "stopNow" "Z") (List.mem_of_getElem? (i := 8) rfl)) (by first | rfl | decide) (by first | rfl | decide) dX4_begin_37 ?_
  clear hP hS; intro H locs hP hS
  refine lv_aload_n hx hb dX4_begin_40 rfl (lv_at hl 0 rfl) ?_
  refine lv_iconst (v := 0) hx hb dX4_begin_41 (by decide) ?_
  refine cp_5_16 (v := 0) hx hb hts hinX4 hown hK hP hI hS (hts (.fieldLink RX4 78 "CensusDesk$Reader" "stopBehindHousehold" "Z") (List.mem_of_getElem? (i := 9) rfl)) (by first | rfl | decide) (by first | rfl | decide) dX4_begin_42 ?_
  clear hP hS; intro H locs hP hS
  refine lv_aload_n hx hb dX4_begin_45 rfl (lv_at hl 0 rfl) ?_
  refine cg_5_6 hx hb hts hinX4 hown hK hP (hts (.fieldLink RX4 28 "CensusDesk$Reader" "household" "LCensusDesk$Household;") (List.mem_of_getElem? (i := 10) rfl)) dX4_begin_46 ?_
  refine lv_iconst (v := 0) hx hb dX4_begin_49 (by decide) ?_
  refine cpN_8_6 (v := 0) hx hb hts hinX2 hown hK hP hI hS (va_Nw.use rfl (hN.1 ("CensusDesk$Reader", 81, "CensusDesk$Household", "open", "Z") (List.mem_of_getElem? (i := 19) rfl))) (by first | rfl | decide) (by first | rfl | decide) dX4_begin_50 ?_
  clear hP hS; intro H locs hP hS
  exact W.vret hx hb hr (fun t ht hW => ⟨⟨((up (up (up (up σ 16 0) 17 0) 18 0) 8 0), φ, (up (up (up (up (up (up γ 1 0) 2 0) 3 (-1)) 4 0) 5 0) 6 0), ψ), rfl, ⟨0, 0, 0, 0, rfl, rfl, (show (Int32.toInt 0) = 0 ∧ (Int32.toInt 0) = 0 ∧ (Int32.toInt 0) = 0 ∧ (Int32.toInt 0) = 0 from (by have := L_0; omega)), ⟨rfl, rfl⟩⟩, (by show va_P _ _ _ _; rw [ht]; exact hP)⟩, hS.F ht⟩) hS.2.2 dX4_begin_53
