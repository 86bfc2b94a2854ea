set_option maxHeartbeats 4000000 in
set_option maxRecDepth 100000 in
theorem c_X4_readOn (l : Launch) (dC : Nat → ClassId) (dI : Nat → Nat → Nat) (a : Nat → Nat) (κ : Nat → ClassId) (σ : Nat → Int32) (φ : Nat → Nat → Int32) (γ : Nat → Int32) (ψ : Nat → Nat → Int32) (g1 g2 : Nat)  (p_line_cellStart : PtR 0 4000 (φ 1)) (p_line_cellEnd : PtR 0 4000 (φ 2)) (p_hh_nameLength : PtR 0 30 (φ 3)) (p_hh_sex : PtR (-1) 1 (φ 4)) (p_book_personFacts0 : PtR (-1) 1 (φ 6)) (hlen : 0 ≤ (Int32.toInt (σ 0)) ∧ (Int32.toInt (σ 0)) ≤ 4000) (hr : 0 ≤ (Int32.toInt (σ 18)) ∧ (Int32.toInt (σ 18)) ≤ (Int32.toInt (σ 0)) ∧ 0 ≤ (Int32.toInt (σ 1)) ∧ (Int32.toInt (σ 1)) ≤ 50000 * (Int32.toInt (σ 18)) ∧ ((Int32.toInt (σ 8)) = 0 ∨ ((Int32.toInt (σ 1)) + 10 ≤ 50000 * (Int32.toInt (σ 18)) ∧ (Int32.toInt (σ 16)) + 1 ≤ (Int32.toInt (σ 18)))) ∧ 0 ≤ (Int32.toInt (σ 16)) ∧ (Int32.toInt (σ 16)) ≤ (Int32.toInt (σ 18)) ∧ 0 ≤ (Int32.toInt (σ 17)) ∧ (Int32.toInt (σ 17)) ≤ 2000 * (Int32.toInt (σ 16))) (hp : 0 ≤ (Int32.toInt (σ 9)) ∧ (Int32.toInt (σ 9)) ≤ 2000 ∧ 0 ≤ (Int32.toInt (σ 10)) ∧ (Int32.toInt (σ 10)) ≤ 30 * (Int32.toInt (σ 9))) (hb : 0 ≤ (Int32.toInt (σ 11)) ∧ (Int32.toInt (σ 11)) ≤ 60 ∧ 0 ≤ (Int32.toInt (σ 12)) ∧ (Int32.toInt (σ 12)) ≤ 300) (hbs : BS (σ 11) (σ 12) (σ 13) (σ 14) (σ 15) (φ 5) (φ 6) (φ 7)) (hbp : BP (σ 11) (σ 12) (σ 16) (σ 17) (φ 5)) : Met l yX4_readOn wsX4_readOn ({ frames := 5, cells := 0, slots := 0, locals := 126 } : Room) (va_Pc [.ref (a 5)] (cPre dC dI a κ (σ, φ, γ, ψ) g1 g2)) (va_Qi (QI (fun r S F => ∃ (s1 : Int32) (s2 : Int32) (s3 : Int32) (s4 : Int32) (s5 : Int32) (s6 : Int32) (f1 : Nat → Int32) (f2 : Nat → Int32) (s7 : Int32) (s8 : Int32) (s9 : Int32) (s10 : Int32) (f3 : Nat → Int32) (f4 : Nat → Int32) (f5 : Nat → Int32) (f6 : Nat → Int32) (f7 : Nat → Int32) (s16 : Int32) (s17 : Int32) (s18 : Int32) (f8 : Nat → Int32), (up (up (up (up (up (up (up (up (up (up (up (up (up σ 1 s1) 2 s2) 3 s3) 4 s4) 5 s5) 6 s6) 7 s7) 8 s8) 9 s9) 10 s10) 16 s16) 17 s17) 18 s18) = S ∧ (up (up (up (up (up (up (up (up φ 1 f1) 2 f2) 3 f3) 4 f4) 5 f5) 6 f6) 7 f7) 8 f8) = F ∧ PtR 0 4000 f1 ∧ PtR 0 4000 f2 ∧ PtR 0 30 f3 ∧ PtR (-1) 1 f4 ∧ PtR (-1) 1 f6 ∧ (0 ≤ (Int32.toInt s18) ∧ (Int32.toInt s18) ≤ (Int32.toInt (σ 0)) ∧ 0 ≤ (Int32.toInt s1) ∧ (Int32.toInt s1) ≤ 50000 * (Int32.toInt s18) ∧ ((Int32.toInt s8) = 0 ∨ ((Int32.toInt s1) + 10 ≤ 50000 * (Int32.toInt s18) ∧ (Int32.toInt s16) + 1 ≤ (Int32.toInt s18))) ∧ 0 ≤ (Int32.toInt s16) ∧ (Int32.toInt s16) ≤ (Int32.toInt s18) ∧ 0 ≤ (Int32.toInt s17) ∧ (Int32.toInt s17) ≤ 2000 * (Int32.toInt s16)) ∧ (0 ≤ (Int32.toInt s9) ∧ (Int32.toInt s9) ≤ 2000 ∧ 0 ≤ (Int32.toInt s10) ∧ (Int32.toInt s10) ≤ 30 * (Int32.toInt s9)) ∧ (BS (σ 11) (σ 12) (σ 13) (σ 14) (σ 15) f5 f6 f7) ∧ (BP (σ 11) (σ 12) s16 s17 f5))) (cB dC dI a κ) (cA a)) 0 0 (cA a) := by
  refine Met.ofW (cc := cX4_readOn) (maxL := 2) (ret := (some .int)) (by decide) rfl ?_
  intro p e s m args below meth c s₁ B hml hv
  obtain ⟨rfl, hP, hK, hI, hN, hX⟩ := hv
  have hx := B.exec
  have hb := B.bytes
  have hr := B.returns
  have hts := atoms_spec (ws := wsX4_readOn) B.pre
  have hown : s.vm.findClass RX4 = some m.cls := findClass_of_methodNamed B.named
  have hlocks := B.notSynchronized
  have hS : va_S (cA a) s.heap s.heap [] := va_S.rf
  have hinX4 : ∀ w ∈ wsX40, w ∈ wsX4_readOn := fun _ h => List.mem_cons_of_mem _ (List.mem_append_left _ (List.mem_append_left _ (List.mem_append_left _ (List.mem_append_left _ (List.mem_append_left _ (List.mem_append_left _ (List.mem_append_left _ (List.mem_append_right _ h))))))))
  have hinX2 : ∀ w ∈ wsX20, w ∈ wsX4_readOn := fun _ h => List.mem_cons_of_mem _ (List.mem_append_left _ (List.mem_append_left _ (List.mem_append_left _ (List.mem_append_left _ (List.mem_append_left _ (List.mem_append_left _ (List.mem_append_right _ h)))))))
  have hinX7 : ∀ w ∈ wsX70, w ∈ wsX4_readOn := fun _ h => List.mem_cons_of_mem _ (List.mem_append_left _ (List.mem_append_left _ (List.mem_append_left _ (List.mem_append_left _ (List.mem_append_left _ (List.mem_append_right _ h))))))
  have hinX5 : ∀ w ∈ wsX50, w ∈ wsX4_readOn := fun _ h => List.mem_cons_of_mem _ (List.mem_append_left _ (List.mem_append_left _ (List.mem_append_left _ (List.mem_append_left _ (List.mem_append_right _ h)))))
  have hinX1 : ∀ w ∈ wsX10, w ∈ wsX4_readOn := fun _ h => List.mem_cons_of_mem _ (List.mem_append_left _ (List.mem_append_left _ (List.mem_append_left _ (List.mem_append_right _ h))))
  have hinX0 : ∀ w ∈ wsX00, w ∈ wsX4_readOn := fun _ h => List.mem_cons_of_mem _ (List.mem_append_left _ (List.mem_append_left _ (List.mem_append_right _ h)))
  have hinX3 : ∀ w ∈ wsX30, w ∈ wsX4_readOn := fun _ h => List.mem_cons_of_mem _ (List.mem_append_left _ (List.mem_append_right _ h))
  have hinX6 : ∀ w ∈ wsX60, w ∈ wsX4_readOn := fun _ h => List.mem_cons_of_mem _ (List.mem_append_right _ h)
  have hl := lv_entry ([.ref (a 5)]) (n := 2) (Nat.le_of_ble_eq_true rfl)
  rw [lg_entry_eq]
  generalize (lg_sl ([.ref (a 5)]) ++ List.replicate (2 - (lg_sl ([.ref (a 5)])).length) Slot.unset).toArray = ls at hl ⊢
  have hl : lv_has ls 2 [(0, .ref (a 5))] := hl
  refine k_gen (fun QQ eQ => ?_)
  have J2 : ∀ (n2 : Nat), ∀ (step : Int32) (s1_c2 : Int32) (s2_c2 : Int32) (s3_c2 : Int32) (s4_c2 : Int32) (s5_c2 : Int32) (s6_c2 : Int32) (f1_c2 : Nat → Int32) (f2_c2 : Nat → Int32) (s7_c2 : Int32) (s8_c2 : Int32) (s9_c2 : Int32) (s10_c2 : Int32) (f3_c2 : Nat → Int32) (f4_c2 : Nat → Int32) (f5_c2 : Nat → Int32) (f6_c2 : Nat → Int32) (f7_c2 : Nat → Int32) (s16_c2 : Int32) (s17_c2 : Int32) (s18_c2 : Int32) (f8_c2 : Nat → Int32) (γ : Nat → Int32) (ψ : Nat → Nat → Int32) (H : Heap) (locs : List Loc) (ls : Array Slot), (PtR 0 4000 f1_c2) → (PtR 0 4000 f2_c2) → (PtR 0 30 f3_c2) → (PtR (-1) 1 f4_c2) → (PtR (-1) 1 f6_c2) → (0 ≤ (Int32.toInt step)) → (0 ≤ (Int32.toInt s18_c2) ∧ (Int32.toInt s18_c2) ≤ (Int32.toInt (σ 0)) ∧ 0 ≤ (Int32.toInt s1_c2) ∧ (Int32.toInt s1_c2) ≤ 50000 * (Int32.toInt s18_c2) ∧ ((Int32.toInt s8_c2) = 0 ∨ ((Int32.toInt s1_c2) + 10 ≤ 50000 * (Int32.toInt s18_c2) ∧ (Int32.toInt s16_c2) + 1 ≤ (Int32.toInt s18_c2))) ∧ 0 ≤ (Int32.toInt s16_c2) ∧ (Int32.toInt s16_c2) ≤ (Int32.toInt s18_c2) ∧ 0 ≤ (Int32.toInt s17_c2) ∧ (Int32.toInt s17_c2) ≤ 2000 * (Int32.toInt s16_c2)) → (0 ≤ (Int32.toInt s9_c2) ∧ (Int32.toInt s9_c2) ≤ 2000 ∧ 0 ≤ (Int32.toInt s10_c2) ∧ (Int32.toInt s10_c2) ≤ 30 * (Int32.toInt s9_c2)) → (BS (σ 11) (σ 12) (σ 13) (σ 14) (σ 15) f5_c2 f6_c2 f7_c2) → (BP (σ 11) (σ 12) s16_c2 s17_c2 f5_c2) → ((8001 - (Int32.toInt step)).toNat < n2) → va_P (dC, dI) vwCl (cw a κ ((up (up (up (up (up (up (up (up (up (up (up (up (up σ 1 s1_c2) 2 s2_c2) 3 s3_c2) 4 s4_c2) 5 s5_c2) 6 s6_c2) 7 s7_c2) 8 s8_c2) 9 s9_c2) 10 s10_c2) 16 s16_c2) 17 s17_c2) 18 s18_c2), (up (up (up (up (up (up (up (up φ 1 f1_c2) 2 f2_c2) 3 f3_c2) 4 f4_c2) 5 f5_c2) 6 f6_c2) 7 f7_c2) 8 f8_c2), γ, ψ)) H → va_S (cA a) s.heap H locs → lv_has ls 2 [(0, .ref (a 5)), (1, .int step)] → W p l e ({ frames := 5, cells := 0, slots := 0, locals := 126 } : Room) s m ([.ref (a 5)] : List Value).toArray below meth c H locs 0 0 QQ (F0 m 2 ls []) := by
    intro n2
    induction n2 with
    | zero =>
      intro step s1_c2 s2_c2 s3_c2 s4_c2 s5_c2 s6_c2 f1_c2 f2_c2 s7_c2 s8_c2 s9_c2 s10_c2 f3_c2 f4_c2 f5_c2 f6_c2 f7_c2 s16_c2 s17_c2 s18_c2 f8_c2 γ ψ H locs ls pf1_c2 pf2_c2 pf3_c2 pf4_c2 pf6_c2 v0 vr vp vb vn hm
      exact absurd hm (Nat.not_lt_zero _)
    | succ n2 ih2 =>
      intro step s1_c2 s2_c2 s3_c2 s4_c2 s5_c2 s6_c2 f1_c2 f2_c2 s7_c2 s8_c2 s9_c2 s10_c2 f3_c2 f4_c2 f5_c2 f6_c2 f7_c2 s16_c2 s17_c2 s18_c2 f8_c2 γ ψ H locs ls pf1_c2 pf2_c2 pf3_c2 pf4_c2 pf6_c2 v0 vr vp vb vn hm hP hS hl
      refine lv_iload_n hx hb dX4_readOn_2 rfl (lv_at hl 1 rfl) ?_
      refine lv_sipush (v := 8000) hx hb dX4_readOn_3 (by decide) ?_
      refine lv_icmp_gt (tgt := 108) hx hb dX4_readOn_6 (by decide) (fun c_1 => ?_) (fun c_1 => ?_)
      · have kc_1 := bI_lt L_8000 rfl c_1
        refine lv_iconst (v := 0) hx hb dX4_readOn_108 (by decide) ?_
        subst eQ
        exact W.iret (v := 0) hx hb hr (fun t ht hW => ⟨⟨0, ((up (up (up (up (up (up (up (up (up (up (up (up (up σ 1 s1_c2) 2 s2_c2) 3 s3_c2) 4 s4_c2) 5 s5_c2) 6 s6_c2) 7 s7_c2) 8 s8_c2) 9 s9_c2) 10 s10_c2) 16 s16_c2) 17 s17_c2) 18 s18_c2), (up (up (up (up (up (up (up (up φ 1 f1_c2) 2 f2_c2) 3 f3_c2) 4 f4_c2) 5 f5_c2) 6 f6_c2) 7 f7_c2) 8 f8_c2), γ, ψ), rfl, ⟨s1_c2, s2_c2, s3_c2, s4_c2, s5_c2, s6_c2, f1_c2, f2_c2, s7_c2, s8_c2, s9_c2, s10_c2, f3_c2, f4_c2, f5_c2, f6_c2, f7_c2, s16_c2, s17_c2, s18_c2, f8_c2, rfl, rfl, pf1_c2, pf2_c2, pf3_c2, pf4_c2, pf6_c2, (show 0 ≤ (Int32.toInt s18_c2) ∧ (Int32.toInt s18_c2) ≤ (Int32.toInt (σ 0)) ∧ 0 ≤ (Int32.toInt s1_c2) ∧ (Int32.toInt s1_c2) ≤ 50000 * (Int32.toInt s18_c2) ∧ ((Int32.toInt s8_c2) = 0 ∨ ((Int32.toInt s1_c2) + 10 ≤ 50000 * (Int32.toInt s18_c2) ∧ (Int32.toInt s16_c2) + 1 ≤ (Int32.toInt s18_c2))) ∧ 0 ≤ (Int32.toInt s16_c2) ∧ (Int32.toInt s16_c2) ≤ (Int32.toInt s18_c2) ∧ 0 ≤ (Int32.toInt s17_c2) ∧ (Int32.toInt s17_c2) ≤ 2000 * (Int32.toInt s16_c2) from (by omega)), (show 0 ≤ (Int32.toInt s9_c2) ∧ (Int32.toInt s9_c2) ≤ 2000 ∧ 0 ≤ (Int32.toInt s10_c2) ∧ (Int32.toInt s10_c2) ≤ 30 * (Int32.toInt s9_c2) from (by omega)), (show BS (σ 11) (σ 12) (σ 13) (σ 14) (σ 15) f5_c2 f6_c2 f7_c2 from (by with_reducible assumption)), (show BP (σ 11) (σ 12) s16_c2 s17_c2 f5_c2 from (by with_reducible assumption))⟩, (by show va_P _ _ _ _; rw [ht]; exact hP)⟩, hS.F ht⟩) hS.2.2 dX4_readOn_109
      · have kc_1 := bI_nlt L_8000 rfl c_1
        refine lv_aload_n hx hb dX4_readOn_9 rfl (lv_at hl 0 rfl) ?_
        refine lv_aload_n hx hb dX4_readOn_10 rfl (lv_at hl 0 rfl) ?_
        refine cg_5_0 hx hb hts hinX4 hown hK hP (hts (.fieldLink RX4 36 "CensusDesk$Reader" "tape" "LCensusDesk$Tape;") (List.mem_of_getElem? (i := 1) rfl)) dX4_readOn_11 ?_
        refine lv_aload_n hx hb dX4_readOn_14 rfl (lv_at hl 0 rfl) ?_
        refine cg_5_12 (v := s18_c2) hx hb hts hinX4 hown hK hP (hts (.fieldLink RX4 65 "CensusDesk$Reader" "position" "I") (List.mem_of_getElem? (i := 2) rfl)) rfl dX4_readOn_15 ?_
        refine c_calli (va_runV (As := [.int s18_c2]) (rest := [.ref (a 5)]) ⟨hx, hb, hml, hown, hts⟩ (c_X7_behindEmptyLines l dC dI a κ (up (up (up (up (up (up (up (up (up (up (up (up (up σ 1 s1_c2) 2 s2_c2) 3 s3_c2) 4 s4_c2) 5 s5_c2) 6 s6_c2) 7 s7_c2) 8 s8_c2) 9 s9_c2) 10 s10_c2) 16 s16_c2) 17 s17_c2) 18 s18_c2) (up (up (up (up (up (up (up (up φ 1 f1_c2) 2 f2_c2) 3 f3_c2) 4 f4_c2) 5 f5_c2) 6 f6_c2) 7 f7_c2) 8 f8_c2) γ ψ g1 g2 s18_c2 (show 0 ≤ (Int32.toInt (σ 0)) ∧ (Int32.toInt (σ 0)) ≤ 4000 from (by omega)) (show 0 ≤ (Int32.toInt s18_c2) ∧ (Int32.toInt s18_c2) ≤ (Int32.toInt (σ 0)) from (by omega))) (cwV 1 hts gX4_readOn_X7_behindEmptyLines rfl rfl rfl ⟨rfl, hd_X7_behindEmptyLines⟩ ⟨Nat.le_of_ble_eq_true rfl, Nat.le_of_ble_eq_true rfl⟩) (cPreV hP hK hI hN hX hS (va_recv hK hP (ci := 7) (q0 := 1) rfl rfl)) rfl rfl hl.1 rfl (lv_room (Nat.le_of_ble_eq_true rfl)) dX4_readOn_18 ⟨(by decide +kernel), (by decide +kernel)⟩) hS ?_
        clear hP hS; intro r_2 S_2 F_2 γ_2 ψ_2 H locs hw hP hS
        obtain ⟨rfl, rfl, (qr_2 : (Int32.toInt s18_c2) ≤ (Int32.toInt r_2) ∧ (Int32.toInt r_2) ≤ (Int32.toInt (σ 0)))⟩ := hw
        refine cp_5_12 (v := r_2) hx hb hts hinX4 hown hK hP hI hS (hts (.fieldLink RX4 65 "CensusDesk$Reader" "position" "I") (List.mem_of_getElem? (i := 2) rfl)) dX4_readOn_21 ?_
        clear hP hS; intro H locs hP hS
        refine lv_aload_n hx hb dX4_readOn_24 rfl (lv_at hl 0 rfl) ?_
        refine cg_5_6 hx hb hts hinX4 hown hK hP (hts (.fieldLink RX4 28 "CensusDesk$Reader" "household" "LCensusDesk$Household;") (List.mem_of_getElem? (i := 3) rfl)) dX4_readOn_25 ?_
        refine cgN_8_6 (v := s8_c2) hx hb hts hinX2 hown hK hP (va_Nw.use rfl (hN.1 ("CensusDesk$Reader", 81, "CensusDesk$Household", "open", "Z") (List.mem_of_getElem? (i := 19) rfl))) rfl dX4_readOn_28 ?_
        refine lv_if_eq (tgt := 48) hx hb dX4_readOn_31 (by decide) (fun c_3 => ?_) (fun c_3 => ?_)
        · have kc_3 := bI_eq rfl L_0 c_3
          refine lv_aload_n hx hb dX4_readOn_48 rfl (lv_at hl 0 rfl) ?_
          refine cg_5_12 (v := r_2) hx hb hts hinX4 hown hK hP (hts (.fieldLink RX4 65 "CensusDesk$Reader" "position" "I") (List.mem_of_getElem? (i := 2) rfl)) rfl dX4_readOn_49 ?_
          refine lv_aload_n hx hb dX4_readOn_52 rfl (lv_at hl 0 rfl) ?_
          refine cg_5_0 hx hb hts hinX4 hown hK hP (hts (.fieldLink RX4 36 "CensusDesk$Reader" "tape" "LCensusDesk$Tape;") (List.mem_of_getElem? (i := 1) rfl)) dX4_readOn_53 ?_
          refine cgN_1_1 (v := (σ 0)) hx hb hts hinX7 hown hK hP (va_Nw.use rfl (hN.1 ("CensusDesk$Reader", 97, "CensusDesk$Tape", "length", "I") (List.mem_of_getElem? (i := 2) rfl))) rfl dX4_readOn_56 ?_
          refine lv_icmp_lt (tgt := 64) hx hb dX4_readOn_59 (by decide) (fun c_4 => ?_) (fun c_4 => ?_)
          · have kc_4 := bI_lt rfl rfl c_4
            refine lv_aload_n hx hb dX4_readOn_64 rfl (lv_at hl 0 rfl) ?_
            refine c_calli (va_runV (As := []) (rest := []) ⟨hx, hb, hml, hown, hts⟩ (c_X4_findNextLine l dC dI a κ (up (up (up (up (up (up (up (up (up (up (up (up (up (up σ 1 s1_c2) 2 s2_c2) 3 s3_c2) 4 s4_c2) 5 s5_c2) 6 s6_c2) 7 s7_c2) 8 s8_c2) 9 s9_c2) 10 s10_c2) 16 s16_c2) 17 s17_c2) 18 s18_c2) 18 r_2) (up (up (up (up (up (up (up (up φ 1 f1_c2) 2 f2_c2) 3 f3_c2) 4 f4_c2) 5 f5_c2) 6 f6_c2) 7 f7_c2) 8 f8_c2) γ_2 ψ_2 g1 g2  pf1_c2 pf2_c2 pf3_c2 (show 0 ≤ (Int32.toInt (σ 0)) ∧ (Int32.toInt (σ 0)) ≤ 4000 from (by omega)) (show 0 ≤ (Int32.toInt r_2) ∧ (Int32.toInt r_2) < (Int32.toInt (σ 0)) from (by omega)) (show 0 ≤ (Int32.toInt s9_c2) ∧ (Int32.toInt s9_c2) ≤ 2000 ∧ 0 ≤ (Int32.toInt s10_c2) ∧ (Int32.toInt s10_c2) ≤ 30 * (Int32.toInt s9_c2) from (by omega))) (cwV 0 hts gX4_readOn_X4_findNextLine rfl rfl rfl ⟨rfl, hd_X4_findNextLine⟩ ⟨Nat.le_of_ble_eq_true rfl, Nat.le_of_ble_eq_true rfl⟩) (cPreV hP hK hI hN hX hS (va_recv hK hP (ci := 4) (q0 := 5) rfl rfl)) rfl rfl hl.1 rfl (lv_room (Nat.le_of_ble_eq_true rfl)) dX4_readOn_65 ⟨(by decide +kernel), (by decide +kernel)⟩) hS ?_
            clear hP hS; intro r_5 S_5 F_5 γ_5 ψ_5 H locs hw hP hS
            obtain ⟨s2_5, s3_5, s4_5, s5_5, s6_5, f1_5, f2_5, s18_5, s8_5, s9_5, s10_5, f3_5, rfl, rfl, pf1_5, pf2_5, pf3_5, (ql_5 : (Int32.toInt r_2) + 1 ≤ (Int32.toInt s18_5) ∧ (Int32.toInt s18_5) ≤ (Int32.toInt (σ 0)) ∧ 0 ≤ (Int32.toInt s3_5) ∧ (Int32.toInt s3_5) ≤ 4000), (qp_5 : 0 ≤ (Int32.toInt s9_5) ∧ (Int32.toInt s9_5) ≤ 2000 ∧ 0 ≤ (Int32.toInt s10_5) ∧ (Int32.toInt s10_5) ≤ 30 * (Int32.toInt s9_5)), (qo_5 : ((Int32.toInt s6_5) = 72 ∧ (Int32.toInt s8_5) ≠ 0) ∨ ((Int32.toInt s6_5) ≠ 72 ∧ (Int32.toInt s8_5) = (Int32.toInt s8_c2))), (qs_5 : (Int32.toInt s6_5) = (Int32.toInt (tat (σ 0) (φ 0) r_2)))⟩ := hw
            refine lv_if_eq (tgt := 79) hx hb dX4_readOn_68 (by decide) (fun c_6 => ?_) (fun c_6 => ?_)
            · have kc_6 := bI_eq rfl L_0 c_6
              refine lv_aload_n hx hb dX4_readOn_79 rfl (lv_at hl 0 rfl) ?_
              refine cg_5_14 (v := (γ_5 4)) hx hb hts hinX4 hown hK hP (hts (.fieldLink RX4 71 "CensusDesk$Reader" "rejected" "Z") (List.mem_of_getElem? (i := 4) rfl)) rfl dX4_readOn_80 ?_
              refine lv_if_eq (tgt := 88) hx hb dX4_readOn_83 (by decide) (fun c_7 => ?_) (fun c_7 => ?_)
              · have kc_7 := bI_eq rfl L_0 c_7
                refine lv_aload_n hx hb dX4_readOn_88 rfl (lv_at hl 0 rfl) ?_
                refine cg_5_15 (v := (γ_5 5)) hx hb hts hinX4 hown hK hP (hts (.fieldLink RX4 75 "CensusDesk$Reader" "stopNow" "Z") (List.mem_of_getElem? (i := 5) rfl)) rfl dX4_readOn_89 ?_
                refine lv_if_eq (tgt := 102) hx hb dX4_readOn_92 (by decide) (fun c_8 => ?_) (fun c_8 => ?_)
                · have kc_8 := bI_eq rfl L_0 c_8
                  obtain ⟨i_9, ei_9⟩ : ∃ z : Int32, z = step + 1 := ⟨_, rfl⟩
                  refine lv_iinc (v := i_9) (lv' := [(1, .int i_9), (0, .ref (a 5))]) hx hb dX4_readOn_102 hl (k := 1) rfl (by rw [ei_9]; rfl) (by decide) rfl ?_
                  clear hl; intro ls hl
                  have ti_9 : (Int32.toInt i_9) = (Int32.toInt step) + 1 := aI_add rfl L_1 ei_9 (by have := rng step; omega)
                  refine lv_goto (tgt := 2) hx hb dX4_readOn_105 (by decide) ?_
                  exact ih2 i_9 s1_c2 s2_5 s3_5 s4_5 s5_5 s6_5 f1_5 f2_5 s7_c2 s8_5 s9_5 s10_5 f3_5 f4_c2 f5_c2 f6_c2 f7_c2 s16_c2 s17_c2 s18_5 f8_c2 γ_5 ψ_5 _ _ _ pf1_5 pf2_5 pf3_5 pf4_c2 pf6_c2 (show 0 ≤ (Int32.toInt i_9) from (by omega)) (show 0 ≤ (Int32.toInt s18_5) ∧ (Int32.toInt s18_5) ≤ (Int32.toInt (σ 0)) ∧ 0 ≤ (Int32.toInt s1_c2) ∧ (Int32.toInt s1_c2) ≤ 50000 * (Int32.toInt s18_5) ∧ ((Int32.toInt s8_5) = 0 ∨ ((Int32.toInt s1_c2) + 10 ≤ 50000 * (Int32.toInt s18_5) ∧ (Int32.toInt s16_c2) + 1 ≤ (Int32.toInt s18_5))) ∧ 0 ≤ (Int32.toInt s16_c2) ∧ (Int32.toInt s16_c2) ≤ (Int32.toInt s18_5) ∧ 0 ≤ (Int32.toInt s17_c2) ∧ (Int32.toInt s17_c2) ≤ 2000 * (Int32.toInt s16_c2) from (by omega)) (show 0 ≤ (Int32.toInt s9_5) ∧ (Int32.toInt s9_5) ≤ 2000 ∧ 0 ≤ (Int32.toInt s10_5) ∧ (Int32.toInt s10_5) ≤ 30 * (Int32.toInt s9_5) from (by omega)) (show BS (σ 11) (σ 12) (σ 13) (σ 14) (σ 15) f5_c2 f6_c2 f7_c2 from (by with_reducible assumption)) (show BP (σ 11) (σ 12) s16_c2 s17_c2 f5_c2 from (by with_reducible assumption)) (by omega) hP hS (lv_sub hl [1, 0] rfl)
                · have kc_8 := bI_ne rfl L_0 c_8
                  refine lv_aload_n hx hb dX4_readOn_95 rfl (lv_at hl 0 rfl) ?_
                  refine lv_iconst (v := 0) hx hb dX4_readOn_96 (by decide) ?_
                  refine cp_5_15 (v := 0) hx hb hts hinX4 hown hK hP hI hS (hts (.fieldLink RX4 75 "CensusDesk$Reader" "stopNow" "Z") (List.mem_of_getElem? (i := 5) rfl)) (by first | rfl | decide) (by first | rfl | decide) dX4_readOn_97 ?_
                  clear hP hS; intro H locs hP hS
                  refine lv_iconst (v := 2) hx hb dX4_readOn_100 (by decide) ?_
                  subst eQ
                  exact W.iret (v := 2) hx hb hr (fun t ht hW => ⟨⟨2, ((up (up (up (up (up (up (up (up (up (up (up (up (up σ 1 s1_c2) 2 s2_5) 3 s3_5) 4 s4_5) 5 s5_5) 6 s6_5) 7 s7_c2) 8 s8_5) 9 s9_5) 10 s10_5) 16 s16_c2) 17 s17_c2) 18 s18_5), (up (up (up (up (up (up (up (up φ 1 f1_5) 2 f2_5) 3 f3_5) 4 f4_c2) 5 f5_c2) 6 f6_c2) 7 f7_c2) 8 f8_c2), (up γ_5 5 0), ψ_5), rfl, ⟨s1_c2, s2_5, s3_5, s4_5, s5_5, s6_5, f1_5, f2_5, s7_c2, s8_5, s9_5, s10_5, f3_5, f4_c2, f5_c2, f6_c2, f7_c2, s16_c2, s17_c2, s18_5, f8_c2, rfl, rfl, pf1_5, pf2_5, pf3_5, pf4_c2, pf6_c2, (show 0 ≤ (Int32.toInt s18_5) ∧ (Int32.toInt s18_5) ≤ (Int32.toInt (σ 0)) ∧ 0 ≤ (Int32.toInt s1_c2) ∧ (Int32.toInt s1_c2) ≤ 50000 * (Int32.toInt s18_5) ∧ ((Int32.toInt s8_5) = 0 ∨ ((Int32.toInt s1_c2) + 10 ≤ 50000 * (Int32.toInt s18_5) ∧ (Int32.toInt s16_c2) + 1 ≤ (Int32.toInt s18_5))) ∧ 0 ≤ (Int32.toInt s16_c2) ∧ (Int32.toInt s16_c2) ≤ (Int32.toInt s18_5) ∧ 0 ≤ (Int32.toInt s17_c2) ∧ (Int32.toInt s17_c2) ≤ 2000 * (Int32.toInt s16_c2) from (by omega)), (show 0 ≤ (Int32.toInt s9_5) ∧ (Int32.toInt s9_5) ≤ 2000 ∧ 0 ≤ (Int32.toInt s10_5) ∧ (Int32.toInt s10_5) ≤ 30 * (Int32.toInt s9_5) from (by omega)), (show BS (σ 11) (σ 12) (σ 13) (σ 14) (σ 15) f5_c2 f6_c2 f7_c2 from (by with_reducible assumption)), (show BP (σ 11) (σ 12) s16_c2 s17_c2 f5_c2 from (by with_reducible assumption))⟩, (by show va_P _ _ _ _; rw [ht]; exact hP)⟩, hS.F ht⟩) hS.2.2 dX4_readOn_101
              · have kc_7 := bI_ne rfl L_0 c_7
                refine lv_iconst (v := 1) hx hb dX4_readOn_86 (by decide) ?_
                subst eQ
                exact W.iret (v := 1) hx hb hr (fun t ht hW => ⟨⟨1, ((up (up (up (up (up (up (up (up (up (up (up (up (up σ 1 s1_c2) 2 s2_5) 3 s3_5) 4 s4_5) 5 s5_5) 6 s6_5) 7 s7_c2) 8 s8_5) 9 s9_5) 10 s10_5) 16 s16_c2) 17 s17_c2) 18 s18_5), (up (up (up (up (up (up (up (up φ 1 f1_5) 2 f2_5) 3 f3_5) 4 f4_c2) 5 f5_c2) 6 f6_c2) 7 f7_c2) 8 f8_c2), γ_5, ψ_5), rfl, ⟨s1_c2, s2_5, s3_5, s4_5, s5_5, s6_5, f1_5, f2_5, s7_c2, s8_5, s9_5, s10_5, f3_5, f4_c2, f5_c2, f6_c2, f7_c2, s16_c2, s17_c2, s18_5, f8_c2, rfl, rfl, pf1_5, pf2_5, pf3_5, pf4_c2, pf6_c2, (show 0 ≤ (Int32.toInt s18_5) ∧ (Int32.toInt s18_5) ≤ (Int32.toInt (σ 0)) ∧ 0 ≤ (Int32.toInt s1_c2) ∧ (Int32.toInt s1_c2) ≤ 50000 * (Int32.toInt s18_5) ∧ ((Int32.toInt s8_5) = 0 ∨ ((Int32.toInt s1_c2) + 10 ≤ 50000 * (Int32.toInt s18_5) ∧ (Int32.toInt s16_c2) + 1 ≤ (Int32.toInt s18_5))) ∧ 0 ≤ (Int32.toInt s16_c2) ∧ (Int32.toInt s16_c2) ≤ (Int32.toInt s18_5) ∧ 0 ≤ (Int32.toInt s17_c2) ∧ (Int32.toInt s17_c2) ≤ 2000 * (Int32.toInt s16_c2) from (by omega)), (show 0 ≤ (Int32.toInt s9_5) ∧ (Int32.toInt s9_5) ≤ 2000 ∧ 0 ≤ (Int32.toInt s10_5) ∧ (Int32.toInt s10_5) ≤ 30 * (Int32.toInt s9_5) from (by omega)), (show BS (σ 11) (σ 12) (σ 13) (σ 14) (σ 15) f5_c2 f6_c2 f7_c2 from (by with_reducible assumption)), (show BP (σ 11) (σ 12) s16_c2 s17_c2 f5_c2 from (by with_reducible assumption))⟩, (by show va_P _ _ _ _; rw [ht]; exact hP)⟩, hS.F ht⟩) hS.2.2 dX4_readOn_87
            · have kc_6 := bI_ne rfl L_0 c_6
              refine lv_aload_n hx hb dX4_readOn_71 rfl (lv_at hl 0 rfl) ?_
              refine lv_aload_n hx hb dX4_readOn_72 rfl (lv_at hl 0 rfl) ?_
              refine c_calli (va_runV (As := []) (rest := [.ref (a 5)]) ⟨hx, hb, hml, hown, hts⟩ (c_X4_readLine l dC dI a κ (up (up (up (up (up (up (up (up (up (up (up (up (up (up (up (up (up (up (up (up (up (up (up σ 1 s1_c2) 2 s2_c2) 3 s3_c2) 4 s4_c2) 5 s5_c2) 6 s6_c2) 7 s7_c2) 8 s8_c2) 9 s9_c2) 10 s10_c2) 16 s16_c2) 17 s17_c2) 18 s18_c2) 18 r_2) 2 s2_5) 3 s3_5) 4 s4_5) 5 s5_5) 6 s6_5) 18 s18_5) 8 s8_5) 9 s9_5) 10 s10_5) (up (up (up (up (up (up (up (up (up (up (up φ 1 f1_c2) 2 f2_c2) 3 f3_c2) 4 f4_c2) 5 f5_c2) 6 f6_c2) 7 f7_c2) 8 f8_c2) 1 f1_5) 2 f2_5) 3 f3_5) γ_5 ψ_5 g1 g2  pf1_5 pf2_5 pf3_5 (show 0 ≤ (Int32.toInt (σ 0)) ∧ (Int32.toInt (σ 0)) ≤ 4000 from (by omega)) (show 0 ≤ (Int32.toInt s1_c2) ∧ (Int32.toInt s1_c2) ≤ 1000000000 from (by omega)) (show 0 ≤ (Int32.toInt s3_5) ∧ (Int32.toInt s3_5) ≤ 4000 from (by omega)) (show 0 ≤ (Int32.toInt s9_5) ∧ (Int32.toInt s9_5) ≤ 2000 ∧ 0 ≤ (Int32.toInt s10_5) ∧ (Int32.toInt s10_5) ≤ 30 * (Int32.toInt s9_5) from (by omega))) (cwV 0 hts gX4_readOn_X4_readLine rfl rfl rfl ⟨rfl, hd_X4_readLine⟩ ⟨Nat.le_of_ble_eq_true rfl, Nat.le_of_ble_eq_true rfl⟩) (cPreV hP hK hI hN hX hS (va_recv hK hP (ci := 4) (q0 := 5) rfl rfl)) rfl rfl hl.1 rfl (lv_room (Nat.le_of_ble_eq_true rfl)) dX4_readOn_73 ⟨(by decide +kernel), (by decide +kernel)⟩) hS ?_
              clear hP hS; intro r_10 S_10 F_10 γ_10 ψ_10 H locs hw hP hS
              obtain ⟨s1_10, s7_10, f3_10, f8_10, rfl, rfl, pf3_10, (qc_10 : (Int32.toInt s1_c2) ≤ (Int32.toInt s1_10) ∧ (Int32.toInt s1_10) ≤ (Int32.toInt s1_c2) + 40000), (qs_10 : (Int32.toInt r_10) ≠ -1 ∨ (Int32.toInt s6_5) = 72 ∨ (Int32.toInt s6_5) = 80 ∨ (Int32.toInt s6_5) = 83), (qv_10 : (Int32.toInt r_10) ≠ -1 ∨ (Int32.toInt s6_5) ≠ 80 ∨ (-1 ≤ Int32.toInt (f8_10 2) ∧ Int32.toInt (f8_10 2) ≤ 1))⟩ := hw
              refine c_callv (va_runV (As := [.int r_10]) (rest := []) ⟨hx, hb, hml, hown, hts⟩ (c_X4_placeLine l dC dI a κ (up (up (up (up (up (up (up (up (up (up (up (up (up (up (up (up (up (up (up (up (up (up (up (up (up σ 1 s1_c2) 2 s2_c2) 3 s3_c2) 4 s4_c2) 5 s5_c2) 6 s6_c2) 7 s7_c2) 8 s8_c2) 9 s9_c2) 10 s10_c2) 16 s16_c2) 17 s17_c2) 18 s18_c2) 18 r_2) 2 s2_5) 3 s3_5) 4 s4_5) 5 s5_5) 6 s6_5) 18 s18_5) 8 s8_5) 9 s9_5) 10 s10_5) 1 s1_10) 7 s7_10) (up (up (up (up (up (up (up (up (up (up (up (up (up φ 1 f1_c2) 2 f2_c2) 3 f3_c2) 4 f4_c2) 5 f5_c2) 6 f6_c2) 7 f7_c2) 8 f8_c2) 1 f1_5) 2 f2_5) 3 f3_5) 3 f3_10) 8 f8_10) γ_10 ψ_10 g1 g2 r_10 pf3_10 pf4_c2 (show 0 ≤ (Int32.toInt s1_10) ∧ (Int32.toInt s1_10) ≤ 1000000000 from (by omega)) (show 0 ≤ (Int32.toInt s9_5) ∧ (Int32.toInt s9_5) ≤ 2000 ∧ 0 ≤ (Int32.toInt s10_5) ∧ (Int32.toInt s10_5) ≤ 30 * (Int32.toInt s9_5) from (by omega)) (show (Int32.toInt r_10) ≠ -1 ∨ (Int32.toInt s8_5) = 0 ∨ (Int32.toInt s6_5) = 72 ∨ (-1 ≤ Int32.toInt (f8_10 2) ∧ Int32.toInt (f8_10 2) ≤ 1) from (by omega))) (cwV 1 hts gX4_readOn_X4_placeLine rfl rfl rfl ⟨rfl, hd_X4_placeLine⟩ ⟨Nat.le_of_ble_eq_true rfl, Nat.le_of_ble_eq_true rfl⟩) (cPreV hP hK hI hN hX hS (va_recv hK hP (ci := 4) (q0 := 5) rfl rfl)) rfl rfl hl.1 rfl (lv_room (Nat.le_of_ble_eq_true rfl)) dX4_readOn_76 ⟨(by decide +kernel), (by decide +kernel)⟩) hS ?_
              clear hP hS; intro S_11 F_11 γ_11 ψ_11 H locs hw hP hS
              obtain ⟨s1_11, f4_11, s10_11, s9_11, rfl, rfl, pf4_11, (qc_11 : (Int32.toInt s1_10) ≤ (Int32.toInt s1_11) ∧ (Int32.toInt s1_11) ≤ (Int32.toInt s1_10) + 3), (qp_11 : 0 ≤ (Int32.toInt s9_11) ∧ (Int32.toInt s9_11) ≤ 2000 ∧ 0 ≤ (Int32.toInt s10_11) ∧ (Int32.toInt s10_11) ≤ 30 * (Int32.toInt s9_11))⟩ := hw
              refine lv_aload_n hx hb dX4_readOn_79 rfl (lv_at hl 0 rfl) ?_
              refine cg_5_14 (v := (γ_11 4)) hx hb hts hinX4 hown hK hP (hts (.fieldLink RX4 71 "CensusDesk$Reader" "rejected" "Z") (List.mem_of_getElem? (i := 4) rfl)) rfl dX4_readOn_80 ?_
              refine lv_if_eq (tgt := 88) hx hb dX4_readOn_83 (by decide) (fun c_12 => ?_) (fun c_12 => ?_)
              · have kc_12 := bI_eq rfl L_0 c_12
                refine lv_aload_n hx hb dX4_readOn_88 rfl (lv_at hl 0 rfl) ?_
                refine cg_5_15 (v := (γ_11 5)) hx hb hts hinX4 hown hK hP (hts (.fieldLink RX4 75 "CensusDesk$Reader" "stopNow" "Z") (List.mem_of_getElem? (i := 5) rfl)) rfl dX4_readOn_89 ?_
                refine lv_if_eq (tgt := 102) hx hb dX4_readOn_92 (by decide) (fun c_13 => ?_) (fun c_13 => ?_)
                · have kc_13 := bI_eq rfl L_0 c_13
                  obtain ⟨i_14, ei_14⟩ : ∃ z : Int32, z = step + 1 := ⟨_, rfl⟩
                  refine lv_iinc (v := i_14) (lv' := [(1, .int i_14), (0, .ref (a 5))]) hx hb dX4_readOn_102 hl (k := 1) rfl (by rw [ei_14]; rfl) (by decide) rfl ?_
                  clear hl; intro ls hl
                  have ti_14 : (Int32.toInt i_14) = (Int32.toInt step) + 1 := aI_add rfl L_1 ei_14 (by have := rng step; omega)
                  refine lv_goto (tgt := 2) hx hb dX4_readOn_105 (by decide) ?_
                  exact ih2 i_14 s1_11 s2_5 s3_5 s4_5 s5_5 s6_5 f1_5 f2_5 s7_10 s8_5 s9_11 s10_11 f3_10 f4_11 f5_c2 f6_c2 f7_c2 s16_c2 s17_c2 s18_5 f8_10 γ_11 ψ_11 _ _ _ pf1_5 pf2_5 pf3_10 pf4_11 pf6_c2 (show 0 ≤ (Int32.toInt i_14) from (by omega)) (show 0 ≤ (Int32.toInt s18_5) ∧ (Int32.toInt s18_5) ≤ (Int32.toInt (σ 0)) ∧ 0 ≤ (Int32.toInt s1_11) ∧ (Int32.toInt s1_11) ≤ 50000 * (Int32.toInt s18_5) ∧ ((Int32.toInt s8_5) = 0 ∨ ((Int32.toInt s1_11) + 10 ≤ 50000 * (Int32.toInt s18_5) ∧ (Int32.toInt s16_c2) + 1 ≤ (Int32.toInt s18_5))) ∧ 0 ≤ (Int32.toInt s16_c2) ∧ (Int32.toInt s16_c2) ≤ (Int32.toInt s18_5) ∧ 0 ≤ (Int32.toInt s17_c2) ∧ (Int32.toInt s17_c2) ≤ 2000 * (Int32.toInt s16_c2) from (by omega)) (show 0 ≤ (Int32.toInt s9_11) ∧ (Int32.toInt s9_11) ≤ 2000 ∧ 0 ≤ (Int32.toInt s10_11) ∧ (Int32.toInt s10_11) ≤ 30 * (Int32.toInt s9_11) from (by omega)) (show BS (σ 11) (σ 12) (σ 13) (σ 14) (σ 15) f5_c2 f6_c2 f7_c2 from (by with_reducible assumption)) (show BP (σ 11) (σ 12) s16_c2 s17_c2 f5_c2 from (by with_reducible assumption)) (by omega) hP hS (lv_sub hl [1, 0] rfl)
                · have kc_13 := bI_ne rfl L_0 c_13
                  refine lv_aload_n hx hb dX4_readOn_95 rfl (lv_at hl 0 rfl) ?_
                  refine lv_iconst (v := 0) hx hb dX4_readOn_96 (by decide) ?_
                  refine cp_5_15 (v := 0) hx hb hts hinX4 hown hK hP hI hS (hts (.fieldLink RX4 75 "CensusDesk$Reader" "stopNow" "Z") (List.mem_of_getElem? (i := 5) rfl)) (by first | rfl | decide) (by first | rfl | decide) dX4_readOn_97 ?_
                  clear hP hS; intro H locs hP hS
                  refine lv_iconst (v := 2) hx hb dX4_readOn_100 (by decide) ?_
                  subst eQ
                  exact W.iret (v := 2) hx hb hr (fun t ht hW => ⟨⟨2, ((up (up (up (up (up (up (up (up (up (up (up (up (up σ 1 s1_11) 2 s2_5) 3 s3_5) 4 s4_5) 5 s5_5) 6 s6_5) 7 s7_10) 8 s8_5) 9 s9_11) 10 s10_11) 16 s16_c2) 17 s17_c2) 18 s18_5), (up (up (up (up (up (up (up (up φ 1 f1_5) 2 f2_5) 3 f3_10) 4 f4_11) 5 f5_c2) 6 f6_c2) 7 f7_c2) 8 f8_10), (up γ_11 5 0), ψ_11), rfl, ⟨s1_11, s2_5, s3_5, s4_5, s5_5, s6_5, f1_5, f2_5, s7_10, s8_5, s9_11, s10_11, f3_10, f4_11, f5_c2, f6_c2, f7_c2, s16_c2, s17_c2, s18_5, f8_10, rfl, rfl, pf1_5, pf2_5, pf3_10, pf4_11, pf6_c2, (show 0 ≤ (Int32.toInt s18_5) ∧ (Int32.toInt s18_5) ≤ (Int32.toInt (σ 0)) ∧ 0 ≤ (Int32.toInt s1_11) ∧ (Int32.toInt s1_11) ≤ 50000 * (Int32.toInt s18_5) ∧ ((Int32.toInt s8_5) = 0 ∨ ((Int32.toInt s1_11) + 10 ≤ 50000 * (Int32.toInt s18_5) ∧ (Int32.toInt s16_c2) + 1 ≤ (Int32.toInt s18_5))) ∧ 0 ≤ (Int32.toInt s16_c2) ∧ (Int32.toInt s16_c2) ≤ (Int32.toInt s18_5) ∧ 0 ≤ (Int32.toInt s17_c2) ∧ (Int32.toInt s17_c2) ≤ 2000 * (Int32.toInt s16_c2) from (by omega)), (show 0 ≤ (Int32.toInt s9_11) ∧ (Int32.toInt s9_11) ≤ 2000 ∧ 0 ≤ (Int32.toInt s10_11) ∧ (Int32.toInt s10_11) ≤ 30 * (Int32.toInt s9_11) from (by omega)), (show BS (σ 11) (σ 12) (σ 13) (σ 14) (σ 15) f5_c2 f6_c2 f7_c2 from (by with_reducible assumption)), (show BP (σ 11) (σ 12) s16_c2 s17_c2 f5_c2 from (by with_reducible assumption))⟩, (by show va_P _ _ _ _; rw [ht]; exact hP)⟩, hS.F ht⟩) hS.2.2 dX4_readOn_101
              · have kc_12 := bI_ne rfl L_0 c_12
                refine lv_iconst (v := 1) hx hb dX4_readOn_86 (by decide) ?_
                subst eQ
                exact W.iret (v := 1) hx hb hr (fun t ht hW => ⟨⟨1, ((up (up (up (up (up (up (up (up (up (up (up (up (up σ 1 s1_11) 2 s2_5) 3 s3_5) 4 s4_5) 5 s5_5) 6 s6_5) 7 s7_10) 8 s8_5) 9 s9_11) 10 s10_11) 16 s16_c2) 17 s17_c2) 18 s18_5), (up (up (up (up (up (up (up (up φ 1 f1_5) 2 f2_5) 3 f3_10) 4 f4_11) 5 f5_c2) 6 f6_c2) 7 f7_c2) 8 f8_10), γ_11, ψ_11), rfl, ⟨s1_11, s2_5, s3_5, s4_5, s5_5, s6_5, f1_5, f2_5, s7_10, s8_5, s9_11, s10_11, f3_10, f4_11, f5_c2, f6_c2, f7_c2, s16_c2, s17_c2, s18_5, f8_10, rfl, rfl, pf1_5, pf2_5, pf3_10, pf4_11, pf6_c2, (show 0 ≤ (Int32.toInt s18_5) ∧ (Int32.toInt s18_5) ≤ (Int32.toInt (σ 0)) ∧ 0 ≤ (Int32.toInt s1_11) ∧ (Int32.toInt s1_11) ≤ 50000 * (Int32.toInt s18_5) ∧ ((Int32.toInt s8_5) = 0 ∨ ((Int32.toInt s1_11) + 10 ≤ 50000 * (Int32.toInt s18_5) ∧ (Int32.toInt s16_c2) + 1 ≤ (Int32.toInt s18_5))) ∧ 0 ≤ (Int32.toInt s16_c2) ∧ (Int32.toInt s16_c2) ≤ (Int32.toInt s18_5) ∧ 0 ≤ (Int32.toInt s17_c2) ∧ (Int32.toInt s17_c2) ≤ 2000 * (Int32.toInt s16_c2) from (by omega)), (show 0 ≤ (Int32.toInt s9_11) ∧ (Int32.toInt s9_11) ≤ 2000 ∧ 0 ≤ (Int32.toInt s10_11) ∧ (Int32.toInt s10_11) ≤ 30 * (Int32.toInt s9_11) from (by omega)), (show BS (σ 11) (σ 12) (σ 13) (σ 14) (σ 15) f5_c2 f6_c2 f7_c2 from (by with_reducible assumption)), (show BP (σ 11) (σ 12) s16_c2 s17_c2 f5_c2 from (by with_reducible assumption))⟩, (by show va_P _ _ _ _; rw [ht]; exact hP)⟩, hS.F ht⟩) hS.2.2 dX4_readOn_87
          · have kc_4 := bI_nlt rfl rfl c_4
            refine lv_iconst (v := 0) hx hb dX4_readOn_62 (by decide) ?_
            subst eQ
            exact W.iret (v := 0) hx hb hr (fun t ht hW => ⟨⟨0, ((up (up (up (up (up (up (up (up (up (up (up (up (up σ 1 s1_c2) 2 s2_c2) 3 s3_c2) 4 s4_c2) 5 s5_c2) 6 s6_c2) 7 s7_c2) 8 s8_c2) 9 s9_c2) 10 s10_c2) 16 s16_c2) 17 s17_c2) 18 r_2), (up (up (up (up (up (up (up (up φ 1 f1_c2) 2 f2_c2) 3 f3_c2) 4 f4_c2) 5 f5_c2) 6 f6_c2) 7 f7_c2) 8 f8_c2), γ_2, ψ_2), rfl, ⟨s1_c2, s2_c2, s3_c2, s4_c2, s5_c2, s6_c2, f1_c2, f2_c2, s7_c2, s8_c2, s9_c2, s10_c2, f3_c2, f4_c2, f5_c2, f6_c2, f7_c2, s16_c2, s17_c2, r_2, f8_c2, rfl, rfl, pf1_c2, pf2_c2, pf3_c2, pf4_c2, pf6_c2, (show 0 ≤ (Int32.toInt r_2) ∧ (Int32.toInt r_2) ≤ (Int32.toInt (σ 0)) ∧ 0 ≤ (Int32.toInt s1_c2) ∧ (Int32.toInt s1_c2) ≤ 50000 * (Int32.toInt r_2) ∧ ((Int32.toInt s8_c2) = 0 ∨ ((Int32.toInt s1_c2) + 10 ≤ 50000 * (Int32.toInt r_2) ∧ (Int32.toInt s16_c2) + 1 ≤ (Int32.toInt r_2))) ∧ 0 ≤ (Int32.toInt s16_c2) ∧ (Int32.toInt s16_c2) ≤ (Int32.toInt r_2) ∧ 0 ≤ (Int32.toInt s17_c2) ∧ (Int32.toInt s17_c2) ≤ 2000 * (Int32.toInt s16_c2) from (by omega)), (show 0 ≤ (Int32.toInt s9_c2) ∧ (Int32.toInt s9_c2) ≤ 2000 ∧ 0 ≤ (Int32.toInt s10_c2) ∧ (Int32.toInt s10_c2) ≤ 30 * (Int32.toInt s9_c2) from (by omega)), (show BS (σ 11) (σ 12) (σ 13) (σ 14) (σ 15) f5_c2 f6_c2 f7_c2 from (by with_reducible assumption)), (show BP (σ 11) (σ 12) s16_c2 s17_c2 f5_c2 from (by with_reducible assumption))⟩, (by show va_P _ _ _ _; rw [ht]; exact hP)⟩, hS.F ht⟩) hS.2.2 dX4_readOn_63
        · have kc_3 := bI_ne rfl L_0 c_3
          refine lv_aload_n hx hb dX4_readOn_34 rfl (lv_at hl 0 rfl) ?_
          refine c_calli (va_runV (As := []) (rest := []) ⟨hx, hb, hml, hown, hts⟩ (c_X4_isHouseholdsEnd l dC dI a κ (up (up (up (up (up (up (up (up (up (up (up (up (up (up σ 1 s1_c2) 2 s2_c2) 3 s3_c2) 4 s4_c2) 5 s5_c2) 6 s6_c2) 7 s7_c2) 8 s8_c2) 9 s9_c2) 10 s10_c2) 16 s16_c2) 17 s17_c2) 18 s18_c2) 18 r_2) (up (up (up (up (up (up (up (up φ 1 f1_c2) 2 f2_c2) 3 f3_c2) 4 f4_c2) 5 f5_c2) 6 f6_c2) 7 f7_c2) 8 f8_c2) γ_2 ψ_2 g1 g2  (show 0 ≤ (Int32.toInt (σ 0)) ∧ (Int32.toInt (σ 0)) ≤ 4000 from (by omega))) (cwV 0 hts gX4_readOn_X4_isHouseholdsEnd rfl rfl rfl ⟨rfl, hd_X4_isHouseholdsEnd⟩ ⟨Nat.le_of_ble_eq_true rfl, Nat.le_of_ble_eq_true rfl⟩) (cPreV hP hK hI hN hX hS (va_recv hK hP (ci := 4) (q0 := 5) rfl rfl)) rfl rfl hl.1 rfl (lv_room (Nat.le_of_ble_eq_true rfl)) dX4_readOn_35 ⟨(by decide +kernel), (by decide +kernel)⟩) hS ?_
          clear hP hS; intro r_15 S_15 F_15 γ_15 ψ_15 H locs hw hP hS
          obtain ⟨rfl, rfl, (qe_15 : (Int32.toInt r_15) ≠ 0 ∨ (Int32.toInt (tat (σ 0) (φ 0) r_2)) ≠ 83)⟩ := hw
          refine lv_if_eq (tgt := 48) hx hb dX4_readOn_38 (by decide) (fun c_16 => ?_) (fun c_16 => ?_)
          · have kc_16 := bI_eq rfl L_0 c_16
            refine lv_aload_n hx hb dX4_readOn_48 rfl (lv_at hl 0 rfl) ?_
            refine cg_5_12 (v := r_2) hx hb hts hinX4 hown hK hP (hts (.fieldLink RX4 65 "CensusDesk$Reader" "position" "I") (List.mem_of_getElem? (i := 2) rfl)) rfl dX4_readOn_49 ?_
            refine lv_aload_n hx hb dX4_readOn_52 rfl (lv_at hl 0 rfl) ?_
            refine cg_5_0 hx hb hts hinX4 hown hK hP (hts (.fieldLink RX4 36 "CensusDesk$Reader" "tape" "LCensusDesk$Tape;") (List.mem_of_getElem? (i := 1) rfl)) dX4_readOn_53 ?_
            refine cgN_1_1 (v := (σ 0)) hx hb hts hinX7 hown hK hP (va_Nw.use rfl (hN.1 ("CensusDesk$Reader", 97, "CensusDesk$Tape", "length", "I") (List.mem_of_getElem? (i := 2) rfl))) rfl dX4_readOn_56 ?_
            refine lv_icmp_lt (tgt := 64) hx hb dX4_readOn_59 (by decide) (fun c_17 => ?_) (fun c_17 => ?_)
            · have kc_17 := bI_lt rfl rfl c_17
              refine lv_aload_n hx hb dX4_readOn_64 rfl (lv_at hl 0 rfl) ?_
              refine c_calli (va_runV (As := []) (rest := []) ⟨hx, hb, hml, hown, hts⟩ (c_X4_findNextLine l dC dI a κ (up (up (up (up (up (up (up (up (up (up (up (up (up (up σ 1 s1_c2) 2 s2_c2) 3 s3_c2) 4 s4_c2) 5 s5_c2) 6 s6_c2) 7 s7_c2) 8 s8_c2) 9 s9_c2) 10 s10_c2) 16 s16_c2) 17 s17_c2) 18 s18_c2) 18 r_2) (up (up (up (up (up (up (up (up φ 1 f1_c2) 2 f2_c2) 3 f3_c2) 4 f4_c2) 5 f5_c2) 6 f6_c2) 7 f7_c2) 8 f8_c2) γ_15 ψ_15 g1 g2  pf1_c2 pf2_c2 pf3_c2 (show 0 ≤ (Int32.toInt (σ 0)) ∧ (Int32.toInt (σ 0)) ≤ 4000 from (by omega)) (show 0 ≤ (Int32.toInt r_2) ∧ (Int32.toInt r_2) < (Int32.toInt (σ 0)) from (by omega)) (show 0 ≤ (Int32.toInt s9_c2) ∧ (Int32.toInt s9_c2) ≤ 2000 ∧ 0 ≤ (Int32.toInt s10_c2) ∧ (Int32.toInt s10_c2) ≤ 30 * (Int32.toInt s9_c2) from (by omega))) (cwV 0 hts gX4_readOn_X4_findNextLine rfl rfl rfl ⟨rfl, hd_X4_findNextLine⟩ ⟨Nat.le_of_ble_eq_true rfl, Nat.le_of_ble_eq_true rfl⟩) (cPreV hP hK hI hN hX hS (va_recv hK hP (ci := 4) (q0 := 5) rfl rfl)) rfl rfl hl.1 rfl (lv_room (Nat.le_of_ble_eq_true rfl)) dX4_readOn_65 ⟨(by decide +kernel), (by decide +kernel)⟩) hS ?_
              clear hP hS; intro r_18 S_18 F_18 γ_18 ψ_18 H locs hw hP hS
              obtain ⟨s2_18, s3_18, s4_18, s5_18, s6_18, f1_18, f2_18, s18_18, s8_18, s9_18, s10_18, f3_18, rfl, rfl, pf1_18, pf2_18, pf3_18, (ql_18 : (Int32.toInt r_2) + 1 ≤ (Int32.toInt s18_18) ∧ (Int32.toInt s18_18) ≤ (Int32.toInt (σ 0)) ∧ 0 ≤ (Int32.toInt s3_18) ∧ (Int32.toInt s3_18) ≤ 4000), (qp_18 : 0 ≤ (Int32.toInt s9_18) ∧ (Int32.toInt s9_18) ≤ 2000 ∧ 0 ≤ (Int32.toInt s10_18) ∧ (Int32.toInt s10_18) ≤ 30 * (Int32.toInt s9_18)), (qo_18 : ((Int32.toInt s6_18) = 72 ∧ (Int32.toInt s8_18) ≠ 0) ∨ ((Int32.toInt s6_18) ≠ 72 ∧ (Int32.toInt s8_18) = (Int32.toInt s8_c2))), (qs_18 : (Int32.toInt s6_18) = (Int32.toInt (tat (σ 0) (φ 0) r_2)))⟩ := hw
              refine lv_if_eq (tgt := 79) hx hb dX4_readOn_68 (by decide) (fun c_19 => ?_) (fun c_19 => ?_)
              · have kc_19 := bI_eq rfl L_0 c_19
                refine lv_aload_n hx hb dX4_readOn_79 rfl (lv_at hl 0 rfl) ?_
                refine cg_5_14 (v := (γ_18 4)) hx hb hts hinX4 hown hK hP (hts (.fieldLink RX4 71 "CensusDesk$Reader" "rejected" "Z") (List.mem_of_getElem? (i := 4) rfl)) rfl dX4_readOn_80 ?_
                refine lv_if_eq (tgt := 88) hx hb dX4_readOn_83 (by decide) (fun c_20 => ?_) (fun c_20 => ?_)
                · have kc_20 := bI_eq rfl L_0 c_20
                  refine lv_aload_n hx hb dX4_readOn_88 rfl (lv_at hl 0 rfl) ?_
                  refine cg_5_15 (v := (γ_18 5)) hx hb hts hinX4 hown hK hP (hts (.fieldLink RX4 75 "CensusDesk$Reader" "stopNow" "Z") (List.mem_of_getElem? (i := 5) rfl)) rfl dX4_readOn_89 ?_
                  refine lv_if_eq (tgt := 102) hx hb dX4_readOn_92 (by decide) (fun c_21 => ?_) (fun c_21 => ?_)
                  · have kc_21 := bI_eq rfl L_0 c_21
                    obtain ⟨i_22, ei_22⟩ : ∃ z : Int32, z = step + 1 := ⟨_, rfl⟩
                    refine lv_iinc (v := i_22) (lv' := [(1, .int i_22), (0, .ref (a 5))]) hx hb dX4_readOn_102 hl (k := 1) rfl (by rw [ei_22]; rfl) (by decide) rfl ?_
                    clear hl; intro ls hl
                    have ti_22 : (Int32.toInt i_22) = (Int32.toInt step) + 1 := aI_add rfl L_1 ei_22 (by have := rng step; omega)
                    refine lv_goto (tgt := 2) hx hb dX4_readOn_105 (by decide) ?_
                    exact ih2 i_22 s1_c2 s2_18 s3_18 s4_18 s5_18 s6_18 f1_18 f2_18 s7_c2 s8_18 s9_18 s10_18 f3_18 f4_c2 f5_c2 f6_c2 f7_c2 s16_c2 s17_c2 s18_18 f8_c2 γ_18 ψ_18 _ _ _ pf1_18 pf2_18 pf3_18 pf4_c2 pf6_c2 (show 0 ≤ (Int32.toInt i_22) from (by omega)) (show 0 ≤ (Int32.toInt s18_18) ∧ (Int32.toInt s18_18) ≤ (Int32.toInt (σ 0)) ∧ 0 ≤ (Int32.toInt s1_c2) ∧ (Int32.toInt s1_c2) ≤ 50000 * (Int32.toInt s18_18) ∧ ((Int32.toInt s8_18) = 0 ∨ ((Int32.toInt s1_c2) + 10 ≤ 50000 * (Int32.toInt s18_18) ∧ (Int32.toInt s16_c2) + 1 ≤ (Int32.toInt s18_18))) ∧ 0 ≤ (Int32.toInt s16_c2) ∧ (Int32.toInt s16_c2) ≤ (Int32.toInt s18_18) ∧ 0 ≤ (Int32.toInt s17_c2) ∧ (Int32.toInt s17_c2) ≤ 2000 * (Int32.toInt s16_c2) from (by omega)) (show 0 ≤ (Int32.toInt s9_18) ∧ (Int32.toInt s9_18) ≤ 2000 ∧ 0 ≤ (Int32.toInt s10_18) ∧ (Int32.toInt s10_18) ≤ 30 * (Int32.toInt s9_18) from (by omega)) (show BS (σ 11) (σ 12) (σ 13) (σ 14) (σ 15) f5_c2 f6_c2 f7_c2 from (by with_reducible assumption)) (show BP (σ 11) (σ 12) s16_c2 s17_c2 f5_c2 from (by with_reducible assumption)) (by omega) hP hS (lv_sub hl [1, 0] rfl)
                  · have kc_21 := bI_ne rfl L_0 c_21
                    refine lv_aload_n hx hb dX4_readOn_95 rfl (lv_at hl 0 rfl) ?_
                    refine lv_iconst (v := 0) hx hb dX4_readOn_96 (by decide) ?_
                    refine cp_5_15 (v := 0) hx hb hts hinX4 hown hK hP hI hS (hts (.fieldLink RX4 75 "CensusDesk$Reader" "stopNow" "Z") (List.mem_of_getElem? (i := 5) rfl)) (by first | rfl | decide) (by first | rfl | decide) dX4_readOn_97 ?_
                    clear hP hS; intro H locs hP hS
                    refine lv_iconst (v := 2) hx hb dX4_readOn_100 (by decide) ?_
                    subst eQ
                    exact W.iret (v := 2) hx hb hr (fun t ht hW => ⟨⟨2, ((up (up (up (up (up (up (up (up (up (up (up (up (up σ 1 s1_c2) 2 s2_18) 3 s3_18) 4 s4_18) 5 s5_18) 6 s6_18) 7 s7_c2) 8 s8_18) 9 s9_18) 10 s10_18) 16 s16_c2) 17 s17_c2) 18 s18_18), (up (up (up (up (up (up (up (up φ 1 f1_18) 2 f2_18) 3 f3_18) 4 f4_c2) 5 f5_c2) 6 f6_c2) 7 f7_c2) 8 f8_c2), (up γ_18 5 0), ψ_18), rfl, ⟨s1_c2, s2_18, s3_18, s4_18, s5_18, s6_18, f1_18, f2_18, s7_c2, s8_18, s9_18, s10_18, f3_18, f4_c2, f5_c2, f6_c2, f7_c2, s16_c2, s17_c2, s18_18, f8_c2, rfl, rfl, pf1_18, pf2_18, pf3_18, pf4_c2, pf6_c2, (show 0 ≤ (Int32.toInt s18_18) ∧ (Int32.toInt s18_18) ≤ (Int32.toInt (σ 0)) ∧ 0 ≤ (Int32.toInt s1_c2) ∧ (Int32.toInt s1_c2) ≤ 50000 * (Int32.toInt s18_18) ∧ ((Int32.toInt s8_18) = 0 ∨ ((Int32.toInt s1_c2) + 10 ≤ 50000 * (Int32.toInt s18_18) ∧ (Int32.toInt s16_c2) + 1 ≤ (Int32.toInt s18_18))) ∧ 0 ≤ (Int32.toInt s16_c2) ∧ (Int32.toInt s16_c2) ≤ (Int32.toInt s18_18) ∧ 0 ≤ (Int32.toInt s17_c2) ∧ (Int32.toInt s17_c2) ≤ 2000 * (Int32.toInt s16_c2) from (by omega)), (show 0 ≤ (Int32.toInt s9_18) ∧ (Int32.toInt s9_18) ≤ 2000 ∧ 0 ≤ (Int32.toInt s10_18) ∧ (Int32.toInt s10_18) ≤ 30 * (Int32.toInt s9_18) from (by omega)), (show BS (σ 11) (σ 12) (σ 13) (σ 14) (σ 15) f5_c2 f6_c2 f7_c2 from (by with_reducible assumption)), (show BP (σ 11) (σ 12) s16_c2 s17_c2 f5_c2 from (by with_reducible assumption))⟩, (by show va_P _ _ _ _; rw [ht]; exact hP)⟩, hS.F ht⟩) hS.2.2 dX4_readOn_101
                · have kc_20 := bI_ne rfl L_0 c_20
                  refine lv_iconst (v := 1) hx hb dX4_readOn_86 (by decide) ?_
                  subst eQ
                  exact W.iret (v := 1) hx hb hr (fun t ht hW => ⟨⟨1, ((up (up (up (up (up (up (up (up (up (up (up (up (up σ 1 s1_c2) 2 s2_18) 3 s3_18) 4 s4_18) 5 s5_18) 6 s6_18) 7 s7_c2) 8 s8_18) 9 s9_18) 10 s10_18) 16 s16_c2) 17 s17_c2) 18 s18_18), (up (up (up (up (up (up (up (up φ 1 f1_18) 2 f2_18) 3 f3_18) 4 f4_c2) 5 f5_c2) 6 f6_c2) 7 f7_c2) 8 f8_c2), γ_18, ψ_18), rfl, ⟨s1_c2, s2_18, s3_18, s4_18, s5_18, s6_18, f1_18, f2_18, s7_c2, s8_18, s9_18, s10_18, f3_18, f4_c2, f5_c2, f6_c2, f7_c2, s16_c2, s17_c2, s18_18, f8_c2, rfl, rfl, pf1_18, pf2_18, pf3_18, pf4_c2, pf6_c2, (show 0 ≤ (Int32.toInt s18_18) ∧ (Int32.toInt s18_18) ≤ (Int32.toInt (σ 0)) ∧ 0 ≤ (Int32.toInt s1_c2) ∧ (Int32.toInt s1_c2) ≤ 50000 * (Int32.toInt s18_18) ∧ ((Int32.toInt s8_18) = 0 ∨ ((Int32.toInt s1_c2) + 10 ≤ 50000 * (Int32.toInt s18_18) ∧ (Int32.toInt s16_c2) + 1 ≤ (Int32.toInt s18_18))) ∧ 0 ≤ (Int32.toInt s16_c2) ∧ (Int32.toInt s16_c2) ≤ (Int32.toInt s18_18) ∧ 0 ≤ (Int32.toInt s17_c2) ∧ (Int32.toInt s17_c2) ≤ 2000 * (Int32.toInt s16_c2) from (by omega)), (show 0 ≤ (Int32.toInt s9_18) ∧ (Int32.toInt s9_18) ≤ 2000 ∧ 0 ≤ (Int32.toInt s10_18) ∧ (Int32.toInt s10_18) ≤ 30 * (Int32.toInt s9_18) from (by omega)), (show BS (σ 11) (σ 12) (σ 13) (σ 14) (σ 15) f5_c2 f6_c2 f7_c2 from (by with_reducible assumption)), (show BP (σ 11) (σ 12) s16_c2 s17_c2 f5_c2 from (by with_reducible assumption))⟩, (by show va_P _ _ _ _; rw [ht]; exact hP)⟩, hS.F ht⟩) hS.2.2 dX4_readOn_87
              · have kc_19 := bI_ne rfl L_0 c_19
                refine lv_aload_n hx hb dX4_readOn_71 rfl (lv_at hl 0 rfl) ?_
                refine lv_aload_n hx hb dX4_readOn_72 rfl (lv_at hl 0 rfl) ?_
                refine c_calli (va_runV (As := []) (rest := [.ref (a 5)]) ⟨hx, hb, hml, hown, hts⟩ (c_X4_readLine l dC dI a κ (up (up (up (up (up (up (up (up (up (up (up (up (up (up (up (up (up (up (up (up (up (up (up σ 1 s1_c2) 2 s2_c2) 3 s3_c2) 4 s4_c2) 5 s5_c2) 6 s6_c2) 7 s7_c2) 8 s8_c2) 9 s9_c2) 10 s10_c2) 16 s16_c2) 17 s17_c2) 18 s18_c2) 18 r_2) 2 s2_18) 3 s3_18) 4 s4_18) 5 s5_18) 6 s6_18) 18 s18_18) 8 s8_18) 9 s9_18) 10 s10_18) (up (up (up (up (up (up (up (up (up (up (up φ 1 f1_c2) 2 f2_c2) 3 f3_c2) 4 f4_c2) 5 f5_c2) 6 f6_c2) 7 f7_c2) 8 f8_c2) 1 f1_18) 2 f2_18) 3 f3_18) γ_18 ψ_18 g1 g2  pf1_18 pf2_18 pf3_18 (show 0 ≤ (Int32.toInt (σ 0)) ∧ (Int32.toInt (σ 0)) ≤ 4000 from (by omega)) (show 0 ≤ (Int32.toInt s1_c2) ∧ (Int32.toInt s1_c2) ≤ 1000000000 from (by omega)) (show 0 ≤ (Int32.toInt s3_18) ∧ (Int32.toInt s3_18) ≤ 4000 from (by omega)) (show 0 ≤ (Int32.toInt s9_18) ∧ (Int32.toInt s9_18) ≤ 2000 ∧ 0 ≤ (Int32.toInt s10_18) ∧ (Int32.toInt s10_18) ≤ 30 * (Int32.toInt s9_18) from (by omega))) (cwV 0 hts gX4_readOn_X4_readLine rfl rfl rfl ⟨rfl, hd_X4_readLine⟩ ⟨Nat.le_of_ble_eq_true rfl, Nat.le_of_ble_eq_true rfl⟩) (cPreV hP hK hI hN hX hS (va_recv hK hP (ci := 4) (q0 := 5) rfl rfl)) rfl rfl hl.1 rfl (lv_room (Nat.le_of_ble_eq_true rfl)) dX4_readOn_73 ⟨(by decide +kernel), (by decide +kernel)⟩) hS ?_
                clear hP hS; intro r_23 S_23 F_23 γ_23 ψ_23 H locs hw hP hS
                obtain ⟨s1_23, s7_23, f3_23, f8_23, rfl, rfl, pf3_23, (qc_23 : (Int32.toInt s1_c2) ≤ (Int32.toInt s1_23) ∧ (Int32.toInt s1_23) ≤ (Int32.toInt s1_c2) + 40000), (qs_23 : (Int32.toInt r_23) ≠ -1 ∨ (Int32.toInt s6_18) = 72 ∨ (Int32.toInt s6_18) = 80 ∨ (Int32.toInt s6_18) = 83), (qv_23 : (Int32.toInt r_23) ≠ -1 ∨ (Int32.toInt s6_18) ≠ 80 ∨ (-1 ≤ Int32.toInt (f8_23 2) ∧ Int32.toInt (f8_23 2) ≤ 1))⟩ := hw
                refine c_callv (va_runV (As := [.int r_23]) (rest := []) ⟨hx, hb, hml, hown, hts⟩ (c_X4_placeLine l dC dI a κ (up (up (up (up (up (up (up (up (up (up (up (up (up (up (up (up (up (up (up (up (up (up (up (up (up σ 1 s1_c2) 2 s2_c2) 3 s3_c2) 4 s4_c2) 5 s5_c2) 6 s6_c2) 7 s7_c2) 8 s8_c2) 9 s9_c2) 10 s10_c2) 16 s16_c2) 17 s17_c2) 18 s18_c2) 18 r_2) 2 s2_18) 3 s3_18) 4 s4_18) 5 s5_18) 6 s6_18) 18 s18_18) 8 s8_18) 9 s9_18) 10 s10_18) 1 s1_23) 7 s7_23) (up (up (up (up (up (up (up (up (up (up (up (up (up φ 1 f1_c2) 2 f2_c2) 3 f3_c2) 4 f4_c2) 5 f5_c2) 6 f6_c2) 7 f7_c2) 8 f8_c2) 1 f1_18) 2 f2_18) 3 f3_18) 3 f3_23) 8 f8_23) γ_23 ψ_23 g1 g2 r_23 pf3_23 pf4_c2 (show 0 ≤ (Int32.toInt s1_23) ∧ (Int32.toInt s1_23) ≤ 1000000000 from (by omega)) (show 0 ≤ (Int32.toInt s9_18) ∧ (Int32.toInt s9_18) ≤ 2000 ∧ 0 ≤ (Int32.toInt s10_18) ∧ (Int32.toInt s10_18) ≤ 30 * (Int32.toInt s9_18) from (by omega)) (show (Int32.toInt r_23) ≠ -1 ∨ (Int32.toInt s8_18) = 0 ∨ (Int32.toInt s6_18) = 72 ∨ (-1 ≤ Int32.toInt (f8_23 2) ∧ Int32.toInt (f8_23 2) ≤ 1) from (by omega))) (cwV 1 hts gX4_readOn_X4_placeLine rfl rfl rfl ⟨rfl, hd_X4_placeLine⟩ ⟨Nat.le_of_ble_eq_true rfl, Nat.le_of_ble_eq_true rfl⟩) (cPreV hP hK hI hN hX hS (va_recv hK hP (ci := 4) (q0 := 5) rfl rfl)) rfl rfl hl.1 rfl (lv_room (Nat.le_of_ble_eq_true rfl)) dX4_readOn_76 ⟨(by decide +kernel), (by decide +kernel)⟩) hS ?_
                clear hP hS; intro S_24 F_24 γ_24 ψ_24 H locs hw hP hS
                obtain ⟨s1_24, f4_24, s10_24, s9_24, rfl, rfl, pf4_24, (qc_24 : (Int32.toInt s1_23) ≤ (Int32.toInt s1_24) ∧ (Int32.toInt s1_24) ≤ (Int32.toInt s1_23) + 3), (qp_24 : 0 ≤ (Int32.toInt s9_24) ∧ (Int32.toInt s9_24) ≤ 2000 ∧ 0 ≤ (Int32.toInt s10_24) ∧ (Int32.toInt s10_24) ≤ 30 * (Int32.toInt s9_24))⟩ := hw
                refine lv_aload_n hx hb dX4_readOn_79 rfl (lv_at hl 0 rfl) ?_
                refine cg_5_14 (v := (γ_24 4)) hx hb hts hinX4 hown hK hP (hts (.fieldLink RX4 71 "CensusDesk$Reader" "rejected" "Z") (List.mem_of_getElem? (i := 4) rfl)) rfl dX4_readOn_80 ?_
                refine lv_if_eq (tgt := 88) hx hb dX4_readOn_83 (by decide) (fun c_25 => ?_) (fun c_25 => ?_)
                · have kc_25 := bI_eq rfl L_0 c_25
                  refine lv_aload_n hx hb dX4_readOn_88 rfl (lv_at hl 0 rfl) ?_
                  refine cg_5_15 (v := (γ_24 5)) hx hb hts hinX4 hown hK hP (hts (.fieldLink RX4 75 "CensusDesk$Reader" "stopNow" "Z") (List.mem_of_getElem? (i := 5) rfl)) rfl dX4_readOn_89 ?_
                  refine lv_if_eq (tgt := 102) hx hb dX4_readOn_92 (by decide) (fun c_26 => ?_) (fun c_26 => ?_)
                  · have kc_26 := bI_eq rfl L_0 c_26
                    obtain ⟨i_27, ei_27⟩ : ∃ z : Int32, z = step + 1 := ⟨_, rfl⟩
                    refine lv_iinc (v := i_27) (lv' := [(1, .int i_27), (0, .ref (a 5))]) hx hb dX4_readOn_102 hl (k := 1) rfl (by rw [ei_27]; rfl) (by decide) rfl ?_
                    clear hl; intro ls hl
                    have ti_27 : (Int32.toInt i_27) = (Int32.toInt step) + 1 := aI_add rfl L_1 ei_27 (by have := rng step; omega)
                    refine lv_goto (tgt := 2) hx hb dX4_readOn_105 (by decide) ?_
                    exact ih2 i_27 s1_24 s2_18 s3_18 s4_18 s5_18 s6_18 f1_18 f2_18 s7_23 s8_18 s9_24 s10_24 f3_23 f4_24 f5_c2 f6_c2 f7_c2 s16_c2 s17_c2 s18_18 f8_23 γ_24 ψ_24 _ _ _ pf1_18 pf2_18 pf3_23 pf4_24 pf6_c2 (show 0 ≤ (Int32.toInt i_27) from (by omega)) (show 0 ≤ (Int32.toInt s18_18) ∧ (Int32.toInt s18_18) ≤ (Int32.toInt (σ 0)) ∧ 0 ≤ (Int32.toInt s1_24) ∧ (Int32.toInt s1_24) ≤ 50000 * (Int32.toInt s18_18) ∧ ((Int32.toInt s8_18) = 0 ∨ ((Int32.toInt s1_24) + 10 ≤ 50000 * (Int32.toInt s18_18) ∧ (Int32.toInt s16_c2) + 1 ≤ (Int32.toInt s18_18))) ∧ 0 ≤ (Int32.toInt s16_c2) ∧ (Int32.toInt s16_c2) ≤ (Int32.toInt s18_18) ∧ 0 ≤ (Int32.toInt s17_c2) ∧ (Int32.toInt s17_c2) ≤ 2000 * (Int32.toInt s16_c2) from (by omega)) (show 0 ≤ (Int32.toInt s9_24) ∧ (Int32.toInt s9_24) ≤ 2000 ∧ 0 ≤ (Int32.toInt s10_24) ∧ (Int32.toInt s10_24) ≤ 30 * (Int32.toInt s9_24) from (by omega)) (show BS (σ 11) (σ 12) (σ 13) (σ 14) (σ 15) f5_c2 f6_c2 f7_c2 from (by with_reducible assumption)) (show BP (σ 11) (σ 12) s16_c2 s17_c2 f5_c2 from (by with_reducible assumption)) (by omega) hP hS (lv_sub hl [1, 0] rfl)
                  · have kc_26 := bI_ne rfl L_0 c_26
                    refine lv_aload_n hx hb dX4_readOn_95 rfl (lv_at hl 0 rfl) ?_
                    refine lv_iconst (v := 0) hx hb dX4_readOn_96 (by decide) ?_
                    refine cp_5_15 (v := 0) hx hb hts hinX4 hown hK hP hI hS (hts (.fieldLink RX4 75 "CensusDesk$Reader" "stopNow" "Z") (List.mem_of_getElem? (i := 5) rfl)) (by first | rfl | decide) (by first | rfl | decide) dX4_readOn_97 ?_
                    clear hP hS; intro H locs hP hS
                    refine lv_iconst (v := 2) hx hb dX4_readOn_100 (by decide) ?_
                    subst eQ
                    exact W.iret (v := 2) hx hb hr (fun t ht hW => ⟨⟨2, ((up (up (up (up (up (up (up (up (up (up (up (up (up σ 1 s1_24) 2 s2_18) 3 s3_18) 4 s4_18) 5 s5_18) 6 s6_18) 7 s7_23) 8 s8_18) 9 s9_24) 10 s10_24) 16 s16_c2) 17 s17_c2) 18 s18_18), (up (up (up (up (up (up (up (up φ 1 f1_18) 2 f2_18) 3 f3_23) 4 f4_24) 5 f5_c2) 6 f6_c2) 7 f7_c2) 8 f8_23), (up γ_24 5 0), ψ_24), rfl, ⟨s1_24, s2_18, s3_18, s4_18, s5_18, s6_18, f1_18, f2_18, s7_23, s8_18, s9_24, s10_24, f3_23, f4_24, f5_c2, f6_c2, f7_c2, s16_c2, s17_c2, s18_18, f8_23, rfl, rfl, pf1_18, pf2_18, pf3_23, pf4_24, pf6_c2, (show 0 ≤ (Int32.toInt s18_18) ∧ (Int32.toInt s18_18) ≤ (Int32.toInt (σ 0)) ∧ 0 ≤ (Int32.toInt s1_24) ∧ (Int32.toInt s1_24) ≤ 50000 * (Int32.toInt s18_18) ∧ ((Int32.toInt s8_18) = 0 ∨ ((Int32.toInt s1_24) + 10 ≤ 50000 * (Int32.toInt s18_18) ∧ (Int32.toInt s16_c2) + 1 ≤ (Int32.toInt s18_18))) ∧ 0 ≤ (Int32.toInt s16_c2) ∧ (Int32.toInt s16_c2) ≤ (Int32.toInt s18_18) ∧ 0 ≤ (Int32.toInt s17_c2) ∧ (Int32.toInt s17_c2) ≤ 2000 * (Int32.toInt s16_c2) from (by omega)), (show 0 ≤ (Int32.toInt s9_24) ∧ (Int32.toInt s9_24) ≤ 2000 ∧ 0 ≤ (Int32.toInt s10_24) ∧ (Int32.toInt s10_24) ≤ 30 * (Int32.toInt s9_24) from (by omega)), (show BS (σ 11) (σ 12) (σ 13) (σ 14) (σ 15) f5_c2 f6_c2 f7_c2 from (by with_reducible assumption)), (show BP (σ 11) (σ 12) s16_c2 s17_c2 f5_c2 from (by with_reducible assumption))⟩, (by show va_P _ _ _ _; rw [ht]; exact hP)⟩, hS.F ht⟩) hS.2.2 dX4_readOn_101
                · have kc_25 := bI_ne rfl L_0 c_25
                  refine lv_iconst (v := 1) hx hb dX4_readOn_86 (by decide) ?_
                  subst eQ
                  exact W.iret (v := 1) hx hb hr (fun t ht hW => ⟨⟨1, ((up (up (up (up (up (up (up (up (up (up (up (up (up σ 1 s1_24) 2 s2_18) 3 s3_18) 4 s4_18) 5 s5_18) 6 s6_18) 7 s7_23) 8 s8_18) 9 s9_24) 10 s10_24) 16 s16_c2) 17 s17_c2) 18 s18_18), (up (up (up (up (up (up (up (up φ 1 f1_18) 2 f2_18) 3 f3_23) 4 f4_24) 5 f5_c2) 6 f6_c2) 7 f7_c2) 8 f8_23), γ_24, ψ_24), rfl, ⟨s1_24, s2_18, s3_18, s4_18, s5_18, s6_18, f1_18, f2_18, s7_23, s8_18, s9_24, s10_24, f3_23, f4_24, f5_c2, f6_c2, f7_c2, s16_c2, s17_c2, s18_18, f8_23, rfl, rfl, pf1_18, pf2_18, pf3_23, pf4_24, pf6_c2, (show 0 ≤ (Int32.toInt s18_18) ∧ (Int32.toInt s18_18) ≤ (Int32.toInt (σ 0)) ∧ 0 ≤ (Int32.toInt s1_24) ∧ (Int32.toInt s1_24) ≤ 50000 * (Int32.toInt s18_18) ∧ ((Int32.toInt s8_18) = 0 ∨ ((Int32.toInt s1_24) + 10 ≤ 50000 * (Int32.toInt s18_18) ∧ (Int32.toInt s16_c2) + 1 ≤ (Int32.toInt s18_18))) ∧ 0 ≤ (Int32.toInt s16_c2) ∧ (Int32.toInt s16_c2) ≤ (Int32.toInt s18_18) ∧ 0 ≤ (Int32.toInt s17_c2) ∧ (Int32.toInt s17_c2) ≤ 2000 * (Int32.toInt s16_c2) from (by omega)), (show 0 ≤ (Int32.toInt s9_24) ∧ (Int32.toInt s9_24) ≤ 2000 ∧ 0 ≤ (Int32.toInt s10_24) ∧ (Int32.toInt s10_24) ≤ 30 * (Int32.toInt s9_24) from (by omega)), (show BS (σ 11) (σ 12) (σ 13) (σ 14) (σ 15) f5_c2 f6_c2 f7_c2 from (by with_reducible assumption)), (show BP (σ 11) (σ 12) s16_c2 s17_c2 f5_c2 from (by with_reducible assumption))⟩, (by show va_P _ _ _ _; rw [ht]; exact hP)⟩, hS.F ht⟩) hS.2.2 dX4_readOn_87
            · have kc_17 := bI_nlt rfl rfl c_17
              refine lv_iconst (v := 0) hx hb dX4_readOn_62 (by decide) ?_
              subst eQ
              exact W.iret (v := 0) hx hb hr (fun t ht hW => ⟨⟨0, ((up (up (up (up (up (up (up (up (up (up (up (up (up σ 1 s1_c2) 2 s2_c2) 3 s3_c2) 4 s4_c2) 5 s5_c2) 6 s6_c2) 7 s7_c2) 8 s8_c2) 9 s9_c2) 10 s10_c2) 16 s16_c2) 17 s17_c2) 18 r_2), (up (up (up (up (up (up (up (up φ 1 f1_c2) 2 f2_c2) 3 f3_c2) 4 f4_c2) 5 f5_c2) 6 f6_c2) 7 f7_c2) 8 f8_c2), γ_15, ψ_15), rfl, ⟨s1_c2, s2_c2, s3_c2, s4_c2, s5_c2, s6_c2, f1_c2, f2_c2, s7_c2, s8_c2, s9_c2, s10_c2, f3_c2, f4_c2, f5_c2, f6_c2, f7_c2, s16_c2, s17_c2, r_2, f8_c2, rfl, rfl, pf1_c2, pf2_c2, pf3_c2, pf4_c2, pf6_c2, (show 0 ≤ (Int32.toInt r_2) ∧ (Int32.toInt r_2) ≤ (Int32.toInt (σ 0)) ∧ 0 ≤ (Int32.toInt s1_c2) ∧ (Int32.toInt s1_c2) ≤ 50000 * (Int32.toInt r_2) ∧ ((Int32.toInt s8_c2) = 0 ∨ ((Int32.toInt s1_c2) + 10 ≤ 50000 * (Int32.toInt r_2) ∧ (Int32.toInt s16_c2) + 1 ≤ (Int32.toInt r_2))) ∧ 0 ≤ (Int32.toInt s16_c2) ∧ (Int32.toInt s16_c2) ≤ (Int32.toInt r_2) ∧ 0 ≤ (Int32.toInt s17_c2) ∧ (Int32.toInt s17_c2) ≤ 2000 * (Int32.toInt s16_c2) from (by omega)), (show 0 ≤ (Int32.toInt s9_c2) ∧ (Int32.toInt s9_c2) ≤ 2000 ∧ 0 ≤ (Int32.toInt s10_c2) ∧ (Int32.toInt s10_c2) ≤ 30 * (Int32.toInt s9_c2) from (by omega)), (show BS (σ 11) (σ 12) (σ 13) (σ 14) (σ 15) f5_c2 f6_c2 f7_c2 from (by with_reducible assumption)), (show BP (σ 11) (σ 12) s16_c2 s17_c2 f5_c2 from (by with_reducible assumption))⟩, (by show va_P _ _ _ _; rw [ht]; exact hP)⟩, hS.F ht⟩) hS.2.2 dX4_readOn_63
          · have kc_16 := bI_ne rfl L_0 c_16
            refine lv_aload_n hx hb dX4_readOn_41 rfl (lv_at hl 0 rfl) ?_
            refine c_callv (va_runV (As := []) (rest := []) ⟨hx, hb, hml, hown, hts⟩ (c_X4_closeHousehold l dC dI a κ (up (up (up (up (up (up (up (up (up (up (up (up (up (up σ 1 s1_c2) 2 s2_c2) 3 s3_c2) 4 s4_c2) 5 s5_c2) 6 s6_c2) 7 s7_c2) 8 s8_c2) 9 s9_c2) 10 s10_c2) 16 s16_c2) 17 s17_c2) 18 s18_c2) 18 r_2) (up (up (up (up (up (up (up (up φ 1 f1_c2) 2 f2_c2) 3 f3_c2) 4 f4_c2) 5 f5_c2) 6 f6_c2) 7 f7_c2) 8 f8_c2) γ_15 ψ_15 g1 g2  pf4_c2 pf6_c2 (show 0 ≤ (Int32.toInt s1_c2) ∧ (Int32.toInt s1_c2) ≤ 1000000000 from (by omega)) (show 0 ≤ (Int32.toInt (σ 11)) ∧ (Int32.toInt (σ 11)) ≤ 60 ∧ 0 ≤ (Int32.toInt (σ 12)) ∧ (Int32.toInt (σ 12)) ≤ 300 from (by omega)) (show BS (σ 11) (σ 12) (σ 13) (σ 14) (σ 15) f5_c2 f6_c2 f7_c2 from (by with_reducible assumption)) (show BP (σ 11) (σ 12) s16_c2 s17_c2 f5_c2 from (by with_reducible assumption)) (show 0 ≤ (Int32.toInt s16_c2) ∧ (Int32.toInt s16_c2) ≤ 4000 ∧ 0 ≤ (Int32.toInt s17_c2) ∧ (Int32.toInt s17_c2) ≤ 2000 * (Int32.toInt s16_c2) from (by omega)) (show 0 ≤ (Int32.toInt s9_c2) ∧ (Int32.toInt s9_c2) ≤ 2000 ∧ 0 ≤ (Int32.toInt s10_c2) ∧ (Int32.toInt s10_c2) ≤ 30 * (Int32.toInt s9_c2) from (by omega))) (cwV 0 hts gX4_readOn_X4_closeHousehold rfl rfl rfl ⟨rfl, hd_X4_closeHousehold⟩ ⟨Nat.le_of_ble_eq_true rfl, Nat.le_of_ble_eq_true rfl⟩) (cPreV hP hK hI hN hX hS (va_recv hK hP (ci := 4) (q0 := 5) rfl rfl)) rfl rfl hl.1 rfl (lv_room (Nat.le_of_ble_eq_true rfl)) dX4_readOn_42 ⟨(by decide +kernel), (by decide +kernel)⟩) hS ?_
            clear hP hS; intro S_28 F_28 γ_28 ψ_28 H locs hw hP hS
            obtain ⟨s1_28, f5_28, f6_28, f7_28, s16_28, s17_28, s8_28, rfl, rfl, pf6_28, (qc_28 : (Int32.toInt s1_c2) ≤ (Int32.toInt s1_28) ∧ (Int32.toInt s1_28) ≤ (Int32.toInt s1_c2) + 6), (qb_28 : BS (σ 11) (σ 12) (σ 13) (σ 14) (σ 15) f5_28 f6_28 f7_28), (qn_28 : BP (σ 11) (σ 12) s16_28 s17_28 f5_28), (qt_28 : (Int32.toInt s16_c2) ≤ (Int32.toInt s16_28) ∧ (Int32.toInt s16_28) ≤ (Int32.toInt s16_c2) + 1 ∧ 0 ≤ (Int32.toInt s17_28) ∧ (Int32.toInt s17_28) ≤ 2000 * (Int32.toInt s16_28)), (qo_28 : (Int32.toInt s8_28) = 0)⟩ := hw
            refine lv_goto (tgt := 79) hx hb dX4_readOn_45 (by decide) ?_
            refine lv_aload_n hx hb dX4_readOn_79 rfl (lv_at hl 0 rfl) ?_
            refine cg_5_14 (v := (γ_28 4)) hx hb hts hinX4 hown hK hP (hts (.fieldLink RX4 71 "CensusDesk$Reader" "rejected" "Z") (List.mem_of_getElem? (i := 4) rfl)) rfl dX4_readOn_80 ?_
            refine lv_if_eq (tgt := 88) hx hb dX4_readOn_83 (by decide) (fun c_29 => ?_) (fun c_29 => ?_)
            · have kc_29 := bI_eq rfl L_0 c_29
              refine lv_aload_n hx hb dX4_readOn_88 rfl (lv_at hl 0 rfl) ?_
              refine cg_5_15 (v := (γ_28 5)) hx hb hts hinX4 hown hK hP (hts (.fieldLink RX4 75 "CensusDesk$Reader" "stopNow" "Z") (List.mem_of_getElem? (i := 5) rfl)) rfl dX4_readOn_89 ?_
              refine lv_if_eq (tgt := 102) hx hb dX4_readOn_92 (by decide) (fun c_30 => ?_) (fun c_30 => ?_)
              · have kc_30 := bI_eq rfl L_0 c_30
                obtain ⟨i_31, ei_31⟩ : ∃ z : Int32, z = step + 1 := ⟨_, rfl⟩
                refine lv_iinc (v := i_31) (lv' := [(1, .int i_31), (0, .ref (a 5))]) hx hb dX4_readOn_102 hl (k := 1) rfl (by rw [ei_31]; rfl) (by decide) rfl ?_
                clear hl; intro ls hl
                have ti_31 : (Int32.toInt i_31) = (Int32.toInt step) + 1 := aI_add rfl L_1 ei_31 (by have := rng step; omega)
                refine lv_goto (tgt := 2) hx hb dX4_readOn_105 (by decide) ?_
                exact ih2 i_31 s1_28 s2_c2 s3_c2 s4_c2 s5_c2 s6_c2 f1_c2 f2_c2 s7_c2 s8_28 s9_c2 s10_c2 f3_c2 f4_c2 f5_28 f6_28 f7_28 s16_28 s17_28 r_2 f8_c2 γ_28 ψ_28 _ _ _ pf1_c2 pf2_c2 pf3_c2 pf4_c2 pf6_28 (show 0 ≤ (Int32.toInt i_31) from (by omega)) (show 0 ≤ (Int32.toInt r_2) ∧ (Int32.toInt r_2) ≤ (Int32.toInt (σ 0)) ∧ 0 ≤ (Int32.toInt s1_28) ∧ (Int32.toInt s1_28) ≤ 50000 * (Int32.toInt r_2) ∧ ((Int32.toInt s8_28) = 0 ∨ ((Int32.toInt s1_28) + 10 ≤ 50000 * (Int32.toInt r_2) ∧ (Int32.toInt s16_28) + 1 ≤ (Int32.toInt r_2))) ∧ 0 ≤ (Int32.toInt s16_28) ∧ (Int32.toInt s16_28) ≤ (Int32.toInt r_2) ∧ 0 ≤ (Int32.toInt s17_28) ∧ (Int32.toInt s17_28) ≤ 2000 * (Int32.toInt s16_28) from (by omega)) (show 0 ≤ (Int32.toInt s9_c2) ∧ (Int32.toInt s9_c2) ≤ 2000 ∧ 0 ≤ (Int32.toInt s10_c2) ∧ (Int32.toInt s10_c2) ≤ 30 * (Int32.toInt s9_c2) from (by omega)) (show BS (σ 11) (σ 12) (σ 13) (σ 14) (σ 15) f5_28 f6_28 f7_28 from (by with_reducible assumption)) (show BP (σ 11) (σ 12) s16_28 s17_28 f5_28 from (by with_reducible assumption)) (by omega) hP hS (lv_sub hl [1, 0] rfl)
              · have kc_30 := bI_ne rfl L_0 c_30
                refine lv_aload_n hx hb dX4_readOn_95 rfl (lv_at hl 0 rfl) ?_
                refine lv_iconst (v := 0) hx hb dX4_readOn_96 (by decide) ?_
                refine cp_5_15 (v := 0) hx hb hts hinX4 hown hK hP hI hS (hts (.fieldLink RX4 75 "CensusDesk$Reader" "stopNow" "Z") (List.mem_of_getElem? (i := 5) rfl)) (by first | rfl | decide) (by first | rfl | decide) dX4_readOn_97 ?_
                clear hP hS; intro H locs hP hS
                refine lv_iconst (v := 2) hx hb dX4_readOn_100 (by decide) ?_
                subst eQ
                exact W.iret (v := 2) hx hb hr (fun t ht hW => ⟨⟨2, ((up (up (up (up (up (up (up (up (up (up (up (up (up σ 1 s1_28) 2 s2_c2) 3 s3_c2) 4 s4_c2) 5 s5_c2) 6 s6_c2) 7 s7_c2) 8 s8_28) 9 s9_c2) 10 s10_c2) 16 s16_28) 17 s17_28) 18 r_2), (up (up (up (up (up (up (up (up φ 1 f1_c2) 2 f2_c2) 3 f3_c2) 4 f4_c2) 5 f5_28) 6 f6_28) 7 f7_28) 8 f8_c2), (up γ_28 5 0), ψ_28), rfl, ⟨s1_28, s2_c2, s3_c2, s4_c2, s5_c2, s6_c2, f1_c2, f2_c2, s7_c2, s8_28, s9_c2, s10_c2, f3_c2, f4_c2, f5_28, f6_28, f7_28, s16_28, s17_28, r_2, f8_c2, rfl, rfl, pf1_c2, pf2_c2, pf3_c2, pf4_c2, pf6_28, (show 0 ≤ (Int32.toInt r_2) ∧ (Int32.toInt r_2) ≤ (Int32.toInt (σ 0)) ∧ 0 ≤ (Int32.toInt s1_28) ∧ (Int32.toInt s1_28) ≤ 50000 * (Int32.toInt r_2) ∧ ((Int32.toInt s8_28) = 0 ∨ ((Int32.toInt s1_28) + 10 ≤ 50000 * (Int32.toInt r_2) ∧ (Int32.toInt s16_28) + 1 ≤ (Int32.toInt r_2))) ∧ 0 ≤ (Int32.toInt s16_28) ∧ (Int32.toInt s16_28) ≤ (Int32.toInt r_2) ∧ 0 ≤ (Int32.toInt s17_28) ∧ (Int32.toInt s17_28) ≤ 2000 * (Int32.toInt s16_28) from (by omega)), (show 0 ≤ (Int32.toInt s9_c2) ∧ (Int32.toInt s9_c2) ≤ 2000 ∧ 0 ≤ (Int32.toInt s10_c2) ∧ (Int32.toInt s10_c2) ≤ 30 * (Int32.toInt s9_c2) from (by omega)), (show BS (σ 11) (σ 12) (σ 13) (σ 14) (σ 15) f5_28 f6_28 f7_28 from (by with_reducible assumption)), (show BP (σ 11) (σ 12) s16_28 s17_28 f5_28 from (by with_reducible assumption))⟩, (by show va_P _ _ _ _; rw [ht]; exact hP)⟩, hS.F ht⟩) hS.2.2 dX4_readOn_101
            · have kc_29 := bI_ne rfl L_0 c_29
              refine lv_iconst (v := 1) hx hb dX4_readOn_86 (by decide) ?_
              subst eQ
              exact W.iret (v := 1) hx hb hr (fun t ht hW => ⟨⟨1, ((up (up (up (up (up (up (up (up (up (up (up (up (up σ 1 s1_28) 2 s2_c2) 3 s3_c2) 4 s4_c2) 5 s5_c2) 6 s6_c2) 7 s7_c2) 8 s8_28) 9 s9_c2) 10 s10_c2) 16 s16_28) 17 s17_28) 18 r_2), (up (up (up (up (up (up (up (up φ 1 f1_c2) 2 f2_c2) 3 f3_c2) 4 f4_c2) 5 f5_28) 6 f6_28) 7 f7_28) 8 f8_c2), γ_28, ψ_28), rfl, ⟨s1_28, s2_c2, s3_c2, s4_c2, s5_c2, s6_c2, f1_c2, f2_c2, s7_c2, s8_28, s9_c2, s10_c2, f3_c2, f4_c2, f5_28, f6_28, f7_28, s16_28, s17_28, r_2, f8_c2, rfl, rfl, pf1_c2, pf2_c2, pf3_c2, pf4_c2, pf6_28, (show 0 ≤ (Int32.toInt r_2) ∧ (Int32.toInt r_2) ≤ (Int32.toInt (σ 0)) ∧ 0 ≤ (Int32.toInt s1_28) ∧ (Int32.toInt s1_28) ≤ 50000 * (Int32.toInt r_2) ∧ ((Int32.toInt s8_28) = 0 ∨ ((Int32.toInt s1_28) + 10 ≤ 50000 * (Int32.toInt r_2) ∧ (Int32.toInt s16_28) + 1 ≤ (Int32.toInt r_2))) ∧ 0 ≤ (Int32.toInt s16_28) ∧ (Int32.toInt s16_28) ≤ (Int32.toInt r_2) ∧ 0 ≤ (Int32.toInt s17_28) ∧ (Int32.toInt s17_28) ≤ 2000 * (Int32.toInt s16_28) from (by omega)), (show 0 ≤ (Int32.toInt s9_c2) ∧ (Int32.toInt s9_c2) ≤ 2000 ∧ 0 ≤ (Int32.toInt s10_c2) ∧ (Int32.toInt s10_c2) ≤ 30 * (Int32.toInt s9_c2) from (by omega)), (show BS (σ 11) (σ 12) (σ 13) (σ 14) (σ 15) f5_28 f6_28 f7_28 from (by with_reducible assumption)), (show BP (σ 11) (σ 12) s16_28 s17_28 f5_28 from (by with_reducible assumption))⟩, (by show va_P _ _ _ _; rw [ht]; exact hP)⟩, hS.F ht⟩) hS.2.2 dX4_readOn_87
  refine lv_iconst (v := 0) hx hb dX4_readOn_0 (by decide) ?_
  refine lv_istore_n (lv' := [(1, .int 0), (0, .ref (a 5))]) hx hb dX4_readOn_1 rfl hl (by decide) rfl ?_
  clear hl; intro ls hl
  exact J2 (_ + 1) 0 (σ 1) (σ 2) (σ 3) (σ 4) (σ 5) (σ 6) (φ 1) (φ 2) (σ 7) (σ 8) (σ 9) (σ 10) (φ 3) (φ 4) (φ 5) (φ 6) (φ 7) (σ 16) (σ 17) (σ 18) (φ 8) γ ψ _ _ _ p_line_cellStart p_line_cellEnd p_hh_nameLength p_hh_sex p_book_personFacts0 (show 0 ≤ (Int32.toInt 0) from (by have := L_0; omega)) (show 0 ≤ (Int32.toInt (σ 18)) ∧ (Int32.toInt (σ 18)) ≤ (Int32.toInt (σ 0)) ∧ 0 ≤ (Int32.toInt (σ 1)) ∧ (Int32.toInt (σ 1)) ≤ 50000 * (Int32.toInt (σ 18)) ∧ ((Int32.toInt (σ 8)) = 0 ∨ ((Int32.toInt (σ 1)) + 10 ≤ 50000 * (Int32.toInt (σ 18)) ∧ (Int32.toInt (σ 16)) + 1 ≤ (Int32.toInt (σ 18)))) ∧ 0 ≤ (Int32.toInt (σ 16)) ∧ (Int32.toInt (σ 16)) ≤ (Int32.toInt (σ 18)) ∧ 0 ≤ (Int32.toInt (σ 17)) ∧ (Int32.toInt (σ 17)) ≤ 2000 * (Int32.toInt (σ 16)) from (by omega)) (show 0 ≤ (Int32.toInt (σ 9)) ∧ (Int32.toInt (σ 9)) ≤ 2000 ∧ 0 ≤ (Int32.toInt (σ 10)) ∧ (Int32.toInt (σ 10)) ≤ 30 * (Int32.toInt (σ 9)) from (by omega)) (show BS (σ 11) (σ 12) (σ 13) (σ 14) (σ 15) (φ 5) (φ 6) (φ 7) from (by with_reducible assumption)) (show BP (σ 11) (σ 12) (σ 16) (σ 17) (φ 5) from (by with_reducible assumption)) (Nat.lt_succ_self _) hP hS (lv_sub hl [1, 0] rfl)
set_option maxHeartbeats 4000000 in
set_option maxRecDepth 100000 in
theorem c_X8_failures (l : Launch) (dC : Nat → ClassId) (dI : Nat → Nat → Nat) (a : Nat → Nat) (κ : Nat → ClassId) (σ : Nat → Int32) (φ : Nat → Nat → Int32) (γ : Nat → Int32) (ψ : Nat → Nat → Int32) (g1 g2 : Nat)  : Met l yX8_failures wsX8_failures ({ frames := 0, cells := 0, slots := 0, locals := 0 } : Room) (va_Pc [.ref (a 0)] (cPre dC dI a κ (σ, φ, γ, ψ) g1 g2)) (va_Qi (QI (fun r S F => σ = S ∧ φ = F ∧ True)) (cB dC dI a κ) (cA a)) 0 0 (cA a) := by
  refine Met.ofW (cc := cX8_failures) (maxL := 1) (ret := (some .int)) (by decide) rfl ?_
  intro p e s m args below meth c s₁ B hml hv
  obtain ⟨rfl, hP, hK, hI, hN, hX⟩ := hv
  have hx := B.exec
  have hb := B.bytes
  have hr := B.returns
  have hts := atoms_spec (ws := wsX8_failures) B.pre
  have hown : s.vm.findClass RX8 = some m.cls := findClass_of_methodNamed B.named
  have hlocks := B.notSynchronized
  have hS : va_S (cA a) s.heap s.heap [] := va_S.rf
  have hinX8 : ∀ w ∈ wsX80, w ∈ wsX8_failures := fun _ h => List.mem_cons_of_mem _ (List.mem_append_left _ (List.mem_append_right _ h))
  have hinX1 : ∀ w ∈ wsX10, w ∈ wsX8_failures := fun _ h => List.mem_cons_of_mem _ (List.mem_append_right _ h)
  have hl := lv_entry ([.ref (a 0)]) (n := 1) (Nat.le_of_ble_eq_true rfl)
  rw [lg_entry_eq]
  generalize (lg_sl ([.ref (a 0)]) ++ List.replicate (1 - (lg_sl ([.ref (a 0)])).length) Slot.unset).toArray = ls at hl ⊢
  have hl : lv_has ls 1 [(0, .ref (a 0))] := hl
  refine lv_aload_n hx hb dX8_failures_0 rfl (lv_at hl 0 rfl) ?_
  refine cg_0_2 hx hb hts hinX8 hown hK hP (hts (.fieldLink RX8 26 "CensusDesk" "log" "LCensusDesk$Failures;") (List.mem_of_getElem? (i := 1) rfl)) dX8_failures_1 ?_
  refine cgN_3_4 (v := (σ 1)) hx hb hts hinX1 hown hK hP (va_Nw.use rfl (hN.1 ("CensusDesk", 93, "CensusDesk$Failures", "count", "I") (List.mem_of_getElem? (i := 3) rfl))) rfl dX8_failures_4 ?_
  exact W.iret (v := (σ 1)) hx hb hr (fun t ht hW => ⟨⟨(σ 1), (σ, φ, γ, ψ), rfl, ⟨rfl, rfl, trivial⟩, (by show va_P _ _ _ _; rw [ht]; exact hP)⟩, hS.F ht⟩) hS.2.2 dX8_failures_7
set_option maxHeartbeats 4000000 in
set_option maxRecDepth 100000 in
theorem c_X8_failure (l : Launch) (dC : Nat → ClassId) (dI : Nat → Nat → Nat) (a : Nat → Nat) (κ : Nat → ClassId) (σ : Nat → Int32) (φ : Nat → Nat → Int32) (γ : Nat → Int32) (ψ : Nat → Nat → Int32) (g1 g2 : Nat) (i : Int32) (what : Int32) : Met l yX8_failure wsX8_failure ({ frames := 2, cells := 0, slots := 0, locals := 43 } : Room) (va_Pc [.ref (a 0), .int i, .int what] (cPre dC dI a κ (σ, φ, γ, ψ) g1 g2)) (va_Qi (QI (fun r S F => σ = S ∧ φ = F ∧ True)) (cB dC dI a κ) (cA a)) 0 0 (cA a) := by
  refine Met.ofW (cc := cX8_failure) (maxL := 3) (ret := (some .int)) (by decide) rfl ?_
  intro p e s m args below meth c s₁ B hml hv
  obtain ⟨rfl, hP, hK, hI, hN, hX⟩ := hv
  have hx := B.exec
  have hb := B.bytes
  have hr := B.returns
  have hts := atoms_spec (ws := wsX8_failure) B.pre
  have hown : s.vm.findClass RX8 = some m.cls := findClass_of_methodNamed B.named
  have hlocks := B.notSynchronized
  have hS : va_S (cA a) s.heap s.heap [] := va_S.rf
  have hinX8 : ∀ w ∈ wsX80, w ∈ wsX8_failure := fun _ h => List.mem_cons_of_mem _ (List.mem_append_left _ (List.mem_append_right _ h))
  have hinX1 : ∀ w ∈ wsX10, w ∈ wsX8_failure := fun _ h => List.mem_cons_of_mem _ (List.mem_append_right _ h)
  have hl := lv_entry ([.ref (a 0), .int i, .int what]) (n := 3) (Nat.le_of_ble_eq_true rfl)
  rw [lg_entry_eq]
  generalize (lg_sl ([.ref (a 0), .int i, .int what]) ++ List.replicate (3 - (lg_sl ([.ref (a 0), .int i, .int what])).length) Slot.unset).toArray = ls at hl ⊢
  have hl : lv_has ls 3 [(0, .ref (a 0)), (1, .int i), (2, .int what)] := hl
  refine lv_aload_n hx hb dX8_failure_0 rfl (lv_at hl 0 rfl) ?_
  refine cg_0_2 hx hb hts hinX8 hown hK hP (hts (.fieldLink RX8 26 "CensusDesk" "log" "LCensusDesk$Failures;") (List.mem_of_getElem? (i := 1) rfl)) dX8_failure_1 ?_
  refine lv_iload_n hx hb dX8_failure_4 rfl (lv_at hl 1 rfl) ?_
  refine lv_iload_n hx hb dX8_failure_5 rfl (lv_at hl 2 rfl) ?_
  refine c_calli (va_runV (As := [.int i, .int what]) (rest := []) ⟨hx, hb, hml, hown, hts⟩ (c_X1_tell l dC dI a κ σ φ γ ψ g1 g2 i what ) (cwV 2 hts gX8_failure_X1_tell rfl rfl rfl ⟨rfl, hd_X1_tell⟩ ⟨Nat.le_of_ble_eq_true rfl, Nat.le_of_ble_eq_true rfl⟩) (cPreV hP hK hI hN hX hS (va_recv hK hP (ci := 1) (q0 := 3) rfl rfl)) rfl rfl hl.1 rfl (lv_room (Nat.le_of_ble_eq_true rfl)) dX8_failure_6 ⟨(by decide +kernel), (by decide +kernel)⟩) hS ?_
  clear hP hS; intro r_1 S_1 F_1 γ_1 ψ_1 H locs hw hP hS
  obtain ⟨rfl, rfl, -⟩ := hw
  exact W.iret (v := r_1) hx hb hr (fun t ht hW => ⟨⟨r_1, (σ, φ, γ_1, ψ_1), rfl, ⟨rfl, rfl, trivial⟩, (by show va_P _ _ _ _; rw [ht]; exact hP)⟩, hS.F ht⟩) hS.2.2 dX8_failure_9
set_option maxHeartbeats 4000000 in
set_option maxRecDepth 100000 in
theorem c_X8_depth (l : Launch) (dC : Nat → ClassId) (dI : Nat → Nat → Nat) (a : Nat → Nat) (κ : Nat → ClassId) (σ : Nat → Int32) (φ : Nat → Nat → Int32) (γ : Nat → Int32) (ψ : Nat → Nat → Int32) (g1 g2 : Nat) (i : Int32) : Met l yX8_depth wsX8_depth ({ frames := 2, cells := 0, slots := 0, locals := 44 } : Room) (va_Pc [.ref (a 0), .int i] (cPre dC dI a κ (σ, φ, γ, ψ) g1 g2)) (va_Qi (QI (fun r S F => σ = S ∧ φ = F ∧ True)) (cB dC dI a κ) (cA a)) 0 0 (cA a) := by
  refine Met.ofW (cc := cX8_depth) (maxL := 2) (ret := (some .int)) (by decide) rfl ?_
  intro p e s m args below meth c s₁ B hml hv
  obtain ⟨rfl, hP, hK, hI, hN, hX⟩ := hv
  have hx := B.exec
  have hb := B.bytes
  have hr := B.returns
  have hts := atoms_spec (ws := wsX8_depth) B.pre
  have hown : s.vm.findClass RX8 = some m.cls := findClass_of_methodNamed B.named
  have hlocks := B.notSynchronized
  have hS : va_S (cA a) s.heap s.heap [] := va_S.rf
  have hinX8 : ∀ w ∈ wsX80, w ∈ wsX8_depth := fun _ h => List.mem_cons_of_mem _ (List.mem_append_left _ (List.mem_append_right _ h))
  have hinX1 : ∀ w ∈ wsX10, w ∈ wsX8_depth := fun _ h => List.mem_cons_of_mem _ (List.mem_append_right _ h)
  have hl := lv_entry ([.ref (a 0), .int i]) (n := 2) (Nat.le_of_ble_eq_true rfl)
  rw [lg_entry_eq]
  generalize (lg_sl ([.ref (a 0), .int i]) ++ List.replicate (2 - (lg_sl ([.ref (a 0), .int i])).length) Slot.unset).toArray = ls at hl ⊢
  have hl : lv_has ls 2 [(0, .ref (a 0)), (1, .int i)] := hl
  refine lv_aload_n hx hb dX8_depth_0 rfl (lv_at hl 0 rfl) ?_
  refine cg_0_2 hx hb hts hinX8 hown hK hP (hts (.fieldLink RX8 26 "CensusDesk" "log" "LCensusDesk$Failures;") (List.mem_of_getElem? (i := 1) rfl)) dX8_depth_1 ?_
  refine lv_iload_n hx hb dX8_depth_4 rfl (lv_at hl 1 rfl) ?_
  refine c_calli (va_runV (As := [.int i]) (rest := []) ⟨hx, hb, hml, hown, hts⟩ (c_X1_causesBelow l dC dI a κ σ φ γ ψ g1 g2 i ) (cwV 1 hts gX8_depth_X1_causesBelow rfl rfl rfl ⟨rfl, hd_X1_causesBelow⟩ ⟨Nat.le_of_ble_eq_true rfl, Nat.le_of_ble_eq_true rfl⟩) (cPreV hP hK hI hN hX hS (va_recv hK hP (ci := 1) (q0 := 3) rfl rfl)) rfl rfl hl.1 rfl (lv_room (Nat.le_of_ble_eq_true rfl)) dX8_depth_5 ⟨(by decide +kernel), (by decide +kernel)⟩) hS ?_
  clear hP hS; intro r_1 S_1 F_1 γ_1 ψ_1 H locs hw hP hS
  obtain ⟨rfl, rfl, -⟩ := hw
  exact W.iret (v := r_1) hx hb hr (fun t ht hW => ⟨⟨r_1, (σ, φ, γ_1, ψ_1), rfl, ⟨rfl, rfl, trivial⟩, (by show va_P _ _ _ _; rw [ht]; exact hP)⟩, hS.F ht⟩) hS.2.2 dX8_depth_8
set_option maxHeartbeats 4000000 in
set_option maxRecDepth 100000 in
theorem c_X8_sheet (l : Launch) (dC : Nat → ClassId) (dI : Nat → Nat → Nat) (a : Nat → Nat) (κ : Nat → ClassId) (σ : Nat → Int32) (φ : Nat → Nat → Int32) (γ : Nat → Int32) (ψ : Nat → Nat → Int32) (g1 g2 : Nat) (what : Int32) : Met l yX8_sheet wsX8_sheet ({ frames := 0, cells := 0, slots := 0, locals := 0 } : Room) (va_Pc [.ref (a 0), .int what] (cPre dC dI a κ (σ, φ, γ, ψ) g1 g2)) (va_Qi (QI (fun r S F => σ = S ∧ φ = F ∧ True)) (cB dC dI a κ) (cA a)) 0 0 (cA a) := by
  refine Met.ofW (cc := cX8_sheet) (maxL := 2) (ret := (some .int)) (by decide) rfl ?_
  intro p e s m args below meth c s₁ B hml hv
  obtain ⟨rfl, hP, hK, hI, hN, hX⟩ := hv
  have hx := B.exec
  have hb := B.bytes
  have hr := B.returns
  have hts := atoms_spec (ws := wsX8_sheet) B.pre
  have hown : s.vm.findClass RX8 = some m.cls := findClass_of_methodNamed B.named
  have hlocks := B.notSynchronized
  have hS : va_S (cA a) s.heap s.heap [] := va_S.rf
  have hinX8 : ∀ w ∈ wsX80, w ∈ wsX8_sheet := fun _ h => List.mem_cons_of_mem _ (List.mem_append_left _ (List.mem_append_right _ h))
  have hinX4 : ∀ w ∈ wsX40, w ∈ wsX8_sheet := fun _ h => List.mem_cons_of_mem _ (List.mem_append_right _ h)
  have hl := lv_entry ([.ref (a 0), .int what]) (n := 2) (Nat.le_of_ble_eq_true rfl)
  rw [lg_entry_eq]
  generalize (lg_sl ([.ref (a 0), .int what]) ++ List.replicate (2 - (lg_sl ([.ref (a 0), .int what])).length) Slot.unset).toArray = ls at hl ⊢
  have hl : lv_has ls 2 [(0, .ref (a 0)), (1, .int what)] := hl
  refine lv_iload_n hx hb dX8_sheet_0 rfl (lv_at hl 1 rfl) ?_
  rcases (show ((Int32.toInt what) < 0 ∨ 4 < (Int32.toInt what)) ∨ (Int32.toInt what) = 0 ∨ (Int32.toInt what) = 1 ∨ (Int32.toInt what) = 2 ∨ (Int32.toInt what) = 3 ∨ (Int32.toInt what) = 4 from by omega) with sw_1 | sw_1 | sw_1 | sw_1 | sw_1 | sw_1
  · refine lv_tableOut (tgt := 76) hx hb dX8_sheet_1 sw_1 (by decide) ?_
    refine lv_iconst (v := (-1)) hx hb dX8_sheet_76 (by decide) ?_
    exact W.iret (v := (-1)) hx hb hr (fun t ht hW => ⟨⟨(-1), (σ, φ, γ, ψ), rfl, ⟨rfl, rfl, trivial⟩, (by show va_P _ _ _ _; rw [ht]; exact hP)⟩, hS.F ht⟩) hS.2.2 dX8_sheet_77
  · refine lv_tableIn (off := 35) (tgt := 36) hx hb dX8_sheet_1 (by omega) (by omega) (by rw [sw_1]; rfl) (by decide) ?_
    refine lv_aload_n hx hb dX8_sheet_36 rfl (lv_at hl 0 rfl) ?_
    refine cg_0_4 hx hb hts hinX8 hown hK hP (hts (.fieldLink RX8 42 "CensusDesk" "reader" "LCensusDesk$Reader;") (List.mem_of_getElem? (i := 1) rfl)) dX8_sheet_37 ?_
    refine cgN_5_8 (v := (γ 1)) hx hb hts hinX4 hown hK hP (va_Nw.use rfl (hN.1 ("CensusDesk", 110, "CensusDesk$Reader", "linesRead", "I") (List.mem_of_getElem? (i := 28) rfl))) rfl dX8_sheet_40 ?_
    exact W.iret (v := (γ 1)) hx hb hr (fun t ht hW => ⟨⟨(γ 1), (σ, φ, γ, ψ), rfl, ⟨rfl, rfl, trivial⟩, (by show va_P _ _ _ _; rw [ht]; exact hP)⟩, hS.F ht⟩) hS.2.2 dX8_sheet_43
  · refine lv_tableIn (off := 43) (tgt := 44) hx hb dX8_sheet_1 (by omega) (by omega) (by rw [sw_1]; rfl) (by decide) ?_
    refine lv_aload_n hx hb dX8_sheet_44 rfl (lv_at hl 0 rfl) ?_
    refine cg_0_4 hx hb hts hinX8 hown hK hP (hts (.fieldLink RX8 42 "CensusDesk" "reader" "LCensusDesk$Reader;") (List.mem_of_getElem? (i := 1) rfl)) dX8_sheet_45 ?_
    refine cgN_5_9 (v := (σ 16)) hx hb hts hinX4 hown hK hP (va_Nw.use rfl (hN.1 ("CensusDesk", 90, "CensusDesk$Reader", "taken", "I") (List.mem_of_getElem? (i := 29) rfl))) rfl dX8_sheet_48 ?_
    exact W.iret (v := (σ 16)) hx hb hr (fun t ht hW => ⟨⟨(σ 16), (σ, φ, γ, ψ), rfl, ⟨rfl, rfl, trivial⟩, (by show va_P _ _ _ _; rw [ht]; exact hP)⟩, hS.F ht⟩) hS.2.2 dX8_sheet_51
  · refine lv_tableIn (off := 51) (tgt := 52) hx hb dX8_sheet_1 (by omega) (by omega) (by rw [sw_1]; rfl) (by decide) ?_
    refine lv_aload_n hx hb dX8_sheet_52 rfl (lv_at hl 0 rfl) ?_
    refine cg_0_4 hx hb hts hinX8 hown hK hP (hts (.fieldLink RX8 42 "CensusDesk" "reader" "LCensusDesk$Reader;") (List.mem_of_getElem? (i := 1) rfl)) dX8_sheet_53 ?_
    refine cgN_5_10 (v := (γ 2)) hx hb hts hinX4 hown hK hP (va_Nw.use rfl (hN.1 ("CensusDesk", 113, "CensusDesk$Reader", "lost", "I") (List.mem_of_getElem? (i := 30) rfl))) rfl dX8_sheet_56 ?_
    exact W.iret (v := (γ 2)) hx hb hr (fun t ht hW => ⟨⟨(γ 2), (σ, φ, γ, ψ), rfl, ⟨rfl, rfl, trivial⟩, (by show va_P _ _ _ _; rw [ht]; exact hP)⟩, hS.F ht⟩) hS.2.2 dX8_sheet_59
  · refine lv_tableIn (off := 59) (tgt := 60) hx hb dX8_sheet_1 (by omega) (by omega) (by rw [sw_1]; rfl) (by decide) ?_
    refine lv_aload_n hx hb dX8_sheet_60 rfl (lv_at hl 0 rfl) ?_
    refine cg_0_4 hx hb hts hinX8 hown hK hP (hts (.fieldLink RX8 42 "CensusDesk" "reader" "LCensusDesk$Reader;") (List.mem_of_getElem? (i := 1) rfl)) dX8_sheet_61 ?_
    refine cgN_5_11 (v := (σ 17)) hx hb hts hinX4 hown hK hP (va_Nw.use rfl (hN.1 ("CensusDesk", 116, "CensusDesk$Reader", "personsTaken", "I") (List.mem_of_getElem? (i := 31) rfl))) rfl dX8_sheet_64 ?_
    exact W.iret (v := (σ 17)) hx hb hr (fun t ht hW => ⟨⟨(σ 17), (σ, φ, γ, ψ), rfl, ⟨rfl, rfl, trivial⟩, (by show va_P _ _ _ _; rw [ht]; exact hP)⟩, hS.F ht⟩) hS.2.2 dX8_sheet_67
  · refine lv_tableIn (off := 67) (tgt := 68) hx hb dX8_sheet_1 (by omega) (by omega) (by rw [sw_1]; rfl) (by decide) ?_
    refine lv_aload_n hx hb dX8_sheet_68 rfl (lv_at hl 0 rfl) ?_
    refine cg_0_4 hx hb hts hinX8 hown hK hP (hts (.fieldLink RX8 42 "CensusDesk" "reader" "LCensusDesk$Reader;") (List.mem_of_getElem? (i := 1) rfl)) dX8_sheet_69 ?_
    refine cgN_5_12 (v := (σ 18)) hx hb hts hinX4 hown hK hP (va_Nw.use rfl (hN.1 ("CensusDesk", 119, "CensusDesk$Reader", "position", "I") (List.mem_of_getElem? (i := 32) rfl))) rfl dX8_sheet_72 ?_
    exact W.iret (v := (σ 18)) hx hb hr (fun t ht hW => ⟨⟨(σ 18), (σ, φ, γ, ψ), rfl, ⟨rfl, rfl, trivial⟩, (by show va_P _ _ _ _; rw [ht]; exact hP)⟩, hS.F ht⟩) hS.2.2 dX8_sheet_75
set_option maxHeartbeats 4000000 in
set_option maxRecDepth 100000 in
theorem c_X8_sum (l : Launch) (dC : Nat → ClassId) (dI : Nat → Nat → Nat) (a : Nat → Nat) (κ : Nat → ClassId) (σ : Nat → Int32) (φ : Nat → Nat → Int32) (γ : Nat → Int32) (ψ : Nat → Nat → Int32) (g1 g2 : Nat) (what : Int32) : Met l yX8_sum wsX8_sum ({ frames := 0, cells := 0, slots := 0, locals := 0 } : Room) (va_Pc [.ref (a 0), .int what] (cPre dC dI a κ (σ, φ, γ, ψ) g1 g2)) (va_Qi (QI (fun r S F => σ = S ∧ φ = F ∧ True)) (cB dC dI a κ) (cA a)) 0 0 (cA a) := by
  refine Met.ofW (cc := cX8_sum) (maxL := 2) (ret := (some .int)) (by decide) rfl ?_
  intro p e s m args below meth c s₁ B hml hv
  obtain ⟨rfl, hP, hK, hI, hN, hX⟩ := hv
  have hx := B.exec
  have hb := B.bytes
  have hr := B.returns
  have hts := atoms_spec (ws := wsX8_sum) B.pre
  have hown : s.vm.findClass RX8 = some m.cls := findClass_of_methodNamed B.named
  have hlocks := B.notSynchronized
  have hS : va_S (cA a) s.heap s.heap [] := va_S.rf
  have hinX8 : ∀ w ∈ wsX80, w ∈ wsX8_sum := fun _ h => List.mem_cons_of_mem _ (List.mem_append_left _ (List.mem_append_right _ h))
  have hinX0 : ∀ w ∈ wsX00, w ∈ wsX8_sum := fun _ h => List.mem_cons_of_mem _ (List.mem_append_right _ h)
  have hl := lv_entry ([.ref (a 0), .int what]) (n := 2) (Nat.le_of_ble_eq_true rfl)
  rw [lg_entry_eq]
  generalize (lg_sl ([.ref (a 0), .int what]) ++ List.replicate (2 - (lg_sl ([.ref (a 0), .int what])).length) Slot.unset).toArray = ls at hl ⊢
  have hl : lv_has ls 2 [(0, .ref (a 0)), (1, .int what)] := hl
  refine lv_iload_n hx hb dX8_sum_0 rfl (lv_at hl 1 rfl) ?_
  rcases (show ((Int32.toInt what) < 0 ∨ 8 < (Int32.toInt what)) ∨ (Int32.toInt what) = 0 ∨ (Int32.toInt what) = 1 ∨ (Int32.toInt what) = 2 ∨ (Int32.toInt what) = 3 ∨ (Int32.toInt what) = 4 ∨ (Int32.toInt what) = 5 ∨ (Int32.toInt what) = 6 ∨ (Int32.toInt what) = 7 ∨ (Int32.toInt what) = 8 from by omega) with sw_1 | sw_1 | sw_1 | sw_1 | sw_1 | sw_1 | sw_1 | sw_1 | sw_1 | sw_1
  · refine lv_tableOut (tgt := 115) hx hb dX8_sum_1 sw_1 (by decide) ?_
    refine lv_iconst (v := (-1)) hx hb dX8_sum_115 (by decide) ?_
    exact W.iret (v := (-1)) hx hb hr (fun t ht hW => ⟨⟨(-1), (σ, φ, γ, ψ), rfl, ⟨rfl, rfl, trivial⟩, (by show va_P _ _ _ _; rw [ht]; exact hP)⟩, hS.F ht⟩) hS.2.2 dX8_sum_116
  · refine lv_tableIn (off := 51) (tgt := 52) hx hb dX8_sum_1 (by omega) (by omega) (by rw [sw_1]; rfl) (by decide) ?_
    refine lv_aload_n hx hb dX8_sum_52 rfl (lv_at hl 0 rfl) ?_
    refine cg_0_3 hx hb hts hinX8 hown hK hP (hts (.fieldLink RX8 33 "CensusDesk" "book" "LCensusDesk$Book;") (List.mem_of_getElem? (i := 1) rfl)) dX8_sum_53 ?_
    refine cgN_4_4 (v := (σ 11)) hx hb hts hinX0 hown hK hP (va_Nw.use rfl (hN.1 ("CensusDesk", 122, "CensusDesk$Book", "households", "I") (List.mem_of_getElem? (i := 4) rfl))) rfl dX8_sum_56 ?_
    exact W.iret (v := (σ 11)) hx hb hr (fun t ht hW => ⟨⟨(σ 11), (σ, φ, γ, ψ), rfl, ⟨rfl, rfl, trivial⟩, (by show va_P _ _ _ _; rw [ht]; exact hP)⟩, hS.F ht⟩) hS.2.2 dX8_sum_59
  · refine lv_tableIn (off := 59) (tgt := 60) hx hb dX8_sum_1 (by omega) (by omega) (by rw [sw_1]; rfl) (by decide) ?_
    refine lv_aload_n hx hb dX8_sum_60 rfl (lv_at hl 0 rfl) ?_
    refine cg_0_3 hx hb hts hinX8 hown hK hP (hts (.fieldLink RX8 33 "CensusDesk" "book" "LCensusDesk$Book;") (List.mem_of_getElem? (i := 1) rfl)) dX8_sum_61 ?_
    refine cgN_4_5 (v := (σ 12)) hx hb hts hinX0 hown hK hP (va_Nw.use rfl (hN.1 ("CensusDesk", 125, "CensusDesk$Book", "persons", "I") (List.mem_of_getElem? (i := 5) rfl))) rfl dX8_sum_64 ?_
    exact W.iret (v := (σ 12)) hx hb hr (fun t ht hW => ⟨⟨(σ 12), (σ, φ, γ, ψ), rfl, ⟨rfl, rfl, trivial⟩, (by show va_P _ _ _ _; rw [ht]; exact hP)⟩, hS.F ht⟩) hS.2.2 dX8_sum_67
  · refine lv_tableIn (off := 67) (tgt := 68) hx hb dX8_sum_1 (by omega) (by omega) (by rw [sw_1]; rfl) (by decide) ?_
    refine lv_aload_n hx hb dX8_sum_68 rfl (lv_at hl 0 rfl) ?_
    refine cg_0_3 hx hb hts hinX8 hown hK hP (hts (.fieldLink RX8 33 "CensusDesk" "book" "LCensusDesk$Book;") (List.mem_of_getElem? (i := 1) rfl)) dX8_sum_69 ?_
    refine cgN_4_6 (v := (σ 13)) hx hb hts hinX0 hown hK hP (va_Nw.use rfl (hN.1 ("CensusDesk", 128, "CensusDesk$Book", "men", "I") (List.mem_of_getElem? (i := 6) rfl))) rfl dX8_sum_72 ?_
    exact W.iret (v := (σ 13)) hx hb hr (fun t ht hW => ⟨⟨(σ 13), (σ, φ, γ, ψ), rfl, ⟨rfl, rfl, trivial⟩, (by show va_P _ _ _ _; rw [ht]; exact hP)⟩, hS.F ht⟩) hS.2.2 dX8_sum_75
  · refine lv_tableIn (off := 75) (tgt := 76) hx hb dX8_sum_1 (by omega) (by omega) (by rw [sw_1]; rfl) (by decide) ?_
    refine lv_aload_n hx hb dX8_sum_76 rfl (lv_at hl 0 rfl) ?_
    refine cg_0_3 hx hb hts hinX8 hown hK hP (hts (.fieldLink RX8 33 "CensusDesk" "book" "LCensusDesk$Book;") (List.mem_of_getElem? (i := 1) rfl)) dX8_sum_77 ?_
    refine cgN_4_7 (v := (σ 14)) hx hb hts hinX0 hown hK hP (va_Nw.use rfl (hN.1 ("CensusDesk", 131, "CensusDesk$Book", "women", "I") (List.mem_of_getElem? (i := 7) rfl))) rfl dX8_sum_80 ?_
    exact W.iret (v := (σ 14)) hx hb hr (fun t ht hW => ⟨⟨(σ 14), (σ, φ, γ, ψ), rfl, ⟨rfl, rfl, trivial⟩, (by show va_P _ _ _ _; rw [ht]; exact hP)⟩, hS.F ht⟩) hS.2.2 dX8_sum_83
  · refine lv_tableIn (off := 83) (tgt := 84) hx hb dX8_sum_1 (by omega) (by omega) (by rw [sw_1]; rfl) (by decide) ?_
    refine lv_aload_n hx hb dX8_sum_84 rfl (lv_at hl 0 rfl) ?_
    refine cg_0_3 hx hb hts hinX8 hown hK hP (hts (.fieldLink RX8 33 "CensusDesk" "book" "LCensusDesk$Book;") (List.mem_of_getElem? (i := 1) rfl)) dX8_sum_85 ?_
    refine cgN_4_8 (v := (σ 15)) hx hb hts hinX0 hown hK hP (va_Nw.use rfl (hN.1 ("CensusDesk", 134, "CensusDesk$Book", "ageSum", "I") (List.mem_of_getElem? (i := 8) rfl))) rfl dX8_sum_88 ?_
    exact W.iret (v := (σ 15)) hx hb hr (fun t ht hW => ⟨⟨(σ 15), (σ, φ, γ, ψ), rfl, ⟨rfl, rfl, trivial⟩, (by show va_P _ _ _ _; rw [ht]; exact hP)⟩, hS.F ht⟩) hS.2.2 dX8_sum_91
  · refine lv_tableIn (off := 91) (tgt := 92) hx hb dX8_sum_1 (by omega) (by omega) (by rw [sw_1]; rfl) (by decide) ?_
    refine lv_aload_n hx hb dX8_sum_92 rfl (lv_at hl 0 rfl) ?_
    refine cg_0_3 hx hb hts hinX8 hown hK hP (hts (.fieldLink RX8 33 "CensusDesk" "book" "LCensusDesk$Book;") (List.mem_of_getElem? (i := 1) rfl)) dX8_sum_93 ?_
    refine cgN_4_9 (v := (γ 0)) hx hb hts hinX0 hown hK hP (va_Nw.use rfl (hN.1 ("CensusDesk", 137, "CensusDesk$Book", "agesMissing", "I") (List.mem_of_getElem? (i := 9) rfl))) rfl dX8_sum_96 ?_
    exact W.iret (v := (γ 0)) hx hb hr (fun t ht hW => ⟨⟨(γ 0), (σ, φ, γ, ψ), rfl, ⟨rfl, rfl, trivial⟩, (by show va_P _ _ _ _; rw [ht]; exact hP)⟩, hS.F ht⟩) hS.2.2 dX8_sum_99
  · refine lv_tableIn (off := 99) (tgt := 100) hx hb dX8_sum_1 (by omega) (by omega) (by rw [sw_1]; rfl) (by decide) ?_
    refine lv_aload_n hx hb dX8_sum_100 rfl (lv_at hl 0 rfl) ?_
    refine cg_0_7 (v := (σ 21)) hx hb hts hinX8 hown hK hP (hts (.fieldLink RX8 140 "CensusDesk" "booked" "I") (List.mem_of_getElem? (i := 2) rfl)) rfl dX8_sum_101 ?_
    exact W.iret (v := (σ 21)) hx hb hr (fun t ht hW => ⟨⟨(σ 21), (σ, φ, γ, ψ), rfl, ⟨rfl, rfl, trivial⟩, (by show va_P _ _ _ _; rw [ht]; exact hP)⟩, hS.F ht⟩) hS.2.2 dX8_sum_104
  · refine lv_tableIn (off := 104) (tgt := 105) hx hb dX8_sum_1 (by omega) (by omega) (by rw [sw_1]; rfl) (by decide) ?_
    refine lv_aload_n hx hb dX8_sum_105 rfl (lv_at hl 0 rfl) ?_
    refine cg_0_8 (v := (σ 22)) hx hb hts hinX8 hown hK hP (hts (.fieldLink RX8 87 "CensusDesk" "refused" "I") (List.mem_of_getElem? (i := 3) rfl)) rfl dX8_sum_106 ?_
    exact W.iret (v := (σ 22)) hx hb hr (fun t ht hW => ⟨⟨(σ 22), (σ, φ, γ, ψ), rfl, ⟨rfl, rfl, trivial⟩, (by show va_P _ _ _ _; rw [ht]; exact hP)⟩, hS.F ht⟩) hS.2.2 dX8_sum_109
  · refine lv_tableIn (off := 109) (tgt := 110) hx hb dX8_sum_1 (by omega) (by omega) (by rw [sw_1]; rfl) (by decide) ?_
    refine lv_aload_n hx hb dX8_sum_110 rfl (lv_at hl 0 rfl) ?_
    refine cg_0_9 (v := (σ 23)) hx hb hts hinX8 hown hK hP (hts (.fieldLink RX8 143 "CensusDesk" "withoutRoom" "I") (List.mem_of_getElem? (i := 4) rfl)) rfl dX8_sum_111 ?_
    exact W.iret (v := (σ 23)) hx hb hr (fun t ht hW => ⟨⟨(σ 23), (σ, φ, γ, ψ), rfl, ⟨rfl, rfl, trivial⟩, (by show va_P _ _ _ _; rw [ht]; exact hP)⟩, hS.F ht⟩) hS.2.2 dX8_sum_114
