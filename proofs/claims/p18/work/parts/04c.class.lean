set_option maxHeartbeats 4000000 in
set_option maxRecDepth 100000 in
theorem c_X3_find (l : Launch) (dC : Nat → ClassId) (dI : Nat → Nat → Nat) (a : Nat → Nat) (κ : Nat → ClassId) (σ : Nat → Int32) (φ : Nat → Nat → Int32) (γ : Nat → Int32) (ψ : Nat → Nat → Int32) (g1 g2 : Nat) (frm : Int32) (p_line_cellStart : PtR 0 4000 (φ 1)) (p_line_cellEnd : PtR 0 4000 (φ 2)) (hlen : 0 ≤ (Int32.toInt (σ 0)) ∧ (Int32.toInt (σ 0)) ≤ 4000) (hf : 0 ≤ (Int32.toInt frm) ∧ (Int32.toInt frm) < (Int32.toInt (σ 0))) : Met l yX3_find wsX3_find ({ frames := 2, cells := 0, slots := 0, locals := 43 } : Room) (va_Pc [.ref (a 6), .ref (a 1), .int frm] (cPre dC dI a κ (σ, φ, γ, ψ) g1 g2)) (va_Qv (QV (fun S F => ∃ (s2 : Int32) (s3 : Int32) (s4 : Int32) (s5 : Int32) (s6 : Int32) (f1 : Nat → Int32) (f2 : Nat → Int32), (up (up (up (up (up σ 2 s2) 3 s3) 4 s4) 5 s5) 6 s6) = S ∧ (up (up φ 1 f1) 2 f2) = F ∧ PtR 0 4000 f1 ∧ PtR 0 4000 f2 ∧ ((Int32.toInt s2) = (Int32.toInt frm) ∧ (Int32.toInt frm) ≤ (Int32.toInt s3) ∧ (Int32.toInt s3) ≤ (Int32.toInt (σ 0)) ∧ (Int32.toInt frm) + 1 ≤ (Int32.toInt s4) ∧ (Int32.toInt s4) ≤ (Int32.toInt (σ 0))) ∧ (s6 = tat (σ 0) (φ 0) frm))) (cB dC dI a κ) (cA a)) 0 0 (cA a) := by
  refine Met.ofW (cc := cX3_find) (maxL := 5) (ret := none) (by decide) rfl ?_
  intro p e s m args below meth c s₁ B hml hv
  obtain ⟨rfl, hP, hK, hI, hN, hX⟩ := hv
  have hx := B.exec
  have hb := B.bytes
  have hr := B.returns
  have hts := atoms_spec (ws := wsX3_find) B.pre
  have hown : s.vm.findClass RX3 = some m.cls := findClass_of_methodNamed B.named
  have hlocks := B.notSynchronized
  have hS : va_S (cA a) s.heap s.heap [] := va_S.rf
  have hinX3 : ∀ w ∈ wsX30, w ∈ wsX3_find := fun _ h => List.mem_cons_of_mem _ (List.mem_append_left _ (List.mem_append_right _ h))
  have hinX7 : ∀ w ∈ wsX70, w ∈ wsX3_find := fun _ h => List.mem_cons_of_mem _ (List.mem_append_right _ h)
  have hl := lv_entry ([.ref (a 6), .ref (a 1), .int frm]) (n := 5) (Nat.le_of_ble_eq_true rfl)
  rw [lg_entry_eq]
  generalize (lg_sl ([.ref (a 6), .ref (a 1), .int frm]) ++ List.replicate (5 - (lg_sl ([.ref (a 6), .ref (a 1), .int frm])).length) Slot.unset).toArray = ls at hl ⊢
  have hl : lv_has ls 5 [(0, .ref (a 6)), (1, .ref (a 1)), (2, .int frm)] := hl
  refine k_gen (fun QQ eQ => ?_)
  have J123 : ∀ (n123 : Nat), ∀ (k : Int32) (s2_c123 : Int32) (s3_c123 : Int32) (s4_c123 : Int32) (s5_c123 : Int32) (s6_c123 : Int32) (f1_c123 : Nat → Int32) (f2_c123 : Nat → Int32) (γ : Nat → Int32) (ψ : Nat → Nat → Int32) (H : Heap) (locs : List Loc) (ls : Array Slot), (PtR 0 4000 f1_c123) → (PtR 0 4000 f2_c123) → ((Int32.toInt s2_c123) = (Int32.toInt frm) ∧ (Int32.toInt frm) ≤ (Int32.toInt s3_c123) ∧ (Int32.toInt s3_c123) ≤ (Int32.toInt (σ 0)) ∧ (Int32.toInt frm) + 1 ≤ (Int32.toInt s4_c123) ∧ (Int32.toInt s4_c123) ≤ (Int32.toInt (σ 0))) → (s6_c123 = tat (σ 0) (φ 0) frm) → (0 ≤ (Int32.toInt k)) → ((5 - (Int32.toInt k)).toNat < n123) → va_P (dC, dI) vwCl (cw a κ ((up (up (up (up (up σ 2 s2_c123) 3 s3_c123) 4 s4_c123) 5 s5_c123) 6 s6_c123), (up (up φ 1 f1_c123) 2 f2_c123), γ, ψ)) H → va_S (cA a) s.heap H locs → lv_has ls 5 [(0, .ref (a 6)), (4, .int k)] → W p l e ({ frames := 2, cells := 0, slots := 0, locals := 43 } : Room) s m ([.ref (a 6), .ref (a 1), .int frm] : List Value).toArray below meth c H locs 0 0 QQ (F0 m 123 ls []) := by
    intro n123
    induction n123 with
    | zero =>
      intro k s2_c123 s3_c123 s4_c123 s5_c123 s6_c123 f1_c123 f2_c123 γ ψ H locs ls pf1_c123 pf2_c123 vl vs vc hm
      exact absurd hm (Nat.not_lt_zero _)
    | succ n123 ih123 =>
      intro k s2_c123 s3_c123 s4_c123 s5_c123 s6_c123 f1_c123 f2_c123 γ ψ H locs ls pf1_c123 pf2_c123 vl vs vc hm hP hS hl
      refine lv_iload hx hb dX3_find_123 (lv_at hl 1 rfl) ?_
      refine lv_iconst (v := 5) hx hb dX3_find_125 (by decide) ?_
      refine lv_icmp_ge (tgt := 157) hx hb dX3_find_126 (by decide) (fun c_1 => ?_) (fun c_1 => ?_)
      · have kc_1 := bI_le L_5 rfl c_1
        subst eQ
        exact W.vret hx hb hr (fun t ht hW => ⟨⟨((up (up (up (up (up σ 2 s2_c123) 3 s3_c123) 4 s4_c123) 5 s5_c123) 6 s6_c123), (up (up φ 1 f1_c123) 2 f2_c123), γ, ψ), rfl, ⟨s2_c123, s3_c123, s4_c123, s5_c123, s6_c123, f1_c123, f2_c123, rfl, rfl, pf1_c123, pf2_c123, (show (Int32.toInt s2_c123) = (Int32.toInt frm) ∧ (Int32.toInt frm) ≤ (Int32.toInt s3_c123) ∧ (Int32.toInt s3_c123) ≤ (Int32.toInt (σ 0)) ∧ (Int32.toInt frm) + 1 ≤ (Int32.toInt s4_c123) ∧ (Int32.toInt s4_c123) ≤ (Int32.toInt (σ 0)) from (by omega)), (show s6_c123 = tat (σ 0) (φ 0) frm from (by with_reducible assumption))⟩, (by show va_P _ _ _ _; rw [ht]; exact hP)⟩, hS.F ht⟩) hS.2.2 dX3_find_157
      · have kc_1 := bI_nle L_5 rfl c_1
        refine lv_aload_n hx hb dX3_find_129 rfl (lv_at hl 0 rfl) ?_
        refine cg_6_0 hx hb hts hinX3 hown hK hP (hts (.fieldLink RX3 11 "CensusDesk$Line" "cellStart" "[I") (List.mem_of_getElem? (i := 6) rfl)) dX3_find_130 ?_
        refine lv_iload hx hb dX3_find_133 (lv_at hl 1 rfl) ?_
        refine lv_aload_n hx hb dX3_find_135 rfl (lv_at hl 0 rfl) ?_
        refine cg_6_3 (v := s3_c123) hx hb hts hinX3 hown hK hP (hts (.fieldLink RX3 28 "CensusDesk$Line" "end" "I") (List.mem_of_getElem? (i := 2) rfl)) rfl dX3_find_136 ?_
        refine cs_36 (f := f1_c123) hx hb hK hP hI hS (i := k) (x := s3_c123) (vin rfl (by omega)) rfl dX3_find_139 ?_
        clear hP hS; intro H locs hP hS
        obtain ⟨f_2, ef_2⟩ : ∃ z : Nat → Int32, z = upd f1_c123 (Int32.toNatClampNeg k) s3_c123 := ⟨_, rfl⟩
        rw [← ef_2] at hP
        have pf_2 : PtR 0 4000 f_2 := pf1_c123.set ef_2 (by omega) (by omega)
        refine lv_aload_n hx hb dX3_find_140 rfl (lv_at hl 0 rfl) ?_
        refine cg_6_1 hx hb hts hinX3 hown hK hP (hts (.fieldLink RX3 15 "CensusDesk$Line" "cellEnd" "[I") (List.mem_of_getElem? (i := 7) rfl)) dX3_find_141 ?_
        refine lv_iload hx hb dX3_find_144 (lv_at hl 1 rfl) ?_
        refine lv_aload_n hx hb dX3_find_146 rfl (lv_at hl 0 rfl) ?_
        refine cg_6_3 (v := s3_c123) hx hb hts hinX3 hown hK hP (hts (.fieldLink RX3 28 "CensusDesk$Line" "end" "I") (List.mem_of_getElem? (i := 2) rfl)) rfl dX3_find_147 ?_
        refine cs_37 (f := f2_c123) hx hb hK hP hI hS (i := k) (x := s3_c123) (vin rfl (by omega)) rfl dX3_find_150 ?_
        clear hP hS; intro H locs hP hS
        obtain ⟨f_3, ef_3⟩ : ∃ z : Nat → Int32, z = upd f2_c123 (Int32.toNatClampNeg k) s3_c123 := ⟨_, rfl⟩
        rw [← ef_3] at hP
        have pf_3 : PtR 0 4000 f_3 := pf2_c123.set ef_3 (by omega) (by omega)
        obtain ⟨i_4, ei_4⟩ : ∃ z : Int32, z = k + 1 := ⟨_, rfl⟩
        refine lv_iinc (v := i_4) (lv' := [(4, .int i_4), (0, .ref (a 6))]) hx hb dX3_find_151 hl (k := 1) rfl (by rw [ei_4]; rfl) (by decide) rfl ?_
        clear hl; intro ls hl
        have ti_4 : (Int32.toInt i_4) = (Int32.toInt k) + 1 := aI_add rfl L_1 ei_4 (by have := rng k; omega)
        refine lv_goto (tgt := 123) hx hb dX3_find_154 (by decide) ?_
        exact ih123 i_4 s2_c123 s3_c123 s4_c123 s5_c123 s6_c123 f_2 f_3 γ ψ _ _ _ pf_2 pf_3 (show (Int32.toInt s2_c123) = (Int32.toInt frm) ∧ (Int32.toInt frm) ≤ (Int32.toInt s3_c123) ∧ (Int32.toInt s3_c123) ≤ (Int32.toInt (σ 0)) ∧ (Int32.toInt frm) + 1 ≤ (Int32.toInt s4_c123) ∧ (Int32.toInt s4_c123) ≤ (Int32.toInt (σ 0)) from (by omega)) (show s6_c123 = tat (σ 0) (φ 0) frm from (by with_reducible assumption)) (show 0 ≤ (Int32.toInt i_4) from (by omega)) (by omega) hP hS (lv_sub hl [1, 0] rfl)
  have J70 : ∀ (n70 : Nat), ∀ (cell : Int32) (q : Int32) (s2_c70 : Int32) (s3_c70 : Int32) (s4_c70 : Int32) (s5_c70 : Int32) (s6_c70 : Int32) (f1_c70 : Nat → Int32) (f2_c70 : Nat → Int32) (γ : Nat → Int32) (ψ : Nat → Nat → Int32) (H : Heap) (locs : List Loc) (ls : Array Slot), (PtR 0 4000 f1_c70) → (PtR 0 4000 f2_c70) → ((Int32.toInt s2_c70) = (Int32.toInt frm) ∧ (Int32.toInt frm) ≤ (Int32.toInt s3_c70) ∧ (Int32.toInt s3_c70) ≤ (Int32.toInt (σ 0)) ∧ (Int32.toInt frm) + 1 ≤ (Int32.toInt s4_c70) ∧ (Int32.toInt s4_c70) ≤ (Int32.toInt (σ 0))) → (s6_c70 = tat (σ 0) (φ 0) frm) → (0 ≤ (Int32.toInt cell) ∧ (Int32.toInt cell) ≤ (Int32.toInt q) ∧ (Int32.toInt frm) ≤ (Int32.toInt q) ∧ (Int32.toInt q) ≤ (Int32.toInt s3_c70) + 1 ∧ 0 ≤ (Int32.toInt s5_c70) ∧ (Int32.toInt s5_c70) ≤ (Int32.toInt q)) → (((Int32.toInt s3_c70) + 1 - (Int32.toInt q)).toNat < n70) → va_P (dC, dI) vwCl (cw a κ ((up (up (up (up (up σ 2 s2_c70) 3 s3_c70) 4 s4_c70) 5 s5_c70) 6 s6_c70), (up (up φ 1 f1_c70) 2 f2_c70), γ, ψ)) H → va_S (cA a) s.heap H locs → lv_has ls 5 [(0, .ref (a 6)), (1, .ref (a 1)), (3, .int cell), (4, .int q)] → W p l e ({ frames := 2, cells := 0, slots := 0, locals := 43 } : Room) s m ([.ref (a 6), .ref (a 1), .int frm] : List Value).toArray below meth c H locs 0 0 QQ (F0 m 70 ls []) := by
    intro n70
    induction n70 with
    | zero =>
      intro cell q s2_c70 s3_c70 s4_c70 s5_c70 s6_c70 f1_c70 f2_c70 γ ψ H locs ls pf1_c70 pf2_c70 vl vs vc hm
      exact absurd hm (Nat.not_lt_zero _)
    | succ n70 ih70 =>
      intro cell q s2_c70 s3_c70 s4_c70 s5_c70 s6_c70 f1_c70 f2_c70 γ ψ H locs ls pf1_c70 pf2_c70 vl vs vc hm hP hS hl
      refine lv_iload hx hb dX3_find_70 (lv_at hl 3 rfl) ?_
      refine lv_aload_n hx hb dX3_find_72 rfl (lv_at hl 0 rfl) ?_
      refine cg_6_3 (v := s3_c70) hx hb hts hinX3 hown hK hP (hts (.fieldLink RX3 28 "CensusDesk$Line" "end" "I") (List.mem_of_getElem? (i := 2) rfl)) rfl dX3_find_73 ?_
      refine lv_icmp_gt (tgt := 117) hx hb dX3_find_76 (by decide) (fun c_5 => ?_) (fun c_5 => ?_)
      · have kc_5 := bI_lt rfl rfl c_5
        refine lv_aload_n hx hb dX3_find_117 rfl (lv_at hl 0 rfl) ?_
        refine cg_6_5 (v := s5_c70) hx hb hts hinX3 hown hK hP (hts (.fieldLink RX3 43 "CensusDesk$Line" "cells" "I") (List.mem_of_getElem? (i := 5) rfl)) rfl dX3_find_118 ?_
        refine lv_istore (lv' := [(4, .int s5_c70), (0, .ref (a 6)), (1, .ref (a 1)), (3, .int cell)]) hx hb dX3_find_121 hl (by decide) rfl ?_
        clear hl; intro ls hl
        exact J123 (_ + 1) s5_c70 s2_c70 s3_c70 s4_c70 s5_c70 s6_c70 f1_c70 f2_c70 γ ψ _ _ _ pf1_c70 pf2_c70 (show (Int32.toInt s2_c70) = (Int32.toInt frm) ∧ (Int32.toInt frm) ≤ (Int32.toInt s3_c70) ∧ (Int32.toInt s3_c70) ≤ (Int32.toInt (σ 0)) ∧ (Int32.toInt frm) + 1 ≤ (Int32.toInt s4_c70) ∧ (Int32.toInt s4_c70) ≤ (Int32.toInt (σ 0)) from (by omega)) (show s6_c70 = tat (σ 0) (φ 0) frm from (by with_reducible assumption)) (show 0 ≤ (Int32.toInt s5_c70) from (by omega)) (Nat.lt_succ_self _) hP hS (lv_sub hl [1, 0] rfl)
      · have kc_5 := bI_nlt rfl rfl c_5
        refine lv_iload hx hb dX3_find_79 (lv_at hl 3 rfl) ?_
        refine lv_aload_n hx hb dX3_find_81 rfl (lv_at hl 0 rfl) ?_
        refine cg_6_3 (v := s3_c70) hx hb hts hinX3 hown hK hP (hts (.fieldLink RX3 28 "CensusDesk$Line" "end" "I") (List.mem_of_getElem? (i := 2) rfl)) rfl dX3_find_82 ?_
        refine lv_icmp_eq (tgt := 99) hx hb dX3_find_85 (by decide) (fun c_6 => ?_) (fun c_6 => ?_)
        · have kc_6 := bI_eq rfl rfl c_6
          refine lv_aload_n hx hb dX3_find_99 rfl (lv_at hl 0 rfl) ?_
          refine lv_iload_n hx hb dX3_find_100 rfl (lv_at hl 2 rfl) ?_
          refine lv_iload hx hb dX3_find_101 (lv_at hl 3 rfl) ?_
          refine c_callv (va_runV (As := [.int cell, .int q]) (rest := []) ⟨hx, hb, hml, hown, hts⟩ (c_X3_addCell l dC dI a κ (up (up (up (up (up σ 2 s2_c70) 3 s3_c70) 4 s4_c70) 5 s5_c70) 6 s6_c70) (up (up φ 1 f1_c70) 2 f2_c70) γ ψ g1 g2 cell q pf1_c70 pf2_c70 (show 0 ≤ (Int32.toInt s5_c70) ∧ (Int32.toInt s5_c70) ≤ 1000000 from (by omega)) (show 0 ≤ (Int32.toInt cell) ∧ (Int32.toInt cell) ≤ 4000 ∧ 0 ≤ (Int32.toInt q) ∧ (Int32.toInt q) ≤ 4000 from (by omega))) (cwV 2 hts gX3_find_X3_addCell rfl rfl rfl ⟨rfl, hd_X3_addCell⟩ ⟨Nat.le_of_ble_eq_true rfl, Nat.le_of_ble_eq_true rfl⟩) (cPreV hP hK hI hN hX hS (va_recv hK hP (ci := 3) (q0 := 6) rfl rfl)) rfl rfl hl.1 rfl (lv_room (Nat.le_of_ble_eq_true rfl)) dX3_find_103 ⟨(by decide +kernel), (by decide +kernel)⟩) hS ?_
          clear hP hS; intro S_7 F_7 γ_7 ψ_7 H locs hw hP hS
          obtain ⟨s5_7, f1_7, f2_7, rfl, rfl, pf1_7, pf2_7, (qc_7 : (Int32.toInt s5_7) = (Int32.toInt s5_c70) + 1)⟩ := hw
          refine lv_iload hx hb dX3_find_106 (lv_at hl 3 rfl) ?_
          refine lv_iconst (v := 1) hx hb dX3_find_108 (by decide) ?_
          refine lv_iadd hx hb dX3_find_109 ?_
          refine lv_topi (fun z_8 ez_8 => ?_)
          have tz_8 : (Int32.toInt z_8) = (Int32.toInt q) + 1 := aI_add rfl L_1 ez_8 (by have := rng q; omega)
          refine lv_istore_n (lv' := [(3, .int z_8), (0, .ref (a 6)), (1, .ref (a 1)), (4, .int q)]) hx hb dX3_find_110 rfl hl (by decide) rfl ?_
          clear hl; intro ls hl
          obtain ⟨i_9, ei_9⟩ : ∃ z : Int32, z = q + 1 := ⟨_, rfl⟩
          refine lv_iinc (v := i_9) (lv' := [(4, .int i_9), (3, .int z_8), (0, .ref (a 6)), (1, .ref (a 1))]) hx hb dX3_find_111 hl (k := 3) rfl (by rw [ei_9]; rfl) (by decide) rfl ?_
          clear hl; intro ls hl
          have ti_9 : (Int32.toInt i_9) = (Int32.toInt q) + 1 := aI_add rfl L_1 ei_9 (by have := rng q; have := rng s3_c70; omega)
          refine lv_goto (tgt := 70) hx hb dX3_find_114 (by decide) ?_
          exact ih70 z_8 i_9 s2_c70 s3_c70 s4_c70 s5_7 s6_c70 f1_7 f2_7 γ_7 ψ_7 _ _ _ pf1_7 pf2_7 (show (Int32.toInt s2_c70) = (Int32.toInt frm) ∧ (Int32.toInt frm) ≤ (Int32.toInt s3_c70) ∧ (Int32.toInt s3_c70) ≤ (Int32.toInt (σ 0)) ∧ (Int32.toInt frm) + 1 ≤ (Int32.toInt s4_c70) ∧ (Int32.toInt s4_c70) ≤ (Int32.toInt (σ 0)) from (by omega)) (show s6_c70 = tat (σ 0) (φ 0) frm from (by with_reducible assumption)) (show 0 ≤ (Int32.toInt z_8) ∧ (Int32.toInt z_8) ≤ (Int32.toInt i_9) ∧ (Int32.toInt frm) ≤ (Int32.toInt i_9) ∧ (Int32.toInt i_9) ≤ (Int32.toInt s3_c70) + 1 ∧ 0 ≤ (Int32.toInt s5_7) ∧ (Int32.toInt s5_7) ≤ (Int32.toInt i_9) from (by omega)) (by omega) hP hS (lv_sub hl [2, 3, 1, 0] rfl)
        · have kc_6 := bI_ne rfl rfl c_6
          refine lv_aload_n hx hb dX3_find_88 rfl (lv_at hl 1 rfl) ?_
          refine lv_iload hx hb dX3_find_89 (lv_at hl 3 rfl) ?_
          refine c_calli (va_runV (As := [.int q]) (rest := []) ⟨hx, hb, hml, hown, hts⟩ (c_X7_at l dC dI a κ (up (up (up (up (up σ 2 s2_c70) 3 s3_c70) 4 s4_c70) 5 s5_c70) 6 s6_c70) (up (up φ 1 f1_c70) 2 f2_c70) γ ψ g1 g2 q (show 0 ≤ (Int32.toInt (σ 0)) ∧ (Int32.toInt (σ 0)) ≤ 4000 from (by omega))) (cwV 1 hts gX3_find_X7_at rfl rfl rfl ⟨rfl, hd_X7_at⟩ ⟨Nat.le_of_ble_eq_true rfl, Nat.le_of_ble_eq_true rfl⟩) (cPreV hP hK hI hN hX hS (va_recv hK hP (ci := 7) (q0 := 1) rfl rfl)) rfl rfl hl.1 rfl (lv_room (Nat.le_of_ble_eq_true rfl)) dX3_find_91 ⟨(by decide +kernel), (by decide +kernel)⟩) hS ?_
          clear hP hS; intro r_10 S_10 F_10 γ_10 ψ_10 H locs hw hP hS
          obtain ⟨rfl, rfl, (ra_10 : r_10 = tat (σ 0) (φ 0) q)⟩ := hw
          refine lv_bipush (v := 124) hx hb dX3_find_94 (by decide) ?_
          refine lv_icmp_ne (tgt := 111) hx hb dX3_find_96 (by decide) (fun c_11 => ?_) (fun c_11 => ?_)
          · have kc_11 := bI_ne rfl L_124 c_11
            obtain ⟨i_12, ei_12⟩ : ∃ z : Int32, z = q + 1 := ⟨_, rfl⟩
            refine lv_iinc (v := i_12) (lv' := [(4, .int i_12), (0, .ref (a 6)), (1, .ref (a 1)), (3, .int cell)]) hx hb dX3_find_111 hl (k := 3) rfl (by rw [ei_12]; rfl) (by decide) rfl ?_
            clear hl; intro ls hl
            have ti_12 : (Int32.toInt i_12) = (Int32.toInt q) + 1 := aI_add rfl L_1 ei_12 (by have := rng q; have := rng s3_c70; omega)
            refine lv_goto (tgt := 70) hx hb dX3_find_114 (by decide) ?_
            exact ih70 cell i_12 s2_c70 s3_c70 s4_c70 s5_c70 s6_c70 f1_c70 f2_c70 γ_10 ψ_10 _ _ _ pf1_c70 pf2_c70 (show (Int32.toInt s2_c70) = (Int32.toInt frm) ∧ (Int32.toInt frm) ≤ (Int32.toInt s3_c70) ∧ (Int32.toInt s3_c70) ≤ (Int32.toInt (σ 0)) ∧ (Int32.toInt frm) + 1 ≤ (Int32.toInt s4_c70) ∧ (Int32.toInt s4_c70) ≤ (Int32.toInt (σ 0)) from (by omega)) (show s6_c70 = tat (σ 0) (φ 0) frm from (by with_reducible assumption)) (show 0 ≤ (Int32.toInt cell) ∧ (Int32.toInt cell) ≤ (Int32.toInt i_12) ∧ (Int32.toInt frm) ≤ (Int32.toInt i_12) ∧ (Int32.toInt i_12) ≤ (Int32.toInt s3_c70) + 1 ∧ 0 ≤ (Int32.toInt s5_c70) ∧ (Int32.toInt s5_c70) ≤ (Int32.toInt i_12) from (by omega)) (by omega) hP hS (lv_sub hl [1, 2, 3, 0] rfl)
          · have kc_11 := bI_eq rfl L_124 c_11
            refine lv_aload_n hx hb dX3_find_99 rfl (lv_at hl 0 rfl) ?_
            refine lv_iload_n hx hb dX3_find_100 rfl (lv_at hl 2 rfl) ?_
            refine lv_iload hx hb dX3_find_101 (lv_at hl 3 rfl) ?_
            refine c_callv (va_runV (As := [.int cell, .int q]) (rest := []) ⟨hx, hb, hml, hown, hts⟩ (c_X3_addCell l dC dI a κ (up (up (up (up (up σ 2 s2_c70) 3 s3_c70) 4 s4_c70) 5 s5_c70) 6 s6_c70) (up (up φ 1 f1_c70) 2 f2_c70) γ_10 ψ_10 g1 g2 cell q pf1_c70 pf2_c70 (show 0 ≤ (Int32.toInt s5_c70) ∧ (Int32.toInt s5_c70) ≤ 1000000 from (by omega)) (show 0 ≤ (Int32.toInt cell) ∧ (Int32.toInt cell) ≤ 4000 ∧ 0 ≤ (Int32.toInt q) ∧ (Int32.toInt q) ≤ 4000 from (by omega))) (cwV 2 hts gX3_find_X3_addCell rfl rfl rfl ⟨rfl, hd_X3_addCell⟩ ⟨Nat.le_of_ble_eq_true rfl, Nat.le_of_ble_eq_true rfl⟩) (cPreV hP hK hI hN hX hS (va_recv hK hP (ci := 3) (q0 := 6) rfl rfl)) rfl rfl hl.1 rfl (lv_room (Nat.le_of_ble_eq_true rfl)) dX3_find_103 ⟨(by decide +kernel), (by decide +kernel)⟩) hS ?_
            clear hP hS; intro S_13 F_13 γ_13 ψ_13 H locs hw hP hS
            obtain ⟨s5_13, f1_13, f2_13, rfl, rfl, pf1_13, pf2_13, (qc_13 : (Int32.toInt s5_13) = (Int32.toInt s5_c70) + 1)⟩ := hw
            refine lv_iload hx hb dX3_find_106 (lv_at hl 3 rfl) ?_
            refine lv_iconst (v := 1) hx hb dX3_find_108 (by decide) ?_
            refine lv_iadd hx hb dX3_find_109 ?_
            refine lv_topi (fun z_14 ez_14 => ?_)
            have tz_14 : (Int32.toInt z_14) = (Int32.toInt q) + 1 := aI_add rfl L_1 ez_14 (by have := rng q; omega)
            refine lv_istore_n (lv' := [(3, .int z_14), (0, .ref (a 6)), (1, .ref (a 1)), (4, .int q)]) hx hb dX3_find_110 rfl hl (by decide) rfl ?_
            clear hl; intro ls hl
            obtain ⟨i_15, ei_15⟩ : ∃ z : Int32, z = q + 1 := ⟨_, rfl⟩
            refine lv_iinc (v := i_15) (lv' := [(4, .int i_15), (3, .int z_14), (0, .ref (a 6)), (1, .ref (a 1))]) hx hb dX3_find_111 hl (k := 3) rfl (by rw [ei_15]; rfl) (by decide) rfl ?_
            clear hl; intro ls hl
            have ti_15 : (Int32.toInt i_15) = (Int32.toInt q) + 1 := aI_add rfl L_1 ei_15 (by have := rng q; have := rng s3_c70; omega)
            refine lv_goto (tgt := 70) hx hb dX3_find_114 (by decide) ?_
            exact ih70 z_14 i_15 s2_c70 s3_c70 s4_c70 s5_13 s6_c70 f1_13 f2_13 γ_13 ψ_13 _ _ _ pf1_13 pf2_13 (show (Int32.toInt s2_c70) = (Int32.toInt frm) ∧ (Int32.toInt frm) ≤ (Int32.toInt s3_c70) ∧ (Int32.toInt s3_c70) ≤ (Int32.toInt (σ 0)) ∧ (Int32.toInt frm) + 1 ≤ (Int32.toInt s4_c70) ∧ (Int32.toInt s4_c70) ≤ (Int32.toInt (σ 0)) from (by omega)) (show s6_c70 = tat (σ 0) (φ 0) frm from (by with_reducible assumption)) (show 0 ≤ (Int32.toInt z_14) ∧ (Int32.toInt z_14) ≤ (Int32.toInt i_15) ∧ (Int32.toInt frm) ≤ (Int32.toInt i_15) ∧ (Int32.toInt i_15) ≤ (Int32.toInt s3_c70) + 1 ∧ 0 ≤ (Int32.toInt s5_13) ∧ (Int32.toInt s5_13) ≤ (Int32.toInt i_15) from (by omega)) (by omega) hP hS (lv_sub hl [2, 3, 1, 0] rfl)
  refine lv_aload_n hx hb dX3_find_0 rfl (lv_at hl 0 rfl) ?_
  refine lv_iload_n hx hb dX3_find_1 rfl (lv_at hl 2 rfl) ?_
  refine cp_6_2 (v := frm) hx hb hts hinX3 hown hK hP hI hS (hts (.fieldLink RX3 18 "CensusDesk$Line" "start" "I") (List.mem_of_getElem? (i := 1) rfl)) dX3_find_2 ?_
  clear hP hS; intro H locs hP hS
  refine lv_aload_n hx hb dX3_find_5 rfl (lv_at hl 0 rfl) ?_
  refine lv_aload_n hx hb dX3_find_6 rfl (lv_at hl 1 rfl) ?_
  refine lv_iload_n hx hb dX3_find_7 rfl (lv_at hl 2 rfl) ?_
  refine c_calli (va_runV (As := [.int frm]) (rest := [.ref (a 6)]) ⟨hx, hb, hml, hown, hts⟩ (c_X7_lineEnd l dC dI a κ (up σ 2 frm) φ γ ψ g1 g2 frm (show 0 ≤ (Int32.toInt (σ 0)) ∧ (Int32.toInt (σ 0)) ≤ 4000 from (by omega)) (show 0 ≤ (Int32.toInt frm) ∧ (Int32.toInt frm) ≤ (Int32.toInt (σ 0)) from (by omega))) (cwV 1 hts gX3_find_X7_lineEnd rfl rfl rfl ⟨rfl, hd_X7_lineEnd⟩ ⟨Nat.le_of_ble_eq_true rfl, Nat.le_of_ble_eq_true rfl⟩) (cPreV hP hK hI hN hX hS (va_recv hK hP (ci := 7) (q0 := 1) rfl rfl)) rfl rfl hl.1 rfl (lv_room (Nat.le_of_ble_eq_true rfl)) dX3_find_8 ⟨(by decide +kernel), (by decide +kernel)⟩) hS ?_
  clear hP hS; intro r_16 S_16 F_16 γ_16 ψ_16 H locs hw hP hS
  obtain ⟨rfl, rfl, (qr_16 : (Int32.toInt frm) ≤ (Int32.toInt r_16) ∧ (Int32.toInt r_16) ≤ (Int32.toInt (σ 0)))⟩ := hw
  refine cp_6_3 (v := r_16) hx hb hts hinX3 hown hK hP hI hS (hts (.fieldLink RX3 28 "CensusDesk$Line" "end" "I") (List.mem_of_getElem? (i := 2) rfl)) dX3_find_11 ?_
  clear hP hS; intro H locs hP hS
  refine lv_aload_n hx hb dX3_find_14 rfl (lv_at hl 0 rfl) ?_
  refine lv_aload_n hx hb dX3_find_15 rfl (lv_at hl 0 rfl) ?_
  refine cg_6_3 (v := r_16) hx hb hts hinX3 hown hK hP (hts (.fieldLink RX3 28 "CensusDesk$Line" "end" "I") (List.mem_of_getElem? (i := 2) rfl)) rfl dX3_find_16 ?_
  refine lv_aload_n hx hb dX3_find_19 rfl (lv_at hl 1 rfl) ?_
  refine cgN_1_1 (v := (σ 0)) hx hb hts hinX7 hown hK hP (va_Nw.use rfl (hN.1 ("CensusDesk$Line", 31, "CensusDesk$Tape", "length", "I") (List.mem_of_getElem? (i := 0) rfl))) rfl dX3_find_20 ?_
  refine lv_icmp_ge (tgt := 35) hx hb dX3_find_23 (by decide) (fun c_17 => ?_) (fun c_17 => ?_)
  · have kc_17 := bI_le rfl rfl c_17
    refine lv_aload_n hx hb dX3_find_35 rfl (lv_at hl 0 rfl) ?_
    refine cg_6_3 (v := r_16) hx hb hts hinX3 hown hK hP (hts (.fieldLink RX3 28 "CensusDesk$Line" "end" "I") (List.mem_of_getElem? (i := 2) rfl)) rfl dX3_find_36 ?_
    refine cp_6_4 (v := r_16) hx hb hts hinX3 hown hK hP hI hS (hts (.fieldLink RX3 34 "CensusDesk$Line" "behind" "I") (List.mem_of_getElem? (i := 3) rfl)) dX3_find_39 ?_
    clear hP hS; intro H locs hP hS
    refine lv_aload_n hx hb dX3_find_42 rfl (lv_at hl 0 rfl) ?_
    refine lv_aload_n hx hb dX3_find_43 rfl (lv_at hl 1 rfl) ?_
    refine lv_aload_n hx hb dX3_find_44 rfl (lv_at hl 0 rfl) ?_
    refine cg_6_2 (v := frm) hx hb hts hinX3 hown hK hP (hts (.fieldLink RX3 18 "CensusDesk$Line" "start" "I") (List.mem_of_getElem? (i := 1) rfl)) rfl dX3_find_45 ?_
    refine c_calli (va_runV (As := [.int frm]) (rest := [.ref (a 6)]) ⟨hx, hb, hml, hown, hts⟩ (c_X7_at l dC dI a κ (up (up (up σ 2 frm) 3 r_16) 4 r_16) φ γ_16 ψ_16 g1 g2 frm (show 0 ≤ (Int32.toInt (σ 0)) ∧ (Int32.toInt (σ 0)) ≤ 4000 from (by omega))) (cwV 1 hts gX3_find_X7_at rfl rfl rfl ⟨rfl, hd_X7_at⟩ ⟨Nat.le_of_ble_eq_true rfl, Nat.le_of_ble_eq_true rfl⟩) (cPreV hP hK hI hN hX hS (va_recv hK hP (ci := 7) (q0 := 1) rfl rfl)) rfl rfl hl.1 rfl (lv_room (Nat.le_of_ble_eq_true rfl)) dX3_find_48 ⟨(by decide +kernel), (by decide +kernel)⟩) hS ?_
    clear hP hS; intro r_18 S_18 F_18 γ_18 ψ_18 H locs hw hP hS
    obtain ⟨rfl, rfl, (ra_18 : r_18 = tat (σ 0) (φ 0) frm)⟩ := hw
    have ra : r_18 = tat (σ 0) (φ 0) frm := ra_18
    refine cp_6_6 (v := r_18) hx hb hts hinX3 hown hK hP hI hS (hts (.fieldLink RX3 40 "CensusDesk$Line" "sort" "I") (List.mem_of_getElem? (i := 4) rfl)) dX3_find_51 ?_
    clear hP hS; intro H locs hP hS
    refine lv_aload_n hx hb dX3_find_54 rfl (lv_at hl 0 rfl) ?_
    refine lv_iconst (v := 0) hx hb dX3_find_55 (by decide) ?_
    refine cp_6_5 (v := 0) hx hb hts hinX3 hown hK hP hI hS (hts (.fieldLink RX3 43 "CensusDesk$Line" "cells" "I") (List.mem_of_getElem? (i := 5) rfl)) dX3_find_56 ?_
    clear hP hS; intro H locs hP hS
    refine lv_aload_n hx hb dX3_find_59 rfl (lv_at hl 0 rfl) ?_
    refine cg_6_2 (v := frm) hx hb hts hinX3 hown hK hP (hts (.fieldLink RX3 18 "CensusDesk$Line" "start" "I") (List.mem_of_getElem? (i := 1) rfl)) rfl dX3_find_60 ?_
    refine lv_istore_n (lv' := [(3, .int frm), (0, .ref (a 6)), (1, .ref (a 1)), (2, .int frm)]) hx hb dX3_find_63 rfl hl (by decide) rfl ?_
    clear hl; intro ls hl
    refine lv_aload_n hx hb dX3_find_64 rfl (lv_at hl 1 rfl) ?_
    refine cg_6_2 (v := frm) hx hb hts hinX3 hown hK hP (hts (.fieldLink RX3 18 "CensusDesk$Line" "start" "I") (List.mem_of_getElem? (i := 1) rfl)) rfl dX3_find_65 ?_
    refine lv_istore (lv' := [(4, .int frm), (3, .int frm), (0, .ref (a 6)), (1, .ref (a 1)), (2, .int frm)]) hx hb dX3_find_68 hl (by decide) rfl ?_
    clear hl; intro ls hl
    exact J70 (_ + 1) frm frm frm r_16 r_16 0 r_18 (φ 1) (φ 2) γ_18 ψ_18 _ _ _ p_line_cellStart p_line_cellEnd (show (Int32.toInt frm) = (Int32.toInt frm) ∧ (Int32.toInt frm) ≤ (Int32.toInt r_16) ∧ (Int32.toInt r_16) ≤ (Int32.toInt (σ 0)) ∧ (Int32.toInt frm) + 1 ≤ (Int32.toInt r_16) ∧ (Int32.toInt r_16) ≤ (Int32.toInt (σ 0)) from (by omega)) (show r_18 = tat (σ 0) (φ 0) frm from (by with_reducible assumption)) (show 0 ≤ (Int32.toInt frm) ∧ (Int32.toInt frm) ≤ (Int32.toInt frm) ∧ (Int32.toInt frm) ≤ (Int32.toInt frm) ∧ (Int32.toInt frm) ≤ (Int32.toInt r_16) + 1 ∧ 0 ≤ (Int32.toInt 0) ∧ (Int32.toInt 0) ≤ (Int32.toInt frm) from (by have := L_0; omega)) (Nat.lt_succ_self _) hP hS (lv_sub hl [2, 3, 1, 0] rfl)
  · have kc_17 := bI_nle rfl rfl c_17
    refine lv_aload_n hx hb dX3_find_26 rfl (lv_at hl 0 rfl) ?_
    refine cg_6_3 (v := r_16) hx hb hts hinX3 hown hK hP (hts (.fieldLink RX3 28 "CensusDesk$Line" "end" "I") (List.mem_of_getElem? (i := 2) rfl)) rfl dX3_find_27 ?_
    refine lv_iconst (v := 1) hx hb dX3_find_30 (by decide) ?_
    refine lv_iadd hx hb dX3_find_31 ?_
    refine lv_topi (fun z_19 ez_19 => ?_)
    have tz_19 : (Int32.toInt z_19) = (Int32.toInt r_16) + 1 := aI_add rfl L_1 ez_19 (by have := rng r_16; omega)
    refine lv_goto (tgt := 39) hx hb dX3_find_32 (by decide) ?_
    refine cp_6_4 (v := z_19) hx hb hts hinX3 hown hK hP hI hS (hts (.fieldLink RX3 34 "CensusDesk$Line" "behind" "I") (List.mem_of_getElem? (i := 3) rfl)) dX3_find_39 ?_
    clear hP hS; intro H locs hP hS
    refine lv_aload_n hx hb dX3_find_42 rfl (lv_at hl 0 rfl) ?_
    refine lv_aload_n hx hb dX3_find_43 rfl (lv_at hl 1 rfl) ?_
    refine lv_aload_n hx hb dX3_find_44 rfl (lv_at hl 0 rfl) ?_
    refine cg_6_2 (v := frm) hx hb hts hinX3 hown hK hP (hts (.fieldLink RX3 18 "CensusDesk$Line" "start" "I") (List.mem_of_getElem? (i := 1) rfl)) rfl dX3_find_45 ?_
    refine c_calli (va_runV (As := [.int frm]) (rest := [.ref (a 6)]) ⟨hx, hb, hml, hown, hts⟩ (c_X7_at l dC dI a κ (up (up (up σ 2 frm) 3 r_16) 4 z_19) φ γ_16 ψ_16 g1 g2 frm (show 0 ≤ (Int32.toInt (σ 0)) ∧ (Int32.toInt (σ 0)) ≤ 4000 from (by omega))) (cwV 1 hts gX3_find_X7_at rfl rfl rfl ⟨rfl, hd_X7_at⟩ ⟨Nat.le_of_ble_eq_true rfl, Nat.le_of_ble_eq_true rfl⟩) (cPreV hP hK hI hN hX hS (va_recv hK hP (ci := 7) (q0 := 1) rfl rfl)) rfl rfl hl.1 rfl (lv_room (Nat.le_of_ble_eq_true rfl)) dX3_find_48 ⟨(by decide +kernel), (by decide +kernel)⟩) hS ?_
    clear hP hS; intro r_20 S_20 F_20 γ_20 ψ_20 H locs hw hP hS
    obtain ⟨rfl, rfl, (ra_20 : r_20 = tat (σ 0) (φ 0) frm)⟩ := hw
    have ra : r_20 = tat (σ 0) (φ 0) frm := ra_20
    refine cp_6_6 (v := r_20) hx hb hts hinX3 hown hK hP hI hS (hts (.fieldLink RX3 40 "CensusDesk$Line" "sort" "I") (List.mem_of_getElem? (i := 4) rfl)) dX3_find_51 ?_
    clear hP hS; intro H locs hP hS
    refine lv_aload_n hx hb dX3_find_54 rfl (lv_at hl 0 rfl) ?_
    refine lv_iconst (v := 0) hx hb dX3_find_55 (by decide) ?_
    refine cp_6_5 (v := 0) hx hb hts hinX3 hown hK hP hI hS (hts (.fieldLink RX3 43 "CensusDesk$Line" "cells" "I") (List.mem_of_getElem? (i := 5) rfl)) dX3_find_56 ?_
    clear hP hS; intro H locs hP hS
    refine lv_aload_n hx hb dX3_find_59 rfl (lv_at hl 0 rfl) ?_
    refine cg_6_2 (v := frm) hx hb hts hinX3 hown hK hP (hts (.fieldLink RX3 18 "CensusDesk$Line" "start" "I") (List.mem_of_getElem? (i := 1) rfl)) rfl dX3_find_60 ?_
    refine lv_istore_n (lv' := [(3, .int frm), (0, .ref (a 6)), (1, .ref (a 1)), (2, .int frm)]) hx hb dX3_find_63 rfl hl (by decide) rfl ?_
    clear hl; intro ls hl
    refine lv_aload_n hx hb dX3_find_64 rfl (lv_at hl 1 rfl) ?_
    refine cg_6_2 (v := frm) hx hb hts hinX3 hown hK hP (hts (.fieldLink RX3 18 "CensusDesk$Line" "start" "I") (List.mem_of_getElem? (i := 1) rfl)) rfl dX3_find_65 ?_
    refine lv_istore (lv' := [(4, .int frm), (3, .int frm), (0, .ref (a 6)), (1, .ref (a 1)), (2, .int frm)]) hx hb dX3_find_68 hl (by decide) rfl ?_
    clear hl; intro ls hl
    exact J70 (_ + 1) frm frm frm r_16 z_19 0 r_20 (φ 1) (φ 2) γ_20 ψ_20 _ _ _ p_line_cellStart p_line_cellEnd (show (Int32.toInt frm) = (Int32.toInt frm) ∧ (Int32.toInt frm) ≤ (Int32.toInt r_16) ∧ (Int32.toInt r_16) ≤ (Int32.toInt (σ 0)) ∧ (Int32.toInt frm) + 1 ≤ (Int32.toInt z_19) ∧ (Int32.toInt z_19) ≤ (Int32.toInt (σ 0)) from (by omega)) (show r_20 = tat (σ 0) (φ 0) frm from (by with_reducible assumption)) (show 0 ≤ (Int32.toInt frm) ∧ (Int32.toInt frm) ≤ (Int32.toInt frm) ∧ (Int32.toInt frm) ≤ (Int32.toInt frm) ∧ (Int32.toInt frm) ≤ (Int32.toInt r_16) + 1 ∧ 0 ≤ (Int32.toInt 0) ∧ (Int32.toInt 0) ≤ (Int32.toInt frm) from (by have := L_0; omega)) (Nat.lt_succ_self _) hP hS (lv_sub hl [2, 3, 1, 0] rfl)
set_option maxHeartbeats 4000000 in
set_option maxRecDepth 100000 in
theorem c_X3_startOf (l : Launch) (dC : Nat → ClassId) (dI : Nat → Nat → Nat) (a : Nat → Nat) (κ : Nat → ClassId) (σ : Nat → Int32) (φ : Nat → Nat → Int32) (γ : Nat → Int32) (ψ : Nat → Nat → Int32) (g1 g2 : Nat) (cell : Int32) (p_line_cellStart : PtR 0 4000 (φ 1)) (p_line_cellEnd : PtR 0 4000 (φ 2)) (he : 0 ≤ (Int32.toInt (σ 3)) ∧ (Int32.toInt (σ 3)) ≤ 4000) : Met l yX3_startOf wsX3_startOf ({ frames := 0, cells := 0, slots := 0, locals := 0 } : Room) (va_Pc [.ref (a 6), .int cell] (cPre dC dI a κ (σ, φ, γ, ψ) g1 g2)) (va_Qi (QI (fun r S F => σ = S ∧ φ = F ∧ (0 ≤ (Int32.toInt r) ∧ (Int32.toInt r) ≤ 4000))) (cB dC dI a κ) (cA a)) 0 0 (cA a) := by
  refine Met.ofW (cc := cX3_startOf) (maxL := 2) (ret := (some .int)) (by decide) rfl ?_
  intro p e s m args below meth c s₁ B hml hv
  obtain ⟨rfl, hP, hK, hI, hN, hX⟩ := hv
  have hx := B.exec
  have hb := B.bytes
  have hr := B.returns
  have hts := atoms_spec (ws := wsX3_startOf) B.pre
  have hown : s.vm.findClass RX3 = some m.cls := findClass_of_methodNamed B.named
  have hlocks := B.notSynchronized
  have hS : va_S (cA a) s.heap s.heap [] := va_S.rf
  have hinX3 : ∀ w ∈ wsX30, w ∈ wsX3_startOf := fun _ h => List.mem_cons_of_mem _ (List.mem_append_right _ h)
  have hl := lv_entry ([.ref (a 6), .int cell]) (n := 2) (Nat.le_of_ble_eq_true rfl)
  rw [lg_entry_eq]
  generalize (lg_sl ([.ref (a 6), .int cell]) ++ List.replicate (2 - (lg_sl ([.ref (a 6), .int cell])).length) Slot.unset).toArray = ls at hl ⊢
  have hl : lv_has ls 2 [(0, .ref (a 6)), (1, .int cell)] := hl
  refine lv_iload_n hx hb dX3_startOf_0 rfl (lv_at hl 1 rfl) ?_
  refine lv_if_lt (tgt := 18) hx hb dX3_startOf_1 (by decide) (fun c_1 => ?_) (fun c_1 => ?_)
  · have kc_1 := bI_lt rfl L_0 c_1
    refine lv_aload_n hx hb dX3_startOf_18 rfl (lv_at hl 0 rfl) ?_
    refine cg_6_3 (v := (σ 3)) hx hb hts hinX3 hown hK hP (hts (.fieldLink RX3 28 "CensusDesk$Line" "end" "I") (List.mem_of_getElem? (i := 2) rfl)) rfl dX3_startOf_19 ?_
    exact W.iret (v := (σ 3)) hx hb hr (fun t ht hW => ⟨⟨(σ 3), (σ, φ, γ, ψ), rfl, ⟨rfl, rfl, (show 0 ≤ (Int32.toInt (σ 3)) ∧ (Int32.toInt (σ 3)) ≤ 4000 from (by omega))⟩, (by show va_P _ _ _ _; rw [ht]; exact hP)⟩, hS.F ht⟩) hS.2.2 dX3_startOf_22
  · have kc_1 := bI_nlt rfl L_0 c_1
    refine lv_iload_n hx hb dX3_startOf_4 rfl (lv_at hl 1 rfl) ?_
    refine lv_iconst (v := 5) hx hb dX3_startOf_5 (by decide) ?_
    refine lv_icmp_ge (tgt := 18) hx hb dX3_startOf_6 (by decide) (fun c_2 => ?_) (fun c_2 => ?_)
    · have kc_2 := bI_le L_5 rfl c_2
      refine lv_aload_n hx hb dX3_startOf_18 rfl (lv_at hl 0 rfl) ?_
      refine cg_6_3 (v := (σ 3)) hx hb hts hinX3 hown hK hP (hts (.fieldLink RX3 28 "CensusDesk$Line" "end" "I") (List.mem_of_getElem? (i := 2) rfl)) rfl dX3_startOf_19 ?_
      exact W.iret (v := (σ 3)) hx hb hr (fun t ht hW => ⟨⟨(σ 3), (σ, φ, γ, ψ), rfl, ⟨rfl, rfl, (show 0 ≤ (Int32.toInt (σ 3)) ∧ (Int32.toInt (σ 3)) ≤ 4000 from (by omega))⟩, (by show va_P _ _ _ _; rw [ht]; exact hP)⟩, hS.F ht⟩) hS.2.2 dX3_startOf_22
    · have kc_2 := bI_nle L_5 rfl c_2
      refine lv_aload_n hx hb dX3_startOf_9 rfl (lv_at hl 0 rfl) ?_
      refine cg_6_0 hx hb hts hinX3 hown hK hP (hts (.fieldLink RX3 11 "CensusDesk$Line" "cellStart" "[I") (List.mem_of_getElem? (i := 1) rfl)) dX3_startOf_10 ?_
      refine lv_iload_n hx hb dX3_startOf_13 rfl (lv_at hl 1 rfl) ?_
      refine cl_36 (f := (φ 1)) hx hb hK hP (i := cell) (vin rfl (by omega)) rfl dX3_startOf_14 ?_
      refine lv_topi (fun z_3 ez_3 => ?_)
      have tz_3 : (Int32.toInt z_3) = Int32.toInt ((φ 1) (Int32.toNatClampNeg cell)) := congrArg Int32.toInt ez_3
      have pz_3 : 0 ≤ (Int32.toInt z_3) ∧ (Int32.toInt z_3) ≤ 4000 := p_line_cellStart.of ez_3
      refine lv_goto (tgt := 22) hx hb dX3_startOf_15 (by decide) ?_
      exact W.iret (v := z_3) hx hb hr (fun t ht hW => ⟨⟨z_3, (σ, φ, γ, ψ), rfl, ⟨rfl, rfl, (show 0 ≤ (Int32.toInt z_3) ∧ (Int32.toInt z_3) ≤ 4000 from (by omega))⟩, (by show va_P _ _ _ _; rw [ht]; exact hP)⟩, hS.F ht⟩) hS.2.2 dX3_startOf_22
set_option maxHeartbeats 4000000 in
set_option maxRecDepth 100000 in
theorem c_X3_endOf (l : Launch) (dC : Nat → ClassId) (dI : Nat → Nat → Nat) (a : Nat → Nat) (κ : Nat → ClassId) (σ : Nat → Int32) (φ : Nat → Nat → Int32) (γ : Nat → Int32) (ψ : Nat → Nat → Int32) (g1 g2 : Nat) (cell : Int32) (p_line_cellStart : PtR 0 4000 (φ 1)) (p_line_cellEnd : PtR 0 4000 (φ 2)) (he : 0 ≤ (Int32.toInt (σ 3)) ∧ (Int32.toInt (σ 3)) ≤ 4000) : Met l yX3_endOf wsX3_endOf ({ frames := 0, cells := 0, slots := 0, locals := 0 } : Room) (va_Pc [.ref (a 6), .int cell] (cPre dC dI a κ (σ, φ, γ, ψ) g1 g2)) (va_Qi (QI (fun r S F => σ = S ∧ φ = F ∧ (0 ≤ (Int32.toInt r) ∧ (Int32.toInt r) ≤ 4000))) (cB dC dI a κ) (cA a)) 0 0 (cA a) := by
  refine Met.ofW (cc := cX3_endOf) (maxL := 2) (ret := (some .int)) (by decide) rfl ?_
  intro p e s m args below meth c s₁ B hml hv
  obtain ⟨rfl, hP, hK, hI, hN, hX⟩ := hv
  have hx := B.exec
  have hb := B.bytes
  have hr := B.returns
  have hts := atoms_spec (ws := wsX3_endOf) B.pre
  have hown : s.vm.findClass RX3 = some m.cls := findClass_of_methodNamed B.named
  have hlocks := B.notSynchronized
  have hS : va_S (cA a) s.heap s.heap [] := va_S.rf
  have hinX3 : ∀ w ∈ wsX30, w ∈ wsX3_endOf := fun _ h => List.mem_cons_of_mem _ (List.mem_append_right _ h)
  have hl := lv_entry ([.ref (a 6), .int cell]) (n := 2) (Nat.le_of_ble_eq_true rfl)
  rw [lg_entry_eq]
  generalize (lg_sl ([.ref (a 6), .int cell]) ++ List.replicate (2 - (lg_sl ([.ref (a 6), .int cell])).length) Slot.unset).toArray = ls at hl ⊢
  have hl : lv_has ls 2 [(0, .ref (a 6)), (1, .int cell)] := hl
  refine lv_iload_n hx hb dX3_endOf_0 rfl (lv_at hl 1 rfl) ?_
  refine lv_if_lt (tgt := 18) hx hb dX3_endOf_1 (by decide) (fun c_1 => ?_) (fun c_1 => ?_)
  · have kc_1 := bI_lt rfl L_0 c_1
    refine lv_aload_n hx hb dX3_endOf_18 rfl (lv_at hl 0 rfl) ?_
    refine cg_6_3 (v := (σ 3)) hx hb hts hinX3 hown hK hP (hts (.fieldLink RX3 28 "CensusDesk$Line" "end" "I") (List.mem_of_getElem? (i := 2) rfl)) rfl dX3_endOf_19 ?_
    exact W.iret (v := (σ 3)) hx hb hr (fun t ht hW => ⟨⟨(σ 3), (σ, φ, γ, ψ), rfl, ⟨rfl, rfl, (show 0 ≤ (Int32.toInt (σ 3)) ∧ (Int32.toInt (σ 3)) ≤ 4000 from (by omega))⟩, (by show va_P _ _ _ _; rw [ht]; exact hP)⟩, hS.F ht⟩) hS.2.2 dX3_endOf_22
  · have kc_1 := bI_nlt rfl L_0 c_1
    refine lv_iload_n hx hb dX3_endOf_4 rfl (lv_at hl 1 rfl) ?_
    refine lv_iconst (v := 5) hx hb dX3_endOf_5 (by decide) ?_
    refine lv_icmp_ge (tgt := 18) hx hb dX3_endOf_6 (by decide) (fun c_2 => ?_) (fun c_2 => ?_)
    · have kc_2 := bI_le L_5 rfl c_2
      refine lv_aload_n hx hb dX3_endOf_18 rfl (lv_at hl 0 rfl) ?_
      refine cg_6_3 (v := (σ 3)) hx hb hts hinX3 hown hK hP (hts (.fieldLink RX3 28 "CensusDesk$Line" "end" "I") (List.mem_of_getElem? (i := 2) rfl)) rfl dX3_endOf_19 ?_
      exact W.iret (v := (σ 3)) hx hb hr (fun t ht hW => ⟨⟨(σ 3), (σ, φ, γ, ψ), rfl, ⟨rfl, rfl, (show 0 ≤ (Int32.toInt (σ 3)) ∧ (Int32.toInt (σ 3)) ≤ 4000 from (by omega))⟩, (by show va_P _ _ _ _; rw [ht]; exact hP)⟩, hS.F ht⟩) hS.2.2 dX3_endOf_22
    · have kc_2 := bI_nle L_5 rfl c_2
      refine lv_aload_n hx hb dX3_endOf_9 rfl (lv_at hl 0 rfl) ?_
      refine cg_6_1 hx hb hts hinX3 hown hK hP (hts (.fieldLink RX3 15 "CensusDesk$Line" "cellEnd" "[I") (List.mem_of_getElem? (i := 1) rfl)) dX3_endOf_10 ?_
      refine lv_iload_n hx hb dX3_endOf_13 rfl (lv_at hl 1 rfl) ?_
      refine cl_37 (f := (φ 2)) hx hb hK hP (i := cell) (vin rfl (by omega)) rfl dX3_endOf_14 ?_
      refine lv_topi (fun z_3 ez_3 => ?_)
      have tz_3 : (Int32.toInt z_3) = Int32.toInt ((φ 2) (Int32.toNatClampNeg cell)) := congrArg Int32.toInt ez_3
      have pz_3 : 0 ≤ (Int32.toInt z_3) ∧ (Int32.toInt z_3) ≤ 4000 := p_line_cellEnd.of ez_3
      refine lv_goto (tgt := 22) hx hb dX3_endOf_15 (by decide) ?_
      exact W.iret (v := z_3) hx hb hr (fun t ht hW => ⟨⟨z_3, (σ, φ, γ, ψ), rfl, ⟨rfl, rfl, (show 0 ≤ (Int32.toInt z_3) ∧ (Int32.toInt z_3) ≤ 4000 from (by omega))⟩, (by show va_P _ _ _ _; rw [ht]; exact hP)⟩, hS.F ht⟩) hS.2.2 dX3_endOf_22
set_option maxHeartbeats 4000000 in
set_option maxRecDepth 100000 in
theorem c_X3_cellsDue (l : Launch) (dC : Nat → ClassId) (dI : Nat → Nat → Nat) (a : Nat → Nat) (κ : Nat → ClassId) (σ : Nat → Int32) (φ : Nat → Nat → Int32) (γ : Nat → Int32) (ψ : Nat → Nat → Int32) (g1 g2 : Nat)  : Met l yX3_cellsDue wsX3_cellsDue ({ frames := 0, cells := 0, slots := 0, locals := 0 } : Room) (va_Pc [.ref (a 6)] (cPre dC dI a κ (σ, φ, γ, ψ) g1 g2)) (va_Qi (QI (fun r S F => σ = S ∧ φ = F ∧ (((Int32.toInt (σ 6)) = 72 ∧ (Int32.toInt r) = 3) ∨ ((Int32.toInt (σ 6)) = 80 ∧ (Int32.toInt r) = 5) ∨ ((Int32.toInt (σ 6)) = 83 ∧ (Int32.toInt r) = 2) ∨ ((Int32.toInt r) = 0 ∧ (Int32.toInt (σ 6)) ≠ 72 ∧ (Int32.toInt (σ 6)) ≠ 80 ∧ (Int32.toInt (σ 6)) ≠ 83)))) (cB dC dI a κ) (cA a)) 0 0 (cA a) := by
  refine Met.ofW (cc := cX3_cellsDue) (maxL := 1) (ret := (some .int)) (by decide) rfl ?_
  intro p e s m args below meth c s₁ B hml hv
  obtain ⟨rfl, hP, hK, hI, hN, hX⟩ := hv
  have hx := B.exec
  have hb := B.bytes
  have hr := B.returns
  have hts := atoms_spec (ws := wsX3_cellsDue) B.pre
  have hown : s.vm.findClass RX3 = some m.cls := findClass_of_methodNamed B.named
  have hlocks := B.notSynchronized
  have hS : va_S (cA a) s.heap s.heap [] := va_S.rf
  have hinX3 : ∀ w ∈ wsX30, w ∈ wsX3_cellsDue := fun _ h => List.mem_cons_of_mem _ (List.mem_append_right _ h)
  have hl := lv_entry ([.ref (a 6)]) (n := 1) (Nat.le_of_ble_eq_true rfl)
  rw [lg_entry_eq]
  generalize (lg_sl ([.ref (a 6)]) ++ List.replicate (1 - (lg_sl ([.ref (a 6)])).length) Slot.unset).toArray = ls at hl ⊢
  have hl : lv_has ls 1 [(0, .ref (a 6))] := hl
  refine lv_aload_n hx hb dX3_cellsDue_0 rfl (lv_at hl 0 rfl) ?_
  refine cg_6_6 (v := (σ 6)) hx hb hts hinX3 hown hK hP (hts (.fieldLink RX3 40 "CensusDesk$Line" "sort" "I") (List.mem_of_getElem? (i := 1) rfl)) rfl dX3_cellsDue_1 ?_
  rcases (show ((Int32.toInt (σ 6)) ≠ 72 ∧ (Int32.toInt (σ 6)) ≠ 80 ∧ (Int32.toInt (σ 6)) ≠ 83) ∨ (Int32.toInt (σ 6)) = 72 ∨ (Int32.toInt (σ 6)) = 80 ∨ (Int32.toInt (σ 6)) = 83 from by omega) with sw_1 | sw_1 | sw_1 | sw_1
  · refine lv_lookup (off := 42) (tgt := 46) hx hb dX3_cellsDue_4 (by decide) (k_look3 sw_1) (by decide) ?_
    refine lv_iconst (v := 0) hx hb dX3_cellsDue_46 (by decide) ?_
    exact W.iret (v := 0) hx hb hr (fun t ht hW => ⟨⟨0, (σ, φ, γ, ψ), rfl, ⟨rfl, rfl, (show ((Int32.toInt (σ 6)) = 72 ∧ (Int32.toInt 0) = 3) ∨ ((Int32.toInt (σ 6)) = 80 ∧ (Int32.toInt 0) = 5) ∨ ((Int32.toInt (σ 6)) = 83 ∧ (Int32.toInt 0) = 2) ∨ ((Int32.toInt 0) = 0 ∧ (Int32.toInt (σ 6)) ≠ 72 ∧ (Int32.toInt (σ 6)) ≠ 80 ∧ (Int32.toInt (σ 6)) ≠ 83) from (by have := L_0; omega))⟩, (by show va_P _ _ _ _; rw [ht]; exact hP)⟩, hS.F ht⟩) hS.2.2 dX3_cellsDue_47
  · refine lv_lookup (off := 36) (tgt := 40) hx hb dX3_cellsDue_4 (by decide) (by rw [sw_1]; rfl) (by decide) ?_
    refine lv_iconst (v := 3) hx hb dX3_cellsDue_40 (by decide) ?_
    exact W.iret (v := 3) hx hb hr (fun t ht hW => ⟨⟨3, (σ, φ, γ, ψ), rfl, ⟨rfl, rfl, (show ((Int32.toInt (σ 6)) = 72 ∧ (Int32.toInt 3) = 3) ∨ ((Int32.toInt (σ 6)) = 80 ∧ (Int32.toInt 3) = 5) ∨ ((Int32.toInt (σ 6)) = 83 ∧ (Int32.toInt 3) = 2) ∨ ((Int32.toInt 3) = 0 ∧ (Int32.toInt (σ 6)) ≠ 72 ∧ (Int32.toInt (σ 6)) ≠ 80 ∧ (Int32.toInt (σ 6)) ≠ 83) from (by have := L_3; omega))⟩, (by show va_P _ _ _ _; rw [ht]; exact hP)⟩, hS.F ht⟩) hS.2.2 dX3_cellsDue_41
  · refine lv_lookup (off := 38) (tgt := 42) hx hb dX3_cellsDue_4 (by decide) (by rw [sw_1]; rfl) (by decide) ?_
    refine lv_iconst (v := 5) hx hb dX3_cellsDue_42 (by decide) ?_
    exact W.iret (v := 5) hx hb hr (fun t ht hW => ⟨⟨5, (σ, φ, γ, ψ), rfl, ⟨rfl, rfl, (show ((Int32.toInt (σ 6)) = 72 ∧ (Int32.toInt 5) = 3) ∨ ((Int32.toInt (σ 6)) = 80 ∧ (Int32.toInt 5) = 5) ∨ ((Int32.toInt (σ 6)) = 83 ∧ (Int32.toInt 5) = 2) ∨ ((Int32.toInt 5) = 0 ∧ (Int32.toInt (σ 6)) ≠ 72 ∧ (Int32.toInt (σ 6)) ≠ 80 ∧ (Int32.toInt (σ 6)) ≠ 83) from (by have := L_5; omega))⟩, (by show va_P _ _ _ _; rw [ht]; exact hP)⟩, hS.F ht⟩) hS.2.2 dX3_cellsDue_43
  · refine lv_lookup (off := 40) (tgt := 44) hx hb dX3_cellsDue_4 (by decide) (by rw [sw_1]; rfl) (by decide) ?_
    refine lv_iconst (v := 2) hx hb dX3_cellsDue_44 (by decide) ?_
    exact W.iret (v := 2) hx hb hr (fun t ht hW => ⟨⟨2, (σ, φ, γ, ψ), rfl, ⟨rfl, rfl, (show ((Int32.toInt (σ 6)) = 72 ∧ (Int32.toInt 2) = 3) ∨ ((Int32.toInt (σ 6)) = 80 ∧ (Int32.toInt 2) = 5) ∨ ((Int32.toInt (σ 6)) = 83 ∧ (Int32.toInt 2) = 2) ∨ ((Int32.toInt 2) = 0 ∧ (Int32.toInt (σ 6)) ≠ 72 ∧ (Int32.toInt (σ 6)) ≠ 80 ∧ (Int32.toInt (σ 6)) ≠ 83) from (by have := L_2; omega))⟩, (by show va_P _ _ _ _; rw [ht]; exact hP)⟩, hS.F ht⟩) hS.2.2 dX3_cellsDue_45
set_option maxHeartbeats 4000000 in
set_option maxRecDepth 100000 in
theorem c_X3_isOdd (l : Launch) (dC : Nat → ClassId) (dI : Nat → Nat → Nat) (a : Nat → Nat) (κ : Nat → ClassId) (σ : Nat → Int32) (φ : Nat → Nat → Int32) (γ : Nat → Int32) (ψ : Nat → Nat → Int32) (g1 g2 : Nat)  (hlen : 0 ≤ (Int32.toInt (σ 0)) ∧ (Int32.toInt (σ 0)) ≤ 4000) : Met l yX3_isOdd wsX3_isOdd ({ frames := 1, cells := 0, slots := 0, locals := 21 } : Room) (va_Pc [.ref (a 6), .ref (a 1)] (cPre dC dI a κ (σ, φ, γ, ψ) g1 g2)) (va_Qi (QI (fun r S F => σ = S ∧ φ = F ∧ ((Int32.toInt r) ≠ 0 ∨ (Int32.toInt (σ 6)) = 72 ∨ (Int32.toInt (σ 6)) = 80 ∨ (Int32.toInt (σ 6)) = 83))) (cB dC dI a κ) (cA a)) 0 0 (cA a) := by
  refine Met.ofW (cc := cX3_isOdd) (maxL := 2) (ret := (some .boolean)) (by decide) rfl ?_
  intro p e s m args below meth c s₁ B hml hv
  obtain ⟨rfl, hP, hK, hI, hN, hX⟩ := hv
  have hx := B.exec
  have hb := B.bytes
  have hr := B.returns
  have hts := atoms_spec (ws := wsX3_isOdd) B.pre
  have hown : s.vm.findClass RX3 = some m.cls := findClass_of_methodNamed B.named
  have hlocks := B.notSynchronized
  have hS : va_S (cA a) s.heap s.heap [] := va_S.rf
  have hinX3 : ∀ w ∈ wsX30, w ∈ wsX3_isOdd := fun _ h => List.mem_cons_of_mem _ (List.mem_append_left _ (List.mem_append_right _ h))
  have hinX7 : ∀ w ∈ wsX70, w ∈ wsX3_isOdd := fun _ h => List.mem_cons_of_mem _ (List.mem_append_right _ h)
  have hl := lv_entry ([.ref (a 6), .ref (a 1)]) (n := 2) (Nat.le_of_ble_eq_true rfl)
  rw [lg_entry_eq]
  generalize (lg_sl ([.ref (a 6), .ref (a 1)]) ++ List.replicate (2 - (lg_sl ([.ref (a 6), .ref (a 1)])).length) Slot.unset).toArray = ls at hl ⊢
  have hl : lv_has ls 2 [(0, .ref (a 6)), (1, .ref (a 1))] := hl
  refine lv_aload_n hx hb dX3_isOdd_0 rfl (lv_at hl 0 rfl) ?_
  refine c_calli (va_runV (As := []) (rest := []) ⟨hx, hb, hml, hown, hts⟩ (c_X3_cellsDue l dC dI a κ σ φ γ ψ g1 g2  ) (cwV 0 hts gX3_isOdd_X3_cellsDue rfl rfl rfl ⟨rfl, hd_X3_cellsDue⟩ ⟨Nat.le_of_ble_eq_true rfl, Nat.le_of_ble_eq_true rfl⟩) (cPreV hP hK hI hN hX hS (va_recv hK hP (ci := 3) (q0 := 6) rfl rfl)) rfl rfl hl.1 rfl (lv_room (Nat.le_of_ble_eq_true rfl)) dX3_isOdd_1 ⟨(by decide +kernel), (by decide +kernel)⟩) hS ?_
  clear hP hS; intro r_1 S_1 F_1 γ_1 ψ_1 H locs hw hP hS
  obtain ⟨rfl, rfl, (qd_1 : ((Int32.toInt (σ 6)) = 72 ∧ (Int32.toInt r_1) = 3) ∨ ((Int32.toInt (σ 6)) = 80 ∧ (Int32.toInt r_1) = 5) ∨ ((Int32.toInt (σ 6)) = 83 ∧ (Int32.toInt r_1) = 2) ∨ ((Int32.toInt r_1) = 0 ∧ (Int32.toInt (σ 6)) ≠ 72 ∧ (Int32.toInt (σ 6)) ≠ 80 ∧ (Int32.toInt (σ 6)) ≠ 83))⟩ := hw
  refine lv_if_ne (tgt := 9) hx hb dX3_isOdd_4 (by decide) (fun c_2 => ?_) (fun c_2 => ?_)
  · have kc_2 := bI_ne rfl L_0 c_2
    refine lv_aload_n hx hb dX3_isOdd_9 rfl (lv_at hl 0 rfl) ?_
    refine cg_6_2 (v := (σ 2)) hx hb hts hinX3 hown hK hP (hts (.fieldLink RX3 18 "CensusDesk$Line" "start" "I") (List.mem_of_getElem? (i := 1) rfl)) rfl dX3_isOdd_10 ?_
    refine lv_iconst (v := 1) hx hb dX3_isOdd_13 (by decide) ?_
    refine lv_iadd hx hb dX3_isOdd_14 ?_
    refine lv_topi (fun z_3 ez_3 => ?_)
    refine lv_aload_n hx hb dX3_isOdd_15 rfl (lv_at hl 0 rfl) ?_
    refine cg_6_3 (v := (σ 3)) hx hb hts hinX3 hown hK hP (hts (.fieldLink RX3 28 "CensusDesk$Line" "end" "I") (List.mem_of_getElem? (i := 2) rfl)) rfl dX3_isOdd_16 ?_
    refine lv_icmp_ge (tgt := 41) hx hb dX3_isOdd_19 (by decide) (fun c_4 => ?_) (fun c_4 => ?_)
    · have kc_4 := bI_le rfl rfl c_4
      refine lv_iconst (v := 0) hx hb dX3_isOdd_41 (by decide) ?_
      exact W.zret (v := 0) hx hb hr (by first | rfl | decide) (fun t ht hW => ⟨⟨0, (σ, φ, γ_1, ψ_1), rfl, ⟨rfl, rfl, (show (Int32.toInt 0) ≠ 0 ∨ (Int32.toInt (σ 6)) = 72 ∨ (Int32.toInt (σ 6)) = 80 ∨ (Int32.toInt (σ 6)) = 83 from (by have := L_0; omega))⟩, (by show va_P _ _ _ _; rw [ht]; exact hP)⟩, hS.F ht⟩) hS.2.2 dX3_isOdd_42
    · have kc_4 := bI_nle rfl rfl c_4
      refine lv_aload_n hx hb dX3_isOdd_22 rfl (lv_at hl 1 rfl) ?_
      refine lv_aload_n hx hb dX3_isOdd_23 rfl (lv_at hl 0 rfl) ?_
      refine cg_6_2 (v := (σ 2)) hx hb hts hinX3 hown hK hP (hts (.fieldLink RX3 18 "CensusDesk$Line" "start" "I") (List.mem_of_getElem? (i := 1) rfl)) rfl dX3_isOdd_24 ?_
      refine lv_iconst (v := 1) hx hb dX3_isOdd_27 (by decide) ?_
      refine lv_iadd hx hb dX3_isOdd_28 ?_
      refine lv_topi (fun z_5 ez_5 => ?_)
      refine c_calli (va_runV (As := [.int z_5]) (rest := []) ⟨hx, hb, hml, hown, hts⟩ (c_X7_at l dC dI a κ σ φ γ_1 ψ_1 g1 g2 z_5 (show 0 ≤ (Int32.toInt (σ 0)) ∧ (Int32.toInt (σ 0)) ≤ 4000 from (by omega))) (cwV 1 hts gX3_isOdd_X7_at rfl rfl rfl ⟨rfl, hd_X7_at⟩ ⟨Nat.le_of_ble_eq_true rfl, Nat.le_of_ble_eq_true rfl⟩) (cPreV hP hK hI hN hX hS (va_recv hK hP (ci := 7) (q0 := 1) rfl rfl)) rfl rfl hl.1 rfl (lv_room (Nat.le_of_ble_eq_true rfl)) dX3_isOdd_29 ⟨(by decide +kernel), (by decide +kernel)⟩) hS ?_
      clear hP hS; intro r_6 S_6 F_6 γ_6 ψ_6 H locs hw hP hS
      obtain ⟨rfl, rfl, (ra_6 : r_6 = tat (σ 0) (φ 0) z_5)⟩ := hw
      refine lv_bipush (v := 124) hx hb dX3_isOdd_32 (by decide) ?_
      refine lv_icmp_eq (tgt := 41) hx hb dX3_isOdd_34 (by decide) (fun c_7 => ?_) (fun c_7 => ?_)
      · have kc_7 := bI_eq rfl L_124 c_7
        refine lv_iconst (v := 0) hx hb dX3_isOdd_41 (by decide) ?_
        exact W.zret (v := 0) hx hb hr (by first | rfl | decide) (fun t ht hW => ⟨⟨0, (σ, φ, γ_6, ψ_6), rfl, ⟨rfl, rfl, (show (Int32.toInt 0) ≠ 0 ∨ (Int32.toInt (σ 6)) = 72 ∨ (Int32.toInt (σ 6)) = 80 ∨ (Int32.toInt (σ 6)) = 83 from (by have := L_0; omega))⟩, (by show va_P _ _ _ _; rw [ht]; exact hP)⟩, hS.F ht⟩) hS.2.2 dX3_isOdd_42
      · have kc_7 := bI_ne rfl L_124 c_7
        refine lv_iconst (v := 1) hx hb dX3_isOdd_37 (by decide) ?_
        refine lv_goto (tgt := 42) hx hb dX3_isOdd_38 (by decide) ?_
        exact W.zret (v := 1) hx hb hr (by first | rfl | decide) (fun t ht hW => ⟨⟨1, (σ, φ, γ_6, ψ_6), rfl, ⟨rfl, rfl, (show (Int32.toInt 1) ≠ 0 ∨ (Int32.toInt (σ 6)) = 72 ∨ (Int32.toInt (σ 6)) = 80 ∨ (Int32.toInt (σ 6)) = 83 from (by have := L_1; omega))⟩, (by show va_P _ _ _ _; rw [ht]; exact hP)⟩, hS.F ht⟩) hS.2.2 dX3_isOdd_42
  · have kc_2 := bI_eq rfl L_0 c_2
    refine lv_iconst (v := 1) hx hb dX3_isOdd_7 (by decide) ?_
    exact W.zret (v := 1) hx hb hr (by first | rfl | decide) (fun t ht hW => ⟨⟨1, (σ, φ, γ_1, ψ_1), rfl, ⟨rfl, rfl, (show (Int32.toInt 1) ≠ 0 ∨ (Int32.toInt (σ 6)) = 72 ∨ (Int32.toInt (σ 6)) = 80 ∨ (Int32.toInt (σ 6)) = 83 from (by have := L_1; omega))⟩, (by show va_P _ _ _ _; rw [ht]; exact hP)⟩, hS.F ht⟩) hS.2.2 dX3_isOdd_8
set_option maxHeartbeats 4000000 in
set_option maxRecDepth 100000 in
theorem c_X3_fieldIn (l : Launch) (dC : Nat → ClassId) (dI : Nat → Nat → Nat) (a : Nat → Nat) (κ : Nat → ClassId) (σ : Nat → Int32) (φ : Nat → Nat → Int32) (γ : Nat → Int32) (ψ : Nat → Nat → Int32) (g1 g2 : Nat) (cell : Int32) : Met l yX3_fieldIn wsX3_fieldIn ({ frames := 0, cells := 0, slots := 0, locals := 0 } : Room) (va_Pc [.ref (a 6), .int cell] (cPre dC dI a κ (σ, φ, γ, ψ) g1 g2)) (va_Qi (QI (fun r S F => σ = S ∧ φ = F ∧ (((Int32.toInt cell) = 2 ∧ (Int32.toInt (σ 6)) = 80) → (Int32.toInt r) = 2))) (cB dC dI a κ) (cA a)) 0 0 (cA a) := by
  refine Met.ofW (cc := cX3_fieldIn) (maxL := 2) (ret := (some .int)) (by decide) rfl ?_
  intro p e s m args below meth c s₁ B hml hv
  obtain ⟨rfl, hP, hK, hI, hN, hX⟩ := hv
  have hx := B.exec
  have hb := B.bytes
  have hr := B.returns
  have hts := atoms_spec (ws := wsX3_fieldIn) B.pre
  have hown : s.vm.findClass RX3 = some m.cls := findClass_of_methodNamed B.named
  have hlocks := B.notSynchronized
  have hS : va_S (cA a) s.heap s.heap [] := va_S.rf
  have hinX3 : ∀ w ∈ wsX30, w ∈ wsX3_fieldIn := fun _ h => List.mem_cons_of_mem _ (List.mem_append_right _ h)
  have hl := lv_entry ([.ref (a 6), .int cell]) (n := 2) (Nat.le_of_ble_eq_true rfl)
  rw [lg_entry_eq]
  generalize (lg_sl ([.ref (a 6), .int cell]) ++ List.replicate (2 - (lg_sl ([.ref (a 6), .int cell])).length) Slot.unset).toArray = ls at hl ⊢
  have hl : lv_has ls 2 [(0, .ref (a 6)), (1, .int cell)] := hl
  refine lv_aload_n hx hb dX3_fieldIn_0 rfl (lv_at hl 0 rfl) ?_
  refine cg_6_6 (v := (σ 6)) hx hb hts hinX3 hown hK hP (hts (.fieldLink RX3 40 "CensusDesk$Line" "sort" "I") (List.mem_of_getElem? (i := 1) rfl)) rfl dX3_fieldIn_1 ?_
  refine lv_bipush (v := 83) hx hb dX3_fieldIn_4 (by decide) ?_
  refine lv_icmp_ne (tgt := 11) hx hb dX3_fieldIn_6 (by decide) (fun c_1 => ?_) (fun c_1 => ?_)
  · have kc_1 := bI_ne rfl L_83 c_1
    refine lv_aload_n hx hb dX3_fieldIn_11 rfl (lv_at hl 0 rfl) ?_
    refine cg_6_6 (v := (σ 6)) hx hb hts hinX3 hown hK hP (hts (.fieldLink RX3 40 "CensusDesk$Line" "sort" "I") (List.mem_of_getElem? (i := 1) rfl)) rfl dX3_fieldIn_12 ?_
    refine lv_bipush (v := 72) hx hb dX3_fieldIn_15 (by decide) ?_
    refine lv_icmp_ne (tgt := 31) hx hb dX3_fieldIn_17 (by decide) (fun c_2 => ?_) (fun c_2 => ?_)
    · have kc_2 := bI_ne rfl L_72 c_2
      refine lv_iload_n hx hb dX3_fieldIn_31 rfl (lv_at hl 1 rfl) ?_
      rcases (show ((Int32.toInt cell) < 1 ∨ 3 < (Int32.toInt cell)) ∨ (Int32.toInt cell) = 1 ∨ (Int32.toInt cell) = 2 ∨ (Int32.toInt cell) = 3 from by omega) with sw_3 | sw_3 | sw_3 | sw_3
      · refine lv_tableOut (tgt := 67) hx hb dX3_fieldIn_32 sw_3 (by decide) ?_
        refine lv_iconst (v := 3) hx hb dX3_fieldIn_67 (by decide) ?_
        exact W.iret (v := 3) hx hb hr (fun t ht hW => ⟨⟨3, (σ, φ, γ, ψ), rfl, ⟨rfl, rfl, (show ((Int32.toInt cell) = 2 ∧ (Int32.toInt (σ 6)) = 80) → (Int32.toInt 3) = 2 from (by have := L_3; omega))⟩, (by show va_P _ _ _ _; rw [ht]; exact hP)⟩, hS.F ht⟩) hS.2.2 dX3_fieldIn_68
      · refine lv_tableIn (off := 28) (tgt := 60) hx hb dX3_fieldIn_32 (by omega) (by omega) (by rw [sw_3]; rfl) (by decide) ?_
        refine lv_iconst (v := 1) hx hb dX3_fieldIn_60 (by decide) ?_
        exact W.iret (v := 1) hx hb hr (fun t ht hW => ⟨⟨1, (σ, φ, γ, ψ), rfl, ⟨rfl, rfl, (show ((Int32.toInt cell) = 2 ∧ (Int32.toInt (σ 6)) = 80) → (Int32.toInt 1) = 2 from (by have := L_1; omega))⟩, (by show va_P _ _ _ _; rw [ht]; exact hP)⟩, hS.F ht⟩) hS.2.2 dX3_fieldIn_61
      · refine lv_tableIn (off := 30) (tgt := 62) hx hb dX3_fieldIn_32 (by omega) (by omega) (by rw [sw_3]; rfl) (by decide) ?_
        refine lv_iconst (v := 2) hx hb dX3_fieldIn_62 (by decide) ?_
        exact W.iret (v := 2) hx hb hr (fun t ht hW => ⟨⟨2, (σ, φ, γ, ψ), rfl, ⟨rfl, rfl, (show ((Int32.toInt cell) = 2 ∧ (Int32.toInt (σ 6)) = 80) → (Int32.toInt 2) = 2 from (by have := L_2; omega))⟩, (by show va_P _ _ _ _; rw [ht]; exact hP)⟩, hS.F ht⟩) hS.2.2 dX3_fieldIn_63
      · refine lv_tableIn (off := 32) (tgt := 64) hx hb dX3_fieldIn_32 (by omega) (by omega) (by rw [sw_3]; rfl) (by decide) ?_
        refine lv_bipush (v := 6) hx hb dX3_fieldIn_64 (by decide) ?_
        exact W.iret (v := 6) hx hb hr (fun t ht hW => ⟨⟨6, (σ, φ, γ, ψ), rfl, ⟨rfl, rfl, (show ((Int32.toInt cell) = 2 ∧ (Int32.toInt (σ 6)) = 80) → (Int32.toInt 6) = 2 from (by have := L_6; omega))⟩, (by show va_P _ _ _ _; rw [ht]; exact hP)⟩, hS.F ht⟩) hS.2.2 dX3_fieldIn_66
    · have kc_2 := bI_eq rfl L_72 c_2
      refine lv_iload_n hx hb dX3_fieldIn_20 rfl (lv_at hl 1 rfl) ?_
      refine lv_iconst (v := 1) hx hb dX3_fieldIn_21 (by decide) ?_
      refine lv_icmp_ne (tgt := 29) hx hb dX3_fieldIn_22 (by decide) (fun c_4 => ?_) (fun c_4 => ?_)
      · have kc_4 := bI_ne rfl L_1 c_4
        refine lv_iconst (v := 5) hx hb dX3_fieldIn_29 (by decide) ?_
        exact W.iret (v := 5) hx hb hr (fun t ht hW => ⟨⟨5, (σ, φ, γ, ψ), rfl, ⟨rfl, rfl, (show ((Int32.toInt cell) = 2 ∧ (Int32.toInt (σ 6)) = 80) → (Int32.toInt 5) = 2 from (by have := L_5; omega))⟩, (by show va_P _ _ _ _; rw [ht]; exact hP)⟩, hS.F ht⟩) hS.2.2 dX3_fieldIn_30
      · have kc_4 := bI_eq rfl L_1 c_4
        refine lv_iconst (v := 4) hx hb dX3_fieldIn_25 (by decide) ?_
        refine lv_goto (tgt := 30) hx hb dX3_fieldIn_26 (by decide) ?_
        exact W.iret (v := 4) hx hb hr (fun t ht hW => ⟨⟨4, (σ, φ, γ, ψ), rfl, ⟨rfl, rfl, (show ((Int32.toInt cell) = 2 ∧ (Int32.toInt (σ 6)) = 80) → (Int32.toInt 4) = 2 from (by have := L_4; omega))⟩, (by show va_P _ _ _ _; rw [ht]; exact hP)⟩, hS.F ht⟩) hS.2.2 dX3_fieldIn_30
  · have kc_1 := bI_eq rfl L_83 c_1
    refine lv_iconst (v := 5) hx hb dX3_fieldIn_9 (by decide) ?_
    exact W.iret (v := 5) hx hb hr (fun t ht hW => ⟨⟨5, (σ, φ, γ, ψ), rfl, ⟨rfl, rfl, (show ((Int32.toInt cell) = 2 ∧ (Int32.toInt (σ 6)) = 80) → (Int32.toInt 5) = 2 from (by have := L_5; omega))⟩, (by show va_P _ _ _ _; rw [ht]; exact hP)⟩, hS.F ht⟩) hS.2.2 dX3_fieldIn_10
set_option maxHeartbeats 4000000 in
set_option maxRecDepth 100000 in
theorem c_X6_clear (l : Launch) (dC : Nat → ClassId) (dI : Nat → Nat → Nat) (a : Nat → Nat) (κ : Nat → ClassId) (σ : Nat → Int32) (φ : Nat → Nat → Int32) (γ : Nat → Int32) (ψ : Nat → Nat → Int32) (g1 g2 : Nat)  : Met l yX6_clear wsX6_clear ({ frames := 0, cells := 0, slots := 0, locals := 0 } : Room) (va_Pc [.ref (a 7)] (cPre dC dI a κ (σ, φ, γ, ψ) g1 g2)) (va_Qv (QV (fun S F => ∃ (s7 : Int32), (up σ 7 s7) = S ∧ φ = F ∧ ((Int32.toInt s7) = 0))) (cB dC dI a κ) (cA a)) 0 0 (cA a) := by
  refine Met.ofW (cc := cX6_clear) (maxL := 1) (ret := none) (by decide) rfl ?_
  intro p e s m args below meth c s₁ B hml hv
  obtain ⟨rfl, hP, hK, hI, hN, hX⟩ := hv
  have hx := B.exec
  have hb := B.bytes
  have hr := B.returns
  have hts := atoms_spec (ws := wsX6_clear) B.pre
  have hown : s.vm.findClass RX6 = some m.cls := findClass_of_methodNamed B.named
  have hlocks := B.notSynchronized
  have hS : va_S (cA a) s.heap s.heap [] := va_S.rf
  have hinX6 : ∀ w ∈ wsX60, w ∈ wsX6_clear := fun _ h => List.mem_cons_of_mem _ (List.mem_append_right _ h)
  have hl := lv_entry ([.ref (a 7)]) (n := 1) (Nat.le_of_ble_eq_true rfl)
  rw [lg_entry_eq]
  generalize (lg_sl ([.ref (a 7)]) ++ List.replicate (1 - (lg_sl ([.ref (a 7)])).length) Slot.unset).toArray = ls at hl ⊢
  have hl : lv_has ls 1 [(0, .ref (a 7))] := hl
  refine lv_aload_n hx hb dX6_clear_0 rfl (lv_at hl 0 rfl) ?_
  refine lv_iconst (v := 0) hx hb dX6_clear_1 (by decide) ?_
  refine cp_7_2 (v := 0) hx hb hts hinX6 hown hK hP hI hS (hts (.fieldLink RX6 18 "CensusDesk$Signs" "count" "I") (List.mem_of_getElem? (i := 1) rfl)) dX6_clear_2 ?_
  clear hP hS; intro H locs hP hS
  exact W.vret hx hb hr (fun t ht hW => ⟨⟨((up σ 7 0), φ, γ, ψ), rfl, ⟨0, rfl, rfl, (show (Int32.toInt 0) = 0 from (by have := L_0; omega))⟩, (by show va_P _ _ _ _; rw [ht]; exact hP)⟩, hS.F ht⟩) hS.2.2 dX6_clear_5
set_option maxHeartbeats 4000000 in
set_option maxRecDepth 100000 in
theorem c_X6_add (l : Launch) (dC : Nat → ClassId) (dI : Nat → Nat → Nat) (a : Nat → Nat) (κ : Nat → ClassId) (σ : Nat → Int32) (φ : Nat → Nat → Int32) (γ : Nat → Int32) (ψ : Nat → Nat → Int32) (g1 g2 : Nat) (sign : Int32) (place : Int32) (hc : 0 ≤ (Int32.toInt (σ 7)) ∧ (Int32.toInt (σ 7)) ≤ 31) : Met l yX6_add wsX6_add ({ frames := 0, cells := 0, slots := 0, locals := 0 } : Room) (va_Pc [.ref (a 7), .int sign, .int place] (cPre dC dI a κ (σ, φ, γ, ψ) g1 g2)) (va_Qv (QV (fun S F => ∃ (s7 : Int32), (up σ 7 s7) = S ∧ φ = F ∧ (0 ≤ (Int32.toInt s7) ∧ (Int32.toInt s7) ≤ 31))) (cB dC dI a κ) (cA a)) 0 0 (cA a) := by
  refine Met.ofW (cc := cX6_add) (maxL := 3) (ret := none) (by decide) rfl ?_
  intro p e s m args below meth c s₁ B hml hv
  obtain ⟨rfl, hP, hK, hI, hN, hX⟩ := hv
  have hx := B.exec
  have hb := B.bytes
  have hr := B.returns
  have hts := atoms_spec (ws := wsX6_add) B.pre
  have hown : s.vm.findClass RX6 = some m.cls := findClass_of_methodNamed B.named
  have hlocks := B.notSynchronized
  have hS : va_S (cA a) s.heap s.heap [] := va_S.rf
  have hinX6 : ∀ w ∈ wsX60, w ∈ wsX6_add := fun _ h => List.mem_cons_of_mem _ (List.mem_append_right _ h)
  have hl := lv_entry ([.ref (a 7), .int sign, .int place]) (n := 3) (Nat.le_of_ble_eq_true rfl)
  rw [lg_entry_eq]
  generalize (lg_sl ([.ref (a 7), .int sign, .int place]) ++ List.replicate (3 - (lg_sl ([.ref (a 7), .int sign, .int place])).length) Slot.unset).toArray = ls at hl ⊢
  have hl : lv_has ls 3 [(0, .ref (a 7)), (1, .int sign), (2, .int place)] := hl
  refine lv_aload_n hx hb dX6_add_0 rfl (lv_at hl 0 rfl) ?_
  refine cg_7_2 (v := (σ 7)) hx hb hts hinX6 hown hK hP (hts (.fieldLink RX6 18 "CensusDesk$Signs" "count" "I") (List.mem_of_getElem? (i := 1) rfl)) rfl dX6_add_1 ?_
  refine lv_bipush (v := 31) hx hb dX6_add_4 (by decide) ?_
  refine lv_icmp_ge (tgt := 39) hx hb dX6_add_6 (by decide) (fun c_1 => ?_) (fun c_1 => ?_)
  · have kc_1 := bI_le L_31 rfl c_1
    exact W.vret hx hb hr (fun t ht hW => ⟨⟨((up σ 7 (σ 7)), φ, γ, ψ), rfl, ⟨(σ 7), rfl, rfl, (show 0 ≤ (Int32.toInt (σ 7)) ∧ (Int32.toInt (σ 7)) ≤ 31 from (by omega))⟩, (by show va_P _ _ _ _; rw [ht]; exact hP)⟩, hS.F ht⟩) hS.2.2 dX6_add_39
  · have kc_1 := bI_nle L_31 rfl c_1
    refine lv_aload_n hx hb dX6_add_9 rfl (lv_at hl 0 rfl) ?_
    refine cg_7_0 hx hb hts hinX6 hown hK hP (hts (.fieldLink RX6 11 "CensusDesk$Signs" "signs" "[I") (List.mem_of_getElem? (i := 2) rfl)) dX6_add_10 ?_
    refine lv_aload_n hx hb dX6_add_13 rfl (lv_at hl 0 rfl) ?_
    refine cg_7_2 (v := (σ 7)) hx hb hts hinX6 hown hK hP (hts (.fieldLink RX6 18 "CensusDesk$Signs" "count" "I") (List.mem_of_getElem? (i := 1) rfl)) rfl dX6_add_14 ?_
    refine lv_iload_n hx hb dX6_add_17 rfl (lv_at hl 1 rfl) ?_
    refine cs_38 (f := (ψ 19)) hx hb hK hP hI hS (i := (σ 7)) (x := sign) (vin rfl (by omega)) rfl dX6_add_18 ?_
    clear hP hS; intro H locs hP hS
    obtain ⟨f_2, ef_2⟩ : ∃ z : Nat → Int32, z = upd (ψ 19) (Int32.toNatClampNeg (σ 7)) sign := ⟨_, rfl⟩
    rw [← ef_2] at hP
    refine lv_aload_n hx hb dX6_add_19 rfl (lv_at hl 0 rfl) ?_
    refine cg_7_1 hx hb hts hinX6 hown hK hP (hts (.fieldLink RX6 15 "CensusDesk$Signs" "places" "[I") (List.mem_of_getElem? (i := 3) rfl)) dX6_add_20 ?_
    refine lv_aload_n hx hb dX6_add_23 rfl (lv_at hl 0 rfl) ?_
    refine cg_7_2 (v := (σ 7)) hx hb hts hinX6 hown hK hP (hts (.fieldLink RX6 18 "CensusDesk$Signs" "count" "I") (List.mem_of_getElem? (i := 1) rfl)) rfl dX6_add_24 ?_
    refine lv_iload_n hx hb dX6_add_27 rfl (lv_at hl 2 rfl) ?_
    refine cs_39 (f := (ψ 20)) hx hb hK hP hI hS (i := (σ 7)) (x := place) (vin rfl (by omega)) rfl dX6_add_28 ?_
    clear hP hS; intro H locs hP hS
    obtain ⟨f_3, ef_3⟩ : ∃ z : Nat → Int32, z = upd (ψ 20) (Int32.toNatClampNeg (σ 7)) place := ⟨_, rfl⟩
    rw [← ef_3] at hP
    refine lv_aload_n hx hb dX6_add_29 rfl (lv_at hl 0 rfl) ?_
    refine lv_dup hx hb dX6_add_30 rfl ?_
    refine cg_7_2 (v := (σ 7)) hx hb hts hinX6 hown hK hP (hts (.fieldLink RX6 18 "CensusDesk$Signs" "count" "I") (List.mem_of_getElem? (i := 1) rfl)) rfl dX6_add_31 ?_
    refine lv_iconst (v := 1) hx hb dX6_add_34 (by decide) ?_
    refine lv_iadd hx hb dX6_add_35 ?_
    refine lv_topi (fun z_4 ez_4 => ?_)
    have tz_4 : (Int32.toInt z_4) = (Int32.toInt (σ 7)) + 1 := aI_add rfl L_1 ez_4 (by have := rng (σ 7); omega)
    refine cp_7_2 (v := z_4) hx hb hts hinX6 hown hK hP hI hS (hts (.fieldLink RX6 18 "CensusDesk$Signs" "count" "I") (List.mem_of_getElem? (i := 1) rfl)) dX6_add_36 ?_
    clear hP hS; intro H locs hP hS
    exact W.vret hx hb hr (fun t ht hW => ⟨⟨((up σ 7 z_4), φ, γ, (up (up ψ 19 f_2) 20 f_3)), rfl, ⟨z_4, rfl, rfl, (show 0 ≤ (Int32.toInt z_4) ∧ (Int32.toInt z_4) ≤ 31 from (by omega))⟩, (by show va_P _ _ _ _; rw [ht]; exact hP)⟩, hS.F ht⟩) hS.2.2 dX6_add_39
set_option maxHeartbeats 4000000 in
set_option maxRecDepth 100000 in
theorem c_X6_at (l : Launch) (dC : Nat → ClassId) (dI : Nat → Nat → Nat) (a : Nat → Nat) (κ : Nat → ClassId) (σ : Nat → Int32) (φ : Nat → Nat → Int32) (γ : Nat → Int32) (ψ : Nat → Nat → Int32) (g1 g2 : Nat) (k : Int32) : Met l yX6_at wsX6_at ({ frames := 0, cells := 0, slots := 0, locals := 0 } : Room) (va_Pc [.ref (a 7), .int k] (cPre dC dI a κ (σ, φ, γ, ψ) g1 g2)) (va_Qi (QI (fun r S F => σ = S ∧ φ = F ∧ True)) (cB dC dI a κ) (cA a)) 0 0 (cA a) := by
  refine Met.ofW (cc := cX6_at) (maxL := 2) (ret := (some .int)) (by decide) rfl ?_
  intro p e s m args below meth c s₁ B hml hv
  obtain ⟨rfl, hP, hK, hI, hN, hX⟩ := hv
  have hx := B.exec
  have hb := B.bytes
  have hr := B.returns
  have hts := atoms_spec (ws := wsX6_at) B.pre
  have hown : s.vm.findClass RX6 = some m.cls := findClass_of_methodNamed B.named
  have hlocks := B.notSynchronized
  have hS : va_S (cA a) s.heap s.heap [] := va_S.rf
  have hinX6 : ∀ w ∈ wsX60, w ∈ wsX6_at := fun _ h => List.mem_cons_of_mem _ (List.mem_append_right _ h)
  have hl := lv_entry ([.ref (a 7), .int k]) (n := 2) (Nat.le_of_ble_eq_true rfl)
  rw [lg_entry_eq]
  generalize (lg_sl ([.ref (a 7), .int k]) ++ List.replicate (2 - (lg_sl ([.ref (a 7), .int k])).length) Slot.unset).toArray = ls at hl ⊢
  have hl : lv_has ls 2 [(0, .ref (a 7)), (1, .int k)] := hl
  refine lv_iload_n hx hb dX6_at_0 rfl (lv_at hl 1 rfl) ?_
  refine lv_if_lt (tgt := 27) hx hb dX6_at_1 (by decide) (fun c_1 => ?_) (fun c_1 => ?_)
  · have kc_1 := bI_lt rfl L_0 c_1
    refine lv_iconst (v := (-1)) hx hb dX6_at_27 (by decide) ?_
    exact W.iret (v := (-1)) hx hb hr (fun t ht hW => ⟨⟨(-1), (σ, φ, γ, ψ), rfl, ⟨rfl, rfl, trivial⟩, (by show va_P _ _ _ _; rw [ht]; exact hP)⟩, hS.F ht⟩) hS.2.2 dX6_at_28
  · have kc_1 := bI_nlt rfl L_0 c_1
    refine lv_iload_n hx hb dX6_at_4 rfl (lv_at hl 1 rfl) ?_
    refine lv_aload_n hx hb dX6_at_5 rfl (lv_at hl 0 rfl) ?_
    refine cg_7_2 (v := (σ 7)) hx hb hts hinX6 hown hK hP (hts (.fieldLink RX6 18 "CensusDesk$Signs" "count" "I") (List.mem_of_getElem? (i := 1) rfl)) rfl dX6_at_6 ?_
    refine lv_icmp_ge (tgt := 27) hx hb dX6_at_9 (by decide) (fun c_2 => ?_) (fun c_2 => ?_)
    · have kc_2 := bI_le rfl rfl c_2
      refine lv_iconst (v := (-1)) hx hb dX6_at_27 (by decide) ?_
      exact W.iret (v := (-1)) hx hb hr (fun t ht hW => ⟨⟨(-1), (σ, φ, γ, ψ), rfl, ⟨rfl, rfl, trivial⟩, (by show va_P _ _ _ _; rw [ht]; exact hP)⟩, hS.F ht⟩) hS.2.2 dX6_at_28
    · have kc_2 := bI_nle rfl rfl c_2
      refine lv_iload_n hx hb dX6_at_12 rfl (lv_at hl 1 rfl) ?_
      refine lv_bipush (v := 31) hx hb dX6_at_13 (by decide) ?_
      refine lv_icmp_ge (tgt := 27) hx hb dX6_at_15 (by decide) (fun c_3 => ?_) (fun c_3 => ?_)
      · have kc_3 := bI_le L_31 rfl c_3
        refine lv_iconst (v := (-1)) hx hb dX6_at_27 (by decide) ?_
        exact W.iret (v := (-1)) hx hb hr (fun t ht hW => ⟨⟨(-1), (σ, φ, γ, ψ), rfl, ⟨rfl, rfl, trivial⟩, (by show va_P _ _ _ _; rw [ht]; exact hP)⟩, hS.F ht⟩) hS.2.2 dX6_at_28
      · have kc_3 := bI_nle L_31 rfl c_3
        refine lv_aload_n hx hb dX6_at_18 rfl (lv_at hl 0 rfl) ?_
        refine cg_7_0 hx hb hts hinX6 hown hK hP (hts (.fieldLink RX6 11 "CensusDesk$Signs" "signs" "[I") (List.mem_of_getElem? (i := 2) rfl)) dX6_at_19 ?_
        refine lv_iload_n hx hb dX6_at_22 rfl (lv_at hl 1 rfl) ?_
        refine cl_38 (f := (ψ 19)) hx hb hK hP (i := k) (vin rfl (by omega)) rfl dX6_at_23 ?_
        refine lv_topi (fun z_4 ez_4 => ?_)
        refine lv_goto (tgt := 28) hx hb dX6_at_24 (by decide) ?_
        exact W.iret (v := z_4) hx hb hr (fun t ht hW => ⟨⟨z_4, (σ, φ, γ, ψ), rfl, ⟨rfl, rfl, trivial⟩, (by show va_P _ _ _ _; rw [ht]; exact hP)⟩, hS.F ht⟩) hS.2.2 dX6_at_28
set_option maxHeartbeats 4000000 in
set_option maxRecDepth 100000 in
theorem c_X6_placeOf (l : Launch) (dC : Nat → ClassId) (dI : Nat → Nat → Nat) (a : Nat → Nat) (κ : Nat → ClassId) (σ : Nat → Int32) (φ : Nat → Nat → Int32) (γ : Nat → Int32) (ψ : Nat → Nat → Int32) (g1 g2 : Nat) (k : Int32) : Met l yX6_placeOf wsX6_placeOf ({ frames := 0, cells := 0, slots := 0, locals := 0 } : Room) (va_Pc [.ref (a 7), .int k] (cPre dC dI a κ (σ, φ, γ, ψ) g1 g2)) (va_Qi (QI (fun r S F => σ = S ∧ φ = F ∧ True)) (cB dC dI a κ) (cA a)) 0 0 (cA a) := by
  refine Met.ofW (cc := cX6_placeOf) (maxL := 2) (ret := (some .int)) (by decide) rfl ?_
  intro p e s m args below meth c s₁ B hml hv
  obtain ⟨rfl, hP, hK, hI, hN, hX⟩ := hv
  have hx := B.exec
  have hb := B.bytes
  have hr := B.returns
  have hts := atoms_spec (ws := wsX6_placeOf) B.pre
  have hown : s.vm.findClass RX6 = some m.cls := findClass_of_methodNamed B.named
  have hlocks := B.notSynchronized
  have hS : va_S (cA a) s.heap s.heap [] := va_S.rf
  have hinX6 : ∀ w ∈ wsX60, w ∈ wsX6_placeOf := fun _ h => List.mem_cons_of_mem _ (List.mem_append_right _ h)
  have hl := lv_entry ([.ref (a 7), .int k]) (n := 2) (Nat.le_of_ble_eq_true rfl)
  rw [lg_entry_eq]
  generalize (lg_sl ([.ref (a 7), .int k]) ++ List.replicate (2 - (lg_sl ([.ref (a 7), .int k])).length) Slot.unset).toArray = ls at hl ⊢
  have hl : lv_has ls 2 [(0, .ref (a 7)), (1, .int k)] := hl
  refine lv_iload_n hx hb dX6_placeOf_0 rfl (lv_at hl 1 rfl) ?_
  refine lv_if_lt (tgt := 27) hx hb dX6_placeOf_1 (by decide) (fun c_1 => ?_) (fun c_1 => ?_)
  · have kc_1 := bI_lt rfl L_0 c_1
    refine lv_iconst (v := (-1)) hx hb dX6_placeOf_27 (by decide) ?_
    exact W.iret (v := (-1)) hx hb hr (fun t ht hW => ⟨⟨(-1), (σ, φ, γ, ψ), rfl, ⟨rfl, rfl, trivial⟩, (by show va_P _ _ _ _; rw [ht]; exact hP)⟩, hS.F ht⟩) hS.2.2 dX6_placeOf_28
  · have kc_1 := bI_nlt rfl L_0 c_1
    refine lv_iload_n hx hb dX6_placeOf_4 rfl (lv_at hl 1 rfl) ?_
    refine lv_aload_n hx hb dX6_placeOf_5 rfl (lv_at hl 0 rfl) ?_
    refine cg_7_2 (v := (σ 7)) hx hb hts hinX6 hown hK hP (hts (.fieldLink RX6 18 "CensusDesk$Signs" "count" "I") (List.mem_of_getElem? (i := 1) rfl)) rfl dX6_placeOf_6 ?_
    refine lv_icmp_ge (tgt := 27) hx hb dX6_placeOf_9 (by decide) (fun c_2 => ?_) (fun c_2 => ?_)
    · have kc_2 := bI_le rfl rfl c_2
      refine lv_iconst (v := (-1)) hx hb dX6_placeOf_27 (by decide) ?_
      exact W.iret (v := (-1)) hx hb hr (fun t ht hW => ⟨⟨(-1), (σ, φ, γ, ψ), rfl, ⟨rfl, rfl, trivial⟩, (by show va_P _ _ _ _; rw [ht]; exact hP)⟩, hS.F ht⟩) hS.2.2 dX6_placeOf_28
    · have kc_2 := bI_nle rfl rfl c_2
      refine lv_iload_n hx hb dX6_placeOf_12 rfl (lv_at hl 1 rfl) ?_
      refine lv_bipush (v := 31) hx hb dX6_placeOf_13 (by decide) ?_
      refine lv_icmp_ge (tgt := 27) hx hb dX6_placeOf_15 (by decide) (fun c_3 => ?_) (fun c_3 => ?_)
      · have kc_3 := bI_le L_31 rfl c_3
        refine lv_iconst (v := (-1)) hx hb dX6_placeOf_27 (by decide) ?_
        exact W.iret (v := (-1)) hx hb hr (fun t ht hW => ⟨⟨(-1), (σ, φ, γ, ψ), rfl, ⟨rfl, rfl, trivial⟩, (by show va_P _ _ _ _; rw [ht]; exact hP)⟩, hS.F ht⟩) hS.2.2 dX6_placeOf_28
      · have kc_3 := bI_nle L_31 rfl c_3
        refine lv_aload_n hx hb dX6_placeOf_18 rfl (lv_at hl 0 rfl) ?_
        refine cg_7_1 hx hb hts hinX6 hown hK hP (hts (.fieldLink RX6 15 "CensusDesk$Signs" "places" "[I") (List.mem_of_getElem? (i := 2) rfl)) dX6_placeOf_19 ?_
        refine lv_iload_n hx hb dX6_placeOf_22 rfl (lv_at hl 1 rfl) ?_
        refine cl_39 (f := (ψ 20)) hx hb hK hP (i := k) (vin rfl (by omega)) rfl dX6_placeOf_23 ?_
        refine lv_topi (fun z_4 ez_4 => ?_)
        refine lv_goto (tgt := 28) hx hb dX6_placeOf_24 (by decide) ?_
        exact W.iret (v := z_4) hx hb hr (fun t ht hW => ⟨⟨z_4, (σ, φ, γ, ψ), rfl, ⟨rfl, rfl, trivial⟩, (by show va_P _ _ _ _; rw [ht]; exact hP)⟩, hS.F ht⟩) hS.2.2 dX6_placeOf_28
set_option maxHeartbeats 4000000 in
set_option maxRecDepth 100000 in
theorem c_X6_isOfNames (l : Launch) (dC : Nat → ClassId) (dI : Nat → Nat → Nat) (a : Nat → Nat) (κ : Nat → ClassId) (σ : Nat → Int32) (φ : Nat → Nat → Int32) (γ : Nat → Int32) (ψ : Nat → Nat → Int32) (g1 g2 : Nat) (sign : Int32) : Met l yX6_isOfNames wsX6_isOfNames ({ frames := 0, cells := 0, slots := 0, locals := 0 } : Room) (va_Pc [.int sign] (cPre dC dI a κ (σ, φ, γ, ψ) g1 g2)) (va_Qi (QI (fun r S F => σ = S ∧ φ = F ∧ True)) (cB dC dI a κ) (cA a)) 0 0 (cA a) := by
  refine Met.ofW (cc := cX6_isOfNames) (maxL := 1) (ret := (some .boolean)) (by decide) rfl ?_
  intro p e s m args below meth c s₁ B hml hv
  obtain ⟨rfl, hP, hK, hI, hN, hX⟩ := hv
  have hx := B.exec
  have hb := B.bytes
  have hr := B.returns
  have hts := atoms_spec (ws := wsX6_isOfNames) B.pre
  have hown : s.vm.findClass RX6 = some m.cls := findClass_of_methodNamed B.named
  have hlocks := B.notSynchronized
  have hS : va_S (cA a) s.heap s.heap [] := va_S.rf
  have hl := lv_entry ([.int sign]) (n := 1) (Nat.le_of_ble_eq_true rfl)
  rw [lg_entry_eq]
  generalize (lg_sl ([.int sign]) ++ List.replicate (1 - (lg_sl ([.int sign])).length) Slot.unset).toArray = ls at hl ⊢
  have hl : lv_has ls 1 [(0, .int sign)] := hl
  refine lv_iload_n hx hb dX6_isOfNames_0 rfl (lv_at hl 0 rfl) ?_
  refine lv_bipush (v := 97) hx hb dX6_isOfNames_1 (by decide) ?_
  refine lv_icmp_lt (tgt := 12) hx hb dX6_isOfNames_3 (by decide) (fun c_1 => ?_) (fun c_1 => ?_)
  · have kc_1 := bI_lt rfl L_97 c_1
    refine lv_iload_n hx hb dX6_isOfNames_12 rfl (lv_at hl 0 rfl) ?_
    refine lv_bipush (v := 65) hx hb dX6_isOfNames_13 (by decide) ?_
    refine lv_icmp_lt (tgt := 24) hx hb dX6_isOfNames_15 (by decide) (fun c_2 => ?_) (fun c_2 => ?_)
    · have kc_2 := bI_lt rfl L_65 c_2
      refine lv_iload_n hx hb dX6_isOfNames_24 rfl (lv_at hl 0 rfl) ?_
      refine lv_bipush (v := 32) hx hb dX6_isOfNames_25 (by decide) ?_
      refine lv_icmp_eq (tgt := 36) hx hb dX6_isOfNames_27 (by decide) (fun c_3 => ?_) (fun c_3 => ?_)
      · have kc_3 := bI_eq rfl L_32 c_3
        refine lv_iconst (v := 1) hx hb dX6_isOfNames_36 (by decide) ?_
        refine lv_goto (tgt := 41) hx hb dX6_isOfNames_37 (by decide) ?_
        exact W.zret (v := 1) hx hb hr (by first | rfl | decide) (fun t ht hW => ⟨⟨1, (σ, φ, γ, ψ), rfl, ⟨rfl, rfl, trivial⟩, (by show va_P _ _ _ _; rw [ht]; exact hP)⟩, hS.F ht⟩) hS.2.2 dX6_isOfNames_41
      · have kc_3 := bI_ne rfl L_32 c_3
        refine lv_iload_n hx hb dX6_isOfNames_30 rfl (lv_at hl 0 rfl) ?_
        refine lv_bipush (v := 45) hx hb dX6_isOfNames_31 (by decide) ?_
        refine lv_icmp_ne (tgt := 40) hx hb dX6_isOfNames_33 (by decide) (fun c_4 => ?_) (fun c_4 => ?_)
        · have kc_4 := bI_ne rfl L_45 c_4
          refine lv_iconst (v := 0) hx hb dX6_isOfNames_40 (by decide) ?_
          exact W.zret (v := 0) hx hb hr (by first | rfl | decide) (fun t ht hW => ⟨⟨0, (σ, φ, γ, ψ), rfl, ⟨rfl, rfl, trivial⟩, (by show va_P _ _ _ _; rw [ht]; exact hP)⟩, hS.F ht⟩) hS.2.2 dX6_isOfNames_41
        · have kc_4 := bI_eq rfl L_45 c_4
          refine lv_iconst (v := 1) hx hb dX6_isOfNames_36 (by decide) ?_
          refine lv_goto (tgt := 41) hx hb dX6_isOfNames_37 (by decide) ?_
          exact W.zret (v := 1) hx hb hr (by first | rfl | decide) (fun t ht hW => ⟨⟨1, (σ, φ, γ, ψ), rfl, ⟨rfl, rfl, trivial⟩, (by show va_P _ _ _ _; rw [ht]; exact hP)⟩, hS.F ht⟩) hS.2.2 dX6_isOfNames_41
    · have kc_2 := bI_nlt rfl L_65 c_2
      refine lv_iload_n hx hb dX6_isOfNames_18 rfl (lv_at hl 0 rfl) ?_
      refine lv_bipush (v := 90) hx hb dX6_isOfNames_19 (by decide) ?_
      refine lv_icmp_le (tgt := 36) hx hb dX6_isOfNames_21 (by decide) (fun c_5 => ?_) (fun c_5 => ?_)
      · have kc_5 := bI_le rfl L_90 c_5
        refine lv_iconst (v := 1) hx hb dX6_isOfNames_36 (by decide) ?_
        refine lv_goto (tgt := 41) hx hb dX6_isOfNames_37 (by decide) ?_
        exact W.zret (v := 1) hx hb hr (by first | rfl | decide) (fun t ht hW => ⟨⟨1, (σ, φ, γ, ψ), rfl, ⟨rfl, rfl, trivial⟩, (by show va_P _ _ _ _; rw [ht]; exact hP)⟩, hS.F ht⟩) hS.2.2 dX6_isOfNames_41
      · have kc_5 := bI_nle rfl L_90 c_5
        refine lv_iload_n hx hb dX6_isOfNames_24 rfl (lv_at hl 0 rfl) ?_
        refine lv_bipush (v := 32) hx hb dX6_isOfNames_25 (by decide) ?_
        refine lv_icmp_eq (tgt := 36) hx hb dX6_isOfNames_27 (by decide) (fun c_6 => ?_) (fun c_6 => ?_)
        · have kc_6 := bI_eq rfl L_32 c_6
          refine lv_iconst (v := 1) hx hb dX6_isOfNames_36 (by decide) ?_
          refine lv_goto (tgt := 41) hx hb dX6_isOfNames_37 (by decide) ?_
          exact W.zret (v := 1) hx hb hr (by first | rfl | decide) (fun t ht hW => ⟨⟨1, (σ, φ, γ, ψ), rfl, ⟨rfl, rfl, trivial⟩, (by show va_P _ _ _ _; rw [ht]; exact hP)⟩, hS.F ht⟩) hS.2.2 dX6_isOfNames_41
        · have kc_6 := bI_ne rfl L_32 c_6
          refine lv_iload_n hx hb dX6_isOfNames_30 rfl (lv_at hl 0 rfl) ?_
          refine lv_bipush (v := 45) hx hb dX6_isOfNames_31 (by decide) ?_
          refine lv_icmp_ne (tgt := 40) hx hb dX6_isOfNames_33 (by decide) (fun c_7 => ?_) (fun c_7 => ?_)
          · have kc_7 := bI_ne rfl L_45 c_7
            refine lv_iconst (v := 0) hx hb dX6_isOfNames_40 (by decide) ?_
            exact W.zret (v := 0) hx hb hr (by first | rfl | decide) (fun t ht hW => ⟨⟨0, (σ, φ, γ, ψ), rfl, ⟨rfl, rfl, trivial⟩, (by show va_P _ _ _ _; rw [ht]; exact hP)⟩, hS.F ht⟩) hS.2.2 dX6_isOfNames_41
          · have kc_7 := bI_eq rfl L_45 c_7
            refine lv_iconst (v := 1) hx hb dX6_isOfNames_36 (by decide) ?_
            refine lv_goto (tgt := 41) hx hb dX6_isOfNames_37 (by decide) ?_
            exact W.zret (v := 1) hx hb hr (by first | rfl | decide) (fun t ht hW => ⟨⟨1, (σ, φ, γ, ψ), rfl, ⟨rfl, rfl, trivial⟩, (by show va_P _ _ _ _; rw [ht]; exact hP)⟩, hS.F ht⟩) hS.2.2 dX6_isOfNames_41
  · have kc_1 := bI_nlt rfl L_97 c_1
    refine lv_iload_n hx hb dX6_isOfNames_6 rfl (lv_at hl 0 rfl) ?_
    refine lv_bipush (v := 122) hx hb dX6_isOfNames_7 (by decide) ?_
    refine lv_icmp_le (tgt := 36) hx hb dX6_isOfNames_9 (by decide) (fun c_8 => ?_) (fun c_8 => ?_)
    · have kc_8 := bI_le rfl L_122 c_8
      refine lv_iconst (v := 1) hx hb dX6_isOfNames_36 (by decide) ?_
      refine lv_goto (tgt := 41) hx hb dX6_isOfNames_37 (by decide) ?_
      exact W.zret (v := 1) hx hb hr (by first | rfl | decide) (fun t ht hW => ⟨⟨1, (σ, φ, γ, ψ), rfl, ⟨rfl, rfl, trivial⟩, (by show va_P _ _ _ _; rw [ht]; exact hP)⟩, hS.F ht⟩) hS.2.2 dX6_isOfNames_41
    · have kc_8 := bI_nle rfl L_122 c_8
      refine lv_iload_n hx hb dX6_isOfNames_12 rfl (lv_at hl 0 rfl) ?_
      refine lv_bipush (v := 65) hx hb dX6_isOfNames_13 (by decide) ?_
      refine lv_icmp_lt (tgt := 24) hx hb dX6_isOfNames_15 (by decide) (fun c_9 => ?_) (fun c_9 => ?_)
      · have kc_9 := bI_lt rfl L_65 c_9
        refine lv_iload_n hx hb dX6_isOfNames_24 rfl (lv_at hl 0 rfl) ?_
        refine lv_bipush (v := 32) hx hb dX6_isOfNames_25 (by decide) ?_
        refine lv_icmp_eq (tgt := 36) hx hb dX6_isOfNames_27 (by decide) (fun c_10 => ?_) (fun c_10 => ?_)
        · have kc_10 := bI_eq rfl L_32 c_10
          refine lv_iconst (v := 1) hx hb dX6_isOfNames_36 (by decide) ?_
          refine lv_goto (tgt := 41) hx hb dX6_isOfNames_37 (by decide) ?_
          exact W.zret (v := 1) hx hb hr (by first | rfl | decide) (fun t ht hW => ⟨⟨1, (σ, φ, γ, ψ), rfl, ⟨rfl, rfl, trivial⟩, (by show va_P _ _ _ _; rw [ht]; exact hP)⟩, hS.F ht⟩) hS.2.2 dX6_isOfNames_41
        · have kc_10 := bI_ne rfl L_32 c_10
          refine lv_iload_n hx hb dX6_isOfNames_30 rfl (lv_at hl 0 rfl) ?_
          refine lv_bipush (v := 45) hx hb dX6_isOfNames_31 (by decide) ?_
          refine lv_icmp_ne (tgt := 40) hx hb dX6_isOfNames_33 (by decide) (fun c_11 => ?_) (fun c_11 => ?_)
          · have kc_11 := bI_ne rfl L_45 c_11
            refine lv_iconst (v := 0) hx hb dX6_isOfNames_40 (by decide) ?_
            exact W.zret (v := 0) hx hb hr (by first | rfl | decide) (fun t ht hW => ⟨⟨0, (σ, φ, γ, ψ), rfl, ⟨rfl, rfl, trivial⟩, (by show va_P _ _ _ _; rw [ht]; exact hP)⟩, hS.F ht⟩) hS.2.2 dX6_isOfNames_41
          · have kc_11 := bI_eq rfl L_45 c_11
            refine lv_iconst (v := 1) hx hb dX6_isOfNames_36 (by decide) ?_
            refine lv_goto (tgt := 41) hx hb dX6_isOfNames_37 (by decide) ?_
            exact W.zret (v := 1) hx hb hr (by first | rfl | decide) (fun t ht hW => ⟨⟨1, (σ, φ, γ, ψ), rfl, ⟨rfl, rfl, trivial⟩, (by show va_P _ _ _ _; rw [ht]; exact hP)⟩, hS.F ht⟩) hS.2.2 dX6_isOfNames_41
      · have kc_9 := bI_nlt rfl L_65 c_9
        refine lv_iload_n hx hb dX6_isOfNames_18 rfl (lv_at hl 0 rfl) ?_
        refine lv_bipush (v := 90) hx hb dX6_isOfNames_19 (by decide) ?_
        refine lv_icmp_le (tgt := 36) hx hb dX6_isOfNames_21 (by decide) (fun c_12 => ?_) (fun c_12 => ?_)
        · have kc_12 := bI_le rfl L_90 c_12
          refine lv_iconst (v := 1) hx hb dX6_isOfNames_36 (by decide) ?_
          refine lv_goto (tgt := 41) hx hb dX6_isOfNames_37 (by decide) ?_
          exact W.zret (v := 1) hx hb hr (by first | rfl | decide) (fun t ht hW => ⟨⟨1, (σ, φ, γ, ψ), rfl, ⟨rfl, rfl, trivial⟩, (by show va_P _ _ _ _; rw [ht]; exact hP)⟩, hS.F ht⟩) hS.2.2 dX6_isOfNames_41
        · have kc_12 := bI_nle rfl L_90 c_12
          refine lv_iload_n hx hb dX6_isOfNames_24 rfl (lv_at hl 0 rfl) ?_
          refine lv_bipush (v := 32) hx hb dX6_isOfNames_25 (by decide) ?_
          refine lv_icmp_eq (tgt := 36) hx hb dX6_isOfNames_27 (by decide) (fun c_13 => ?_) (fun c_13 => ?_)
          · have kc_13 := bI_eq rfl L_32 c_13
            refine lv_iconst (v := 1) hx hb dX6_isOfNames_36 (by decide) ?_
            refine lv_goto (tgt := 41) hx hb dX6_isOfNames_37 (by decide) ?_
            exact W.zret (v := 1) hx hb hr (by first | rfl | decide) (fun t ht hW => ⟨⟨1, (σ, φ, γ, ψ), rfl, ⟨rfl, rfl, trivial⟩, (by show va_P _ _ _ _; rw [ht]; exact hP)⟩, hS.F ht⟩) hS.2.2 dX6_isOfNames_41
          · have kc_13 := bI_ne rfl L_32 c_13
            refine lv_iload_n hx hb dX6_isOfNames_30 rfl (lv_at hl 0 rfl) ?_
            refine lv_bipush (v := 45) hx hb dX6_isOfNames_31 (by decide) ?_
            refine lv_icmp_ne (tgt := 40) hx hb dX6_isOfNames_33 (by decide) (fun c_14 => ?_) (fun c_14 => ?_)
            · have kc_14 := bI_ne rfl L_45 c_14
              refine lv_iconst (v := 0) hx hb dX6_isOfNames_40 (by decide) ?_
              exact W.zret (v := 0) hx hb hr (by first | rfl | decide) (fun t ht hW => ⟨⟨0, (σ, φ, γ, ψ), rfl, ⟨rfl, rfl, trivial⟩, (by show va_P _ _ _ _; rw [ht]; exact hP)⟩, hS.F ht⟩) hS.2.2 dX6_isOfNames_41
            · have kc_14 := bI_eq rfl L_45 c_14
              refine lv_iconst (v := 1) hx hb dX6_isOfNames_36 (by decide) ?_
              refine lv_goto (tgt := 41) hx hb dX6_isOfNames_37 (by decide) ?_
              exact W.zret (v := 1) hx hb hr (by first | rfl | decide) (fun t ht hW => ⟨⟨1, (σ, φ, γ, ψ), rfl, ⟨rfl, rfl, trivial⟩, (by show va_P _ _ _ _; rw [ht]; exact hP)⟩, hS.F ht⟩) hS.2.2 dX6_isOfNames_41
set_option maxHeartbeats 4000000 in
set_option maxRecDepth 100000 in
theorem c_X6_mostOf (l : Launch) (dC : Nat → ClassId) (dI : Nat → Nat → Nat) (a : Nat → Nat) (κ : Nat → ClassId) (σ : Nat → Int32) (φ : Nat → Nat → Int32) (γ : Nat → Int32) (ψ : Nat → Nat → Int32) (g1 g2 : Nat) (field : Int32) : Met l yX6_mostOf wsX6_mostOf ({ frames := 0, cells := 0, slots := 0, locals := 0 } : Room) (va_Pc [.int field] (cPre dC dI a κ (σ, φ, γ, ψ) g1 g2)) (va_Qi (QI (fun r S F => σ = S ∧ φ = F ∧ True)) (cB dC dI a κ) (cA a)) 0 0 (cA a) := by
  refine Met.ofW (cc := cX6_mostOf) (maxL := 1) (ret := (some .int)) (by decide) rfl ?_
  intro p e s m args below meth c s₁ B hml hv
  obtain ⟨rfl, hP, hK, hI, hN, hX⟩ := hv
  have hx := B.exec
  have hb := B.bytes
  have hr := B.returns
  have hts := atoms_spec (ws := wsX6_mostOf) B.pre
  have hown : s.vm.findClass RX6 = some m.cls := findClass_of_methodNamed B.named
  have hlocks := B.notSynchronized
  have hS : va_S (cA a) s.heap s.heap [] := va_S.rf
  have hl := lv_entry ([.int field]) (n := 1) (Nat.le_of_ble_eq_true rfl)
  rw [lg_entry_eq]
  generalize (lg_sl ([.int field]) ++ List.replicate (1 - (lg_sl ([.int field])).length) Slot.unset).toArray = ls at hl ⊢
  have hl : lv_has ls 1 [(0, .int field)] := hl
  refine lv_iload_n hx hb dX6_mostOf_0 rfl (lv_at hl 0 rfl) ?_
  refine lv_iconst (v := 4) hx hb dX6_mostOf_1 (by decide) ?_
  refine lv_icmp_ne (tgt := 9) hx hb dX6_mostOf_2 (by decide) (fun c_1 => ?_) (fun c_1 => ?_)
  · have kc_1 := bI_ne rfl L_4 c_1
    refine lv_iload_n hx hb dX6_mostOf_9 rfl (lv_at hl 0 rfl) ?_
    refine lv_iconst (v := 5) hx hb dX6_mostOf_10 (by decide) ?_
    refine lv_icmp_ne (tgt := 19) hx hb dX6_mostOf_11 (by decide) (fun c_2 => ?_) (fun c_2 => ?_)
    · have kc_2 := bI_ne rfl L_5 c_2
      refine lv_bipush (v := 120) hx hb dX6_mostOf_19 (by decide) ?_
      exact W.iret (v := 120) hx hb hr (fun t ht hW => ⟨⟨120, (σ, φ, γ, ψ), rfl, ⟨rfl, rfl, trivial⟩, (by show va_P _ _ _ _; rw [ht]; exact hP)⟩, hS.F ht⟩) hS.2.2 dX6_mostOf_21
    · have kc_2 := bI_eq rfl L_5 c_2
      refine lv_bipush (v := 99) hx hb dX6_mostOf_14 (by decide) ?_
      refine lv_goto (tgt := 21) hx hb dX6_mostOf_16 (by decide) ?_
      exact W.iret (v := 99) hx hb hr (fun t ht hW => ⟨⟨99, (σ, φ, γ, ψ), rfl, ⟨rfl, rfl, trivial⟩, (by show va_P _ _ _ _; rw [ht]; exact hP)⟩, hS.F ht⟩) hS.2.2 dX6_mostOf_21
  · have kc_1 := bI_eq rfl L_4 c_1
    refine lv_sipush (v := 9999) hx hb dX6_mostOf_5 (by decide) ?_
    exact W.iret (v := 9999) hx hb hr (fun t ht hW => ⟨⟨9999, (σ, φ, γ, ψ), rfl, ⟨rfl, rfl, trivial⟩, (by show va_P _ _ _ _; rw [ht]; exact hP)⟩, hS.F ht⟩) hS.2.2 dX6_mostOf_8
set_option maxHeartbeats 4000000 in
set_option maxRecDepth 100000 in
theorem c_X6_firstBadOfName (l : Launch) (dC : Nat → ClassId) (dI : Nat → Nat → Nat) (a : Nat → Nat) (κ : Nat → ClassId) (σ : Nat → Int32) (φ : Nat → Nat → Int32) (γ : Nat → Int32) (ψ : Nat → Nat → Int32) (g1 g2 : Nat)  : Met l yX6_firstBadOfName wsX6_firstBadOfName ({ frames := 1, cells := 0, slots := 0, locals := 21 } : Room) (va_Pc [.ref (a 7)] (cPre dC dI a κ (σ, φ, γ, ψ) g1 g2)) (va_Qi (QI (fun r S F => σ = S ∧ φ = F ∧ True)) (cB dC dI a κ) (cA a)) 0 0 (cA a) := by
  refine Met.ofW (cc := cX6_firstBadOfName) (maxL := 2) (ret := (some .int)) (by decide) rfl ?_
  intro p e s m args below meth c s₁ B hml hv
  obtain ⟨rfl, hP, hK, hI, hN, hX⟩ := hv
  have hx := B.exec
  have hb := B.bytes
  have hr := B.returns
  have hts := atoms_spec (ws := wsX6_firstBadOfName) B.pre
  have hown : s.vm.findClass RX6 = some m.cls := findClass_of_methodNamed B.named
  have hlocks := B.notSynchronized
  have hS : va_S (cA a) s.heap s.heap [] := va_S.rf
  have hinX6 : ∀ w ∈ wsX60, w ∈ wsX6_firstBadOfName := fun _ h => List.mem_cons_of_mem _ (List.mem_append_right _ h)
  have hl := lv_entry ([.ref (a 7)]) (n := 2) (Nat.le_of_ble_eq_true rfl)
  rw [lg_entry_eq]
  generalize (lg_sl ([.ref (a 7)]) ++ List.replicate (2 - (lg_sl ([.ref (a 7)])).length) Slot.unset).toArray = ls at hl ⊢
  have hl : lv_has ls 2 [(0, .ref (a 7))] := hl
  refine k_gen (fun QQ eQ => ?_)
  have J2 : ∀ (n2 : Nat), ∀ (k : Int32) (γ : Nat → Int32) (ψ : Nat → Nat → Int32) (H : Heap) (locs : List Loc) (ls : Array Slot), (0 ≤ (Int32.toInt k)) → (((Int32.toInt (σ 7)) - (Int32.toInt k)).toNat < n2) → va_P (dC, dI) vwCl (cw a κ (σ, φ, γ, ψ)) H → va_S (cA a) s.heap H locs → lv_has ls 2 [(0, .ref (a 7)), (1, .int k)] → W p l e ({ frames := 1, cells := 0, slots := 0, locals := 21 } : Room) s m ([.ref (a 7)] : List Value).toArray below meth c H locs 0 0 QQ (F0 m 2 ls []) := by
    intro n2
    induction n2 with
    | zero =>
      intro k γ ψ H locs ls v0 hm
      exact absurd hm (Nat.not_lt_zero _)
    | succ n2 ih2 =>
      intro k γ ψ H locs ls v0 hm hP hS hl
      refine lv_iload_n hx hb dX6_firstBadOfName_2 rfl (lv_at hl 1 rfl) ?_
      refine lv_aload_n hx hb dX6_firstBadOfName_3 rfl (lv_at hl 0 rfl) ?_
      refine cg_7_2 (v := (σ 7)) hx hb hts hinX6 hown hK hP (hts (.fieldLink RX6 18 "CensusDesk$Signs" "count" "I") (List.mem_of_getElem? (i := 1) rfl)) rfl dX6_firstBadOfName_4 ?_
      refine lv_icmp_ge (tgt := 35) hx hb dX6_firstBadOfName_7 (by decide) (fun c_1 => ?_) (fun c_1 => ?_)
      · have kc_1 := bI_le rfl rfl c_1
        refine lv_iconst (v := (-1)) hx hb dX6_firstBadOfName_35 (by decide) ?_
        subst eQ
        exact W.iret (v := (-1)) hx hb hr (fun t ht hW => ⟨⟨(-1), (σ, φ, γ, ψ), rfl, ⟨rfl, rfl, trivial⟩, (by show va_P _ _ _ _; rw [ht]; exact hP)⟩, hS.F ht⟩) hS.2.2 dX6_firstBadOfName_36
      · have kc_1 := bI_nle rfl rfl c_1
        refine lv_iload_n hx hb dX6_firstBadOfName_10 rfl (lv_at hl 1 rfl) ?_
        refine lv_bipush (v := 30) hx hb dX6_firstBadOfName_11 (by decide) ?_
        refine lv_icmp_ge (tgt := 27) hx hb dX6_firstBadOfName_13 (by decide) (fun c_2 => ?_) (fun c_2 => ?_)
        · have kc_2 := bI_le L_30 rfl c_2
          refine lv_iload_n hx hb dX6_firstBadOfName_27 rfl (lv_at hl 1 rfl) ?_
          subst eQ
          exact W.iret (v := k) hx hb hr (fun t ht hW => ⟨⟨k, (σ, φ, γ, ψ), rfl, ⟨rfl, rfl, trivial⟩, (by show va_P _ _ _ _; rw [ht]; exact hP)⟩, hS.F ht⟩) hS.2.2 dX6_firstBadOfName_28
        · have kc_2 := bI_nle L_30 rfl c_2
          refine lv_aload_n hx hb dX6_firstBadOfName_16 rfl (lv_at hl 0 rfl) ?_
          refine lv_iload_n hx hb dX6_firstBadOfName_17 rfl (lv_at hl 1 rfl) ?_
          refine c_calli (va_runV (As := [.int k]) (rest := []) ⟨hx, hb, hml, hown, hts⟩ (c_X6_at l dC dI a κ σ φ γ ψ g1 g2 k ) (cwV 1 hts gX6_firstBadOfName_X6_at rfl rfl rfl ⟨rfl, hd_X6_at⟩ ⟨Nat.le_of_ble_eq_true rfl, Nat.le_of_ble_eq_true rfl⟩) (cPreV hP hK hI hN hX hS (va_recv hK hP (ci := 6) (q0 := 7) rfl rfl)) rfl rfl hl.1 rfl (lv_room (Nat.le_of_ble_eq_true rfl)) dX6_firstBadOfName_18 ⟨(by decide +kernel), (by decide +kernel)⟩) hS ?_
          clear hP hS; intro r_3 S_3 F_3 γ_3 ψ_3 H locs hw hP hS
          obtain ⟨rfl, rfl, -⟩ := hw
          refine c_calli (va_runS (As := [.int r_3]) (rest := []) ⟨hx, hb, hml, hown, hts⟩ (c_X6_isOfNames l dC dI a κ σ φ γ_3 ψ_3 g1 g2 r_3 ) (va_cwS 1 hts gX6_firstBadOfName_X6_isOfNames rfl rfl rfl hd_X6_isOfNames ⟨Nat.le_of_ble_eq_true rfl, Nat.le_of_ble_eq_true rfl⟩) (cPreS hP hK hI hN hX hS) rfl rfl hl.1 rfl (lv_room (Nat.le_of_ble_eq_true rfl)) dX6_firstBadOfName_21 ⟨(by decide +kernel), (by decide +kernel)⟩) hS ?_
          clear hP hS; intro r_4 S_4 F_4 γ_4 ψ_4 H locs hw hP hS
          obtain ⟨rfl, rfl, -⟩ := hw
          refine lv_if_ne (tgt := 29) hx hb dX6_firstBadOfName_24 (by decide) (fun c_5 => ?_) (fun c_5 => ?_)
          · have kc_5 := bI_ne rfl L_0 c_5
            obtain ⟨i_6, ei_6⟩ : ∃ z : Int32, z = k + 1 := ⟨_, rfl⟩
            refine lv_iinc (v := i_6) (lv' := [(1, .int i_6), (0, .ref (a 7))]) hx hb dX6_firstBadOfName_29 hl (k := 1) rfl (by rw [ei_6]; rfl) (by decide) rfl ?_
            clear hl; intro ls hl
            have ti_6 : (Int32.toInt i_6) = (Int32.toInt k) + 1 := aI_add rfl L_1 ei_6 (by have := rng k; have := rng (σ 7); omega)
            refine lv_goto (tgt := 2) hx hb dX6_firstBadOfName_32 (by decide) ?_
            exact ih2 i_6 γ_4 ψ_4 _ _ _ (show 0 ≤ (Int32.toInt i_6) from (by omega)) (by omega) hP hS (lv_sub hl [1, 0] rfl)
          · have kc_5 := bI_eq rfl L_0 c_5
            refine lv_iload_n hx hb dX6_firstBadOfName_27 rfl (lv_at hl 1 rfl) ?_
            subst eQ
            exact W.iret (v := k) hx hb hr (fun t ht hW => ⟨⟨k, (σ, φ, γ_4, ψ_4), rfl, ⟨rfl, rfl, trivial⟩, (by show va_P _ _ _ _; rw [ht]; exact hP)⟩, hS.F ht⟩) hS.2.2 dX6_firstBadOfName_28
  refine lv_iconst (v := 0) hx hb dX6_firstBadOfName_0 (by decide) ?_
  refine lv_istore_n (lv' := [(1, .int 0), (0, .ref (a 7))]) hx hb dX6_firstBadOfName_1 rfl hl (by decide) rfl ?_
  clear hl; intro ls hl
  exact J2 (_ + 1) 0 γ ψ _ _ _ (show 0 ≤ (Int32.toInt 0) from (by have := L_0; omega)) (Nat.lt_succ_self _) hP hS (lv_sub hl [1, 0] rfl)
