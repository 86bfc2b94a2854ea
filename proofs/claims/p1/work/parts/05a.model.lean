def rk (g : Nat) : Nat := if g = 0 then 0 else if g = 29 then 1 else if 24 ≤ g then 2 else if g = 22 ∨ g = 23 then 3 else if 2 ≤ g ∧ g ≤ 5 then 4 else 3
def gOf (x : Int32) : Int32 := if x ≤ 24 then (if x = 24 then 29 else if x ≤ 21 then (if x ≤ 18 then (if x ≤ 13 then (if x ≤ 8 then (if x = 1 then 24 else if x = 2 then 22 else if x = 3 then 22 else if x = 4 then 23 else if x = 5 then 23 else 25) else 26) else 27) else 28) else 25) else (if x = 29 then 0 else 29)
theorem gOf_rk : ∀ g, g < 30 → 0 < g → ∃ j : Nat, gOf (nI g) = nI j ∧ j < 30 ∧ rk j < rk g := by
  intro g h h0
  have key : ∀ g : Fin 30, 0 < g.val → ∃ j : Fin 30, gOf (nI g.val) = nI j.val ∧ rk j.val < rk g.val := by decide +kernel
  obtain ⟨j, h1, h2⟩ := key ⟨g, h⟩ h0
  exact ⟨j.val, h1, j.isLt, h2⟩
set_option maxHeartbeats 1000000 in
set_option maxRecDepth 100000 in
theorem c_X9_feed (l : Launch) (dC : Nat → ClassId) (dI : Nat → Nat → Nat) (h0 : Nat) (fs : List Value) (h1 : Nat) (k1 : ClassId) (f : Nat → Int32) (wa wb wc wd we : Int32) (sz : Nat) (hl0 : fs.length = 69) (g1 : fs[1]? = some (.int 0)) (g5 : fs[5]? = some (.int 0)) (g0 : fs[0]? = some (.ref h1)) : Met l yX9_feed wsX9_feed ({ frames := 0, cells := 0, slots := 0, locals := 0 }) (va_Pc [.ref h0, .int wa, .int wb, .int wc, .int wd, .int we] (kPre dC dI [(k1, .byte)] [(h0, .inr (9, fs)), (h1, .inl (k1, 4000, .inl f))] sz)) (va_Qi (fun (r : Int32) (_ : Unit) => r = 20) (fun (_ : Unit) (_ : State) => True) (va_A [(h0, .inr (9, fs)), (h1, .inl (k1, 4000, .inl f))] sz)) 0 0 (va_A [(h0, .inr (9, fs)), (h1, .inl (k1, 4000, .inl f))] sz) := by
  refine Met.ofW (cc := cX9_feed) (maxL := 8) (ret := (some .int)) (by decide) rfl ?_
  intro p e s m args below meth c s₁ B hml hv
  obtain ⟨rfl, hsz, hP, hK, hD0, hN⟩ := hv
  have hx := B.exec
  have hb := B.bytes
  have hr := B.returns
  have hts := atoms_spec (ws := wsX9_feed) B.pre
  have hown : s.vm.findClass RX9 = some m.cls := findClass_of_methodNamed B.named
  have hlocks := B.notSynchronized
  subst hsz
  have hD := hD0.self (sz := s.heap.size)
  generalize hAe : va_A [(h0, .inr (9, fs)), (h1, .inl (k1, 4000, .inl f))] s.heap.size = A at hD ⊢
  have hA : ∀ q : Nat, s.heap.size ≤ q → A q := fun q h => by rw [← hAe]; exact Or.inr h
  have hS : va_S A s.heap s.heap [] := va_S.rf
  have hP : va_P (dC, dI) vwCl [(h0, .inr (9, fs)), (h1, .inl (k1, 4000, .inl f))] s.heap := hP
  have hinX9 : ∀ w ∈ wsX90, w ∈ wsX9_feed := fun _ h => List.mem_cons_of_mem _ (List.mem_append_right _ h)
  have hl := lv_entry ([.ref h0, .int wa, .int wb, .int wc, .int wd, .int we]) (n := 8) (Nat.le_of_ble_eq_true rfl)
  rw [lg_entry_eq]
  generalize (lg_sl ([.ref h0, .int wa, .int wb, .int wc, .int wd, .int we]) ++ List.replicate (8 - (lg_sl ([.ref h0, .int wa, .int wb, .int wc, .int wd, .int we])).length) Slot.unset).toArray = ls at hl ⊢
  have hl : lv_has ls 8 [(0, .ref h0), (1, .int wa), (2, .int wb), (3, .int wc), (4, .int wd), (5, .int we)] := hl
  refine k_gen (fun QQ eQ => ?_)
  refine lv_aload_n hx hb dX9_feed_0 rfl (lv_at hl 0 rfl) ?_
  refine va_get (D := (dC, dI)) (ci := 9) (v := .int 0) (C := RX9) (T := TX9) (N := 69) hx hb hts hinX9 hown hK hP 0 rfl rfl 1 (by decide) (hts (.fieldLink RX9 116 "CensusDeskModel" "fed" "I") (List.mem_of_getElem? (i := 1) rfl)) (fun _ h9 => h9) g1 dX9_feed_1 ?_
  refine lv_bipush (v := 20) hx hb dX9_feed_4 (by decide) ?_
  refine lv_iadd hx hb dX9_feed_6 ?_
  refine k_top (v := 20) (by decide) ?_
  refine lv_sipush (v := 4000) hx hb dX9_feed_7 (by decide) ?_
  refine lv_icmp_le (tgt := 15) hx hb dX9_feed_10 (by decide) (fun c_1 => ?_) (fun c_1 => absurd c_1 (by decide))
  refine lv_aload_n hx hb dX9_feed_15 rfl (lv_at hl 0 rfl) ?_
  refine va_get (D := (dC, dI)) (ci := 9) (v := .int 0) (C := RX9) (T := TX9) (N := 69) hx hb hts hinX9 hown hK hP 0 rfl rfl 5 (by decide) (hts (.fieldLink RX9 120 "CensusDeskModel" "isHeld" "Z") (List.mem_of_getElem? (i := 2) rfl)) (fun _ h9 => h9) g5 dX9_feed_16 ?_
  refine lv_if_eq (tgt := 25) hx hb dX9_feed_19 (by decide) (fun c_2 => ?_) (fun c_2 => absurd c_2 (by decide))
  refine lv_iconst (v := 0) hx hb dX9_feed_25 (by decide) ?_
  refine lv_istore (lv' := [(6, .int 0), (0, .ref h0), (1, .int wa), (2, .int wb), (3, .int wc), (4, .int wd), (5, .int we)]) hx hb dX9_feed_26 hl (by decide) rfl (fun ls hl => ?_)
  have loop28 : ∀ (n28 : Nat) (k : Nat) (fs : List Value) (f : Nat → Int32) (H : Heap) (locs : List Loc) (ls : Array Slot), (k ≤ 20) → (fs.length = 69) → (fs[1]? = some (.int (nI k))) → (fs[0]? = some (.ref h1)) → 20 - k < n28 → va_P (dC, dI) vwCl [(h0, .inr (9, fs)), (h1, .inl (k1, 4000, .inl f))] H → va_D A [(h0, .inr (9, fs)), (h1, .inl (k1, 4000, .inl f))] → va_S A s.heap H locs → lv_has ls 8 [(6, .int (nI k)), (0, .ref h0), (1, .int wa), (2, .int wb), (3, .int wc), (4, .int wd), (5, .int we)] → W p l e ({ frames := 0, cells := 0, slots := 0, locals := 0 } : Room) s m ([.ref h0, .int wa, .int wb, .int wc, .int wd, .int we] : List Value).toArray below meth c H locs 0 0 QQ (F0 m 28 ls []) := by
    intro n28
    induction n28 with
    | zero =>
      intro k fs f H locs ls hk hlk gk gt hm
      exact absurd hm (Nat.not_lt_zero _)
    | succ n28 ih28 =>
      intro k fs f H locs ls hk hlk gk gt hm hP hD hS hl
      refine lv_iload hx hb dX9_feed_28 (lv_at hl 0 rfl) ?_
      refine lv_bipush (v := 20) hx hb dX9_feed_30 (by decide) ?_
      refine lv_icmp_ge (tgt := 122) hx hb dX9_feed_32 (by decide) (fun c_3 => ?_) (fun c_3 => ?_)
      · have hk3 : k = 20 := by rcases Nat.lt_or_ge k 20 with q | q; exact absurd c_3 (nI_ge (a := k) (b := 20) q (by decide)); omega
        refine lv_aload_n hx hb dX9_feed_122 rfl (lv_at hl 1 rfl) ?_
        refine va_get (D := (dC, dI)) (ci := 9) (v := .int (nI k)) (C := RX9) (T := TX9) (N := 69) hx hb hts hinX9 hown hK hP 0 rfl rfl 1 (by decide) (hts (.fieldLink RX9 116 "CensusDeskModel" "fed" "I") (List.mem_of_getElem? (i := 1) rfl)) (fun _ h9 => h9) gk dX9_feed_123 ?_
        subst eQ
        exact W.iret (v := (nI k)) hx hb hr (fun t ht hW => ⟨⟨(nI k), (), rfl, (by rw [hk3]; decide), trivial⟩, hS.F ht⟩) hS.2.2 dX9_feed_126
      · have hk3 : k < 20 := by rcases Nat.lt_or_ge k 20 with q | q; exact q; exact absurd (nI_le (a := 20) (b := k) q (by omega)) c_3
        refine lv_iload hx hb dX9_feed_35 (lv_at hl 0 rfl) ?_
        refine lv_iconst (v := 4) hx hb dX9_feed_37 (by decide) ?_
        refine lv_icmp_ge (tgt := 45) hx hb dX9_feed_38 (by decide) (fun c_4 => ?_) (fun c_4 => ?_)
        · refine lv_iload hx hb dX9_feed_45 (lv_at hl 0 rfl) ?_
          refine lv_bipush (v := 8) hx hb dX9_feed_47 (by decide) ?_
          refine lv_icmp_ge (tgt := 56) hx hb dX9_feed_49 (by decide) (fun c_5 => ?_) (fun c_5 => ?_)
          · refine lv_iload hx hb dX9_feed_56 (lv_at hl 0 rfl) ?_
            refine lv_bipush (v := 12) hx hb dX9_feed_58 (by decide) ?_
            refine lv_icmp_ge (tgt := 67) hx hb dX9_feed_60 (by decide) (fun c_6 => ?_) (fun c_6 => ?_)
            · refine lv_iload hx hb dX9_feed_67 (lv_at hl 0 rfl) ?_
              refine lv_bipush (v := 16) hx hb dX9_feed_69 (by decide) ?_
              refine lv_icmp_ge (tgt := 79) hx hb dX9_feed_71 (by decide) (fun c_7 => ?_) (fun c_7 => ?_)
              · refine lv_iload hx hb dX9_feed_79 (lv_at hl 6 rfl) ?_
                refine lv_istore (lv' := [(7, .int we), (6, .int (nI k)), (0, .ref h0), (1, .int wa), (2, .int wb), (3, .int wc), (4, .int wd), (5, .int we)]) hx hb dX9_feed_81 hl (by decide) rfl (fun ls hl => ?_)
                refine lv_aload_n hx hb dX9_feed_83 rfl (lv_at hl 2 rfl) ?_
                refine va_get (D := (dC, dI)) (ci := 9) (v := .ref h1) (C := RX9) (T := TX9) (N := 69) hx hb hts hinX9 hown hK hP 0 rfl rfl 0 (by decide) (hts (.fieldLink RX9 9 "CensusDeskModel" "tape" "[B") (List.mem_of_getElem? (i := 3) rfl)) (fun _ h9 => h9) gt dX9_feed_84 ?_
                refine lv_aload_n hx hb dX9_feed_87 rfl (lv_at hl 2 rfl) ?_
                refine va_get (D := (dC, dI)) (ci := 9) (v := .int (nI k)) (C := RX9) (T := TX9) (N := 69) hx hb hts hinX9 hown hK hP 0 rfl rfl 1 (by decide) (hts (.fieldLink RX9 116 "CensusDeskModel" "fed" "I") (List.mem_of_getElem? (i := 1) rfl)) (fun _ h9 => h9) gk dX9_feed_88 ?_
                refine lv_iload hx hb dX9_feed_91 (lv_at hl 0 rfl) ?_
                refine lv_bipush (v := 24) hx hb dX9_feed_93 (by decide) ?_
                refine lv_bipush (v := 8) hx hb dX9_feed_95 (by decide) ?_
                refine lv_iload hx hb dX9_feed_97 (lv_at hl 1 rfl) ?_
                refine lv_iconst (v := 4) hx hb dX9_feed_99 (by decide) ?_
                refine lv_irem hx hb dX9_feed_100 (by decide) ?_
                refine lv_imul hx hb dX9_feed_101 ?_
                refine lv_isub hx hb dX9_feed_102 ?_
                refine lv_ishr hx hb dX9_feed_103 ?_
                obtain ⟨z_8, ez_8⟩ : ∃ z : Int32, (Int32.toInt8 (we >>> ((24 - (8 * ((nI k) - (nI k) / 4 * 4))) &&& 31))).toInt32 = z := ⟨_, rfl⟩
                refine lv_i2b (v := z_8) hx hb dX9_feed_104 ez_8 ?_
                refine va_bast hx hb hK hP hD hS 1 0 rfl rfl (i := (nI k)) (x := z_8) (vp_in_nI (by omega) (by decide)) dX9_feed_105 (fun H locs hP hD hS => ?_)
                obtain ⟨f_9, ef_9⟩ : ∃ z : Nat → Int32, z = upd f (Int32.toNatClampNeg (nI k)) (vp_nar .byte z_8) := ⟨_, rfl⟩
                rw [← ef_9] at hP hD
                have hP : va_P (dC, dI) vwCl [(h0, .inr (9, fs)), (h1, .inl (k1, 4000, .inl f_9))] H := hP
                have hD : va_D A [(h0, .inr (9, fs)), (h1, .inl (k1, 4000, .inl f_9))] := hD
                refine lv_aload_n hx hb dX9_feed_106 rfl (lv_at hl 2 rfl) ?_
                refine lv_dup hx hb dX9_feed_107 rfl ?_
                refine va_get (D := (dC, dI)) (ci := 9) (v := .int (nI k)) (C := RX9) (T := TX9) (N := 69) hx hb hts hinX9 hown hK hP 0 rfl rfl 1 (by decide) (hts (.fieldLink RX9 116 "CensusDeskModel" "fed" "I") (List.mem_of_getElem? (i := 1) rfl)) (fun _ h9 => h9) gk dX9_feed_108 ?_
                refine lv_iconst (v := 1) hx hb dX9_feed_111 (by decide) ?_
                refine lv_iadd hx hb dX9_feed_112 ?_
                refine k_top (v := (nI (k + 1))) (nI_1 k) ?_
                refine va_put (D := (dC, dI)) (ci := 9) (v := .int (nI (k + 1))) (ty := .int) (C := RX9) (T := TX9) (N := 69) hx hb hts hinX9 tyX9 tyX9_ok nmX9 hown hK hP hD hS 0 rfl rfl 1 (by decide) (hts (.fieldLink RX9 116 "CensusDeskModel" "fed" "I") (List.mem_of_getElem? (i := 1) rfl)) (fun _ h9 => h9) rfl (by decide +kernel) rfl rfl (by rw [hlk]; decide) dX9_feed_113 (fun H locs hP hD hS => ?_)
                obtain ⟨fs_10, efs_10⟩ : ∃ z : List Value, z = List.set fs 1 (.int (nI (k + 1))) := ⟨_, rfl⟩
                rw [← efs_10] at hP hD
                have lfs_10 : fs_10.length = 69 := by rw [efs_10, List.length_set]; exact hlk
                have gfs_10_0 : fs_10[0]? = some (.ref h1) := by rw [efs_10, List.getElem?_set_ne (show (1 : Nat) ≠ 0 by decide)]; exact gt
                have gfs_10_1 : fs_10[1]? = some (.int (nI (k + 1))) := by rw [efs_10]; exact List.getElem?_set_self (by rw [hlk]; decide)
                have hP : va_P (dC, dI) vwCl [(h0, .inr (9, fs_10)), (h1, .inl (k1, 4000, .inl f_9))] H := hP
                have hD : va_D A [(h0, .inr (9, fs_10)), (h1, .inl (k1, 4000, .inl f_9))] := hD
                refine lv_iinc (v := (nI (k + 1))) (lv' := [(6, .int (nI (k + 1))), (7, .int we), (0, .ref h0), (1, .int wa), (2, .int wb), (3, .int wc), (4, .int wd), (5, .int we)]) hx hb dX9_feed_116 hl (k := 1) rfl (nI_1 k) (by decide) rfl (fun ls hl => ?_)
                refine lv_goto (tgt := 28) hx hb dX9_feed_119 (by decide) ?_
                exact ih28 (k + 1) (fs_10) (f_9) _ _ _ (by omega) lfs_10 gfs_10_1 gfs_10_0 (by omega) (hP.sub [0, 1] rfl) (hD.sub [0, 1] (by decide) rfl) hS (lv_sub hl [0, 2, 3, 4, 5, 6, 7] rfl)
              · refine lv_iload hx hb dX9_feed_74 (lv_at hl 5 rfl) ?_
                refine lv_goto (tgt := 81) hx hb dX9_feed_76 (by decide) ?_
                refine lv_istore (lv' := [(7, .int wd), (6, .int (nI k)), (0, .ref h0), (1, .int wa), (2, .int wb), (3, .int wc), (4, .int wd), (5, .int we)]) hx hb dX9_feed_81 hl (by decide) rfl (fun ls hl => ?_)
                refine lv_aload_n hx hb dX9_feed_83 rfl (lv_at hl 2 rfl) ?_
                refine va_get (D := (dC, dI)) (ci := 9) (v := .ref h1) (C := RX9) (T := TX9) (N := 69) hx hb hts hinX9 hown hK hP 0 rfl rfl 0 (by decide) (hts (.fieldLink RX9 9 "CensusDeskModel" "tape" "[B") (List.mem_of_getElem? (i := 3) rfl)) (fun _ h9 => h9) gt dX9_feed_84 ?_
                refine lv_aload_n hx hb dX9_feed_87 rfl (lv_at hl 2 rfl) ?_
                refine va_get (D := (dC, dI)) (ci := 9) (v := .int (nI k)) (C := RX9) (T := TX9) (N := 69) hx hb hts hinX9 hown hK hP 0 rfl rfl 1 (by decide) (hts (.fieldLink RX9 116 "CensusDeskModel" "fed" "I") (List.mem_of_getElem? (i := 1) rfl)) (fun _ h9 => h9) gk dX9_feed_88 ?_
                refine lv_iload hx hb dX9_feed_91 (lv_at hl 0 rfl) ?_
                refine lv_bipush (v := 24) hx hb dX9_feed_93 (by decide) ?_
                refine lv_bipush (v := 8) hx hb dX9_feed_95 (by decide) ?_
                refine lv_iload hx hb dX9_feed_97 (lv_at hl 1 rfl) ?_
                refine lv_iconst (v := 4) hx hb dX9_feed_99 (by decide) ?_
                refine lv_irem hx hb dX9_feed_100 (by decide) ?_
                refine lv_imul hx hb dX9_feed_101 ?_
                refine lv_isub hx hb dX9_feed_102 ?_
                refine lv_ishr hx hb dX9_feed_103 ?_
                obtain ⟨z_11, ez_11⟩ : ∃ z : Int32, (Int32.toInt8 (wd >>> ((24 - (8 * ((nI k) - (nI k) / 4 * 4))) &&& 31))).toInt32 = z := ⟨_, rfl⟩
                refine lv_i2b (v := z_11) hx hb dX9_feed_104 ez_11 ?_
                refine va_bast hx hb hK hP hD hS 1 0 rfl rfl (i := (nI k)) (x := z_11) (vp_in_nI (by omega) (by decide)) dX9_feed_105 (fun H locs hP hD hS => ?_)
                obtain ⟨f_12, ef_12⟩ : ∃ z : Nat → Int32, z = upd f (Int32.toNatClampNeg (nI k)) (vp_nar .byte z_11) := ⟨_, rfl⟩
                rw [← ef_12] at hP hD
                have hP : va_P (dC, dI) vwCl [(h0, .inr (9, fs)), (h1, .inl (k1, 4000, .inl f_12))] H := hP
                have hD : va_D A [(h0, .inr (9, fs)), (h1, .inl (k1, 4000, .inl f_12))] := hD
                refine lv_aload_n hx hb dX9_feed_106 rfl (lv_at hl 2 rfl) ?_
                refine lv_dup hx hb dX9_feed_107 rfl ?_
                refine va_get (D := (dC, dI)) (ci := 9) (v := .int (nI k)) (C := RX9) (T := TX9) (N := 69) hx hb hts hinX9 hown hK hP 0 rfl rfl 1 (by decide) (hts (.fieldLink RX9 116 "CensusDeskModel" "fed" "I") (List.mem_of_getElem? (i := 1) rfl)) (fun _ h9 => h9) gk dX9_feed_108 ?_
                refine lv_iconst (v := 1) hx hb dX9_feed_111 (by decide) ?_
                refine lv_iadd hx hb dX9_feed_112 ?_
                refine k_top (v := (nI (k + 1))) (nI_1 k) ?_
                refine va_put (D := (dC, dI)) (ci := 9) (v := .int (nI (k + 1))) (ty := .int) (C := RX9) (T := TX9) (N := 69) hx hb hts hinX9 tyX9 tyX9_ok nmX9 hown hK hP hD hS 0 rfl rfl 1 (by decide) (hts (.fieldLink RX9 116 "CensusDeskModel" "fed" "I") (List.mem_of_getElem? (i := 1) rfl)) (fun _ h9 => h9) rfl (by decide +kernel) rfl rfl (by rw [hlk]; decide) dX9_feed_113 (fun H locs hP hD hS => ?_)
                obtain ⟨fs_13, efs_13⟩ : ∃ z : List Value, z = List.set fs 1 (.int (nI (k + 1))) := ⟨_, rfl⟩
                rw [← efs_13] at hP hD
                have lfs_13 : fs_13.length = 69 := by rw [efs_13, List.length_set]; exact hlk
                have gfs_13_0 : fs_13[0]? = some (.ref h1) := by rw [efs_13, List.getElem?_set_ne (show (1 : Nat) ≠ 0 by decide)]; exact gt
                have gfs_13_1 : fs_13[1]? = some (.int (nI (k + 1))) := by rw [efs_13]; exact List.getElem?_set_self (by rw [hlk]; decide)
                have hP : va_P (dC, dI) vwCl [(h0, .inr (9, fs_13)), (h1, .inl (k1, 4000, .inl f_12))] H := hP
                have hD : va_D A [(h0, .inr (9, fs_13)), (h1, .inl (k1, 4000, .inl f_12))] := hD
                refine lv_iinc (v := (nI (k + 1))) (lv' := [(6, .int (nI (k + 1))), (7, .int wd), (0, .ref h0), (1, .int wa), (2, .int wb), (3, .int wc), (4, .int wd), (5, .int we)]) hx hb dX9_feed_116 hl (k := 1) rfl (nI_1 k) (by decide) rfl (fun ls hl => ?_)
                refine lv_goto (tgt := 28) hx hb dX9_feed_119 (by decide) ?_
                exact ih28 (k + 1) (fs_13) (f_12) _ _ _ (by omega) lfs_13 gfs_13_1 gfs_13_0 (by omega) (hP.sub [0, 1] rfl) (hD.sub [0, 1] (by decide) rfl) hS (lv_sub hl [0, 2, 3, 4, 5, 6, 7] rfl)
            · refine lv_iload_n hx hb dX9_feed_63 rfl (lv_at hl 4 rfl) ?_
              refine lv_goto (tgt := 81) hx hb dX9_feed_64 (by decide) ?_
              refine lv_istore (lv' := [(7, .int wc), (6, .int (nI k)), (0, .ref h0), (1, .int wa), (2, .int wb), (3, .int wc), (4, .int wd), (5, .int we)]) hx hb dX9_feed_81 hl (by decide) rfl (fun ls hl => ?_)
              refine lv_aload_n hx hb dX9_feed_83 rfl (lv_at hl 2 rfl) ?_
              refine va_get (D := (dC, dI)) (ci := 9) (v := .ref h1) (C := RX9) (T := TX9) (N := 69) hx hb hts hinX9 hown hK hP 0 rfl rfl 0 (by decide) (hts (.fieldLink RX9 9 "CensusDeskModel" "tape" "[B") (List.mem_of_getElem? (i := 3) rfl)) (fun _ h9 => h9) gt dX9_feed_84 ?_
              refine lv_aload_n hx hb dX9_feed_87 rfl (lv_at hl 2 rfl) ?_
              refine va_get (D := (dC, dI)) (ci := 9) (v := .int (nI k)) (C := RX9) (T := TX9) (N := 69) hx hb hts hinX9 hown hK hP 0 rfl rfl 1 (by decide) (hts (.fieldLink RX9 116 "CensusDeskModel" "fed" "I") (List.mem_of_getElem? (i := 1) rfl)) (fun _ h9 => h9) gk dX9_feed_88 ?_
              refine lv_iload hx hb dX9_feed_91 (lv_at hl 0 rfl) ?_
              refine lv_bipush (v := 24) hx hb dX9_feed_93 (by decide) ?_
              refine lv_bipush (v := 8) hx hb dX9_feed_95 (by decide) ?_
              refine lv_iload hx hb dX9_feed_97 (lv_at hl 1 rfl) ?_
              refine lv_iconst (v := 4) hx hb dX9_feed_99 (by decide) ?_
              refine lv_irem hx hb dX9_feed_100 (by decide) ?_
              refine lv_imul hx hb dX9_feed_101 ?_
              refine lv_isub hx hb dX9_feed_102 ?_
              refine lv_ishr hx hb dX9_feed_103 ?_
              obtain ⟨z_14, ez_14⟩ : ∃ z : Int32, (Int32.toInt8 (wc >>> ((24 - (8 * ((nI k) - (nI k) / 4 * 4))) &&& 31))).toInt32 = z := ⟨_, rfl⟩
              refine lv_i2b (v := z_14) hx hb dX9_feed_104 ez_14 ?_
              refine va_bast hx hb hK hP hD hS 1 0 rfl rfl (i := (nI k)) (x := z_14) (vp_in_nI (by omega) (by decide)) dX9_feed_105 (fun H locs hP hD hS => ?_)
              obtain ⟨f_15, ef_15⟩ : ∃ z : Nat → Int32, z = upd f (Int32.toNatClampNeg (nI k)) (vp_nar .byte z_14) := ⟨_, rfl⟩
              rw [← ef_15] at hP hD
              have hP : va_P (dC, dI) vwCl [(h0, .inr (9, fs)), (h1, .inl (k1, 4000, .inl f_15))] H := hP
              have hD : va_D A [(h0, .inr (9, fs)), (h1, .inl (k1, 4000, .inl f_15))] := hD
              refine lv_aload_n hx hb dX9_feed_106 rfl (lv_at hl 2 rfl) ?_
              refine lv_dup hx hb dX9_feed_107 rfl ?_
              refine va_get (D := (dC, dI)) (ci := 9) (v := .int (nI k)) (C := RX9) (T := TX9) (N := 69) hx hb hts hinX9 hown hK hP 0 rfl rfl 1 (by decide) (hts (.fieldLink RX9 116 "CensusDeskModel" "fed" "I") (List.mem_of_getElem? (i := 1) rfl)) (fun _ h9 => h9) gk dX9_feed_108 ?_
              refine lv_iconst (v := 1) hx hb dX9_feed_111 (by decide) ?_
              refine lv_iadd hx hb dX9_feed_112 ?_
              refine k_top (v := (nI (k + 1))) (nI_1 k) ?_
              refine va_put (D := (dC, dI)) (ci := 9) (v := .int (nI (k + 1))) (ty := .int) (C := RX9) (T := TX9) (N := 69) hx hb hts hinX9 tyX9 tyX9_ok nmX9 hown hK hP hD hS 0 rfl rfl 1 (by decide) (hts (.fieldLink RX9 116 "CensusDeskModel" "fed" "I") (List.mem_of_getElem? (i := 1) rfl)) (fun _ h9 => h9) rfl (by decide +kernel) rfl rfl (by rw [hlk]; decide) dX9_feed_113 (fun H locs hP hD hS => ?_)
              obtain ⟨fs_16, efs_16⟩ : ∃ z : List Value, z = List.set fs 1 (.int (nI (k + 1))) := ⟨_, rfl⟩
              rw [← efs_16] at hP hD
              have lfs_16 : fs_16.length = 69 := by rw [efs_16, List.length_set]; exact hlk
              have gfs_16_0 : fs_16[0]? = some (.ref h1) := by rw [efs_16, List.getElem?_set_ne (show (1 : Nat) ≠ 0 by decide)]; exact gt
              have gfs_16_1 : fs_16[1]? = some (.int (nI (k + 1))) := by rw [efs_16]; exact List.getElem?_set_self (by rw [hlk]; decide)
              have hP : va_P (dC, dI) vwCl [(h0, .inr (9, fs_16)), (h1, .inl (k1, 4000, .inl f_15))] H := hP
              have hD : va_D A [(h0, .inr (9, fs_16)), (h1, .inl (k1, 4000, .inl f_15))] := hD
              refine lv_iinc (v := (nI (k + 1))) (lv' := [(6, .int (nI (k + 1))), (7, .int wc), (0, .ref h0), (1, .int wa), (2, .int wb), (3, .int wc), (4, .int wd), (5, .int we)]) hx hb dX9_feed_116 hl (k := 1) rfl (nI_1 k) (by decide) rfl (fun ls hl => ?_)
              refine lv_goto (tgt := 28) hx hb dX9_feed_119 (by decide) ?_
              exact ih28 (k + 1) (fs_16) (f_15) _ _ _ (by omega) lfs_16 gfs_16_1 gfs_16_0 (by omega) (hP.sub [0, 1] rfl) (hD.sub [0, 1] (by decide) rfl) hS (lv_sub hl [0, 2, 3, 4, 5, 6, 7] rfl)
          · refine lv_iload_n hx hb dX9_feed_52 rfl (lv_at hl 3 rfl) ?_
            refine lv_goto (tgt := 81) hx hb dX9_feed_53 (by decide) ?_
            refine lv_istore (lv' := [(7, .int wb), (6, .int (nI k)), (0, .ref h0), (1, .int wa), (2, .int wb), (3, .int wc), (4, .int wd), (5, .int we)]) hx hb dX9_feed_81 hl (by decide) rfl (fun ls hl => ?_)
            refine lv_aload_n hx hb dX9_feed_83 rfl (lv_at hl 2 rfl) ?_
            refine va_get (D := (dC, dI)) (ci := 9) (v := .ref h1) (C := RX9) (T := TX9) (N := 69) hx hb hts hinX9 hown hK hP 0 rfl rfl 0 (by decide) (hts (.fieldLink RX9 9 "CensusDeskModel" "tape" "[B") (List.mem_of_getElem? (i := 3) rfl)) (fun _ h9 => h9) gt dX9_feed_84 ?_
            refine lv_aload_n hx hb dX9_feed_87 rfl (lv_at hl 2 rfl) ?_
            refine va_get (D := (dC, dI)) (ci := 9) (v := .int (nI k)) (C := RX9) (T := TX9) (N := 69) hx hb hts hinX9 hown hK hP 0 rfl rfl 1 (by decide) (hts (.fieldLink RX9 116 "CensusDeskModel" "fed" "I") (List.mem_of_getElem? (i := 1) rfl)) (fun _ h9 => h9) gk dX9_feed_88 ?_
            refine lv_iload hx hb dX9_feed_91 (lv_at hl 0 rfl) ?_
            refine lv_bipush (v := 24) hx hb dX9_feed_93 (by decide) ?_
            refine lv_bipush (v := 8) hx hb dX9_feed_95 (by decide) ?_
            refine lv_iload hx hb dX9_feed_97 (lv_at hl 1 rfl) ?_
            refine lv_iconst (v := 4) hx hb dX9_feed_99 (by decide) ?_
            refine lv_irem hx hb dX9_feed_100 (by decide) ?_
            refine lv_imul hx hb dX9_feed_101 ?_
            refine lv_isub hx hb dX9_feed_102 ?_
            refine lv_ishr hx hb dX9_feed_103 ?_
            obtain ⟨z_17, ez_17⟩ : ∃ z : Int32, (Int32.toInt8 (wb >>> ((24 - (8 * ((nI k) - (nI k) / 4 * 4))) &&& 31))).toInt32 = z := ⟨_, rfl⟩
            refine lv_i2b (v := z_17) hx hb dX9_feed_104 ez_17 ?_
            refine va_bast hx hb hK hP hD hS 1 0 rfl rfl (i := (nI k)) (x := z_17) (vp_in_nI (by omega) (by decide)) dX9_feed_105 (fun H locs hP hD hS => ?_)
            obtain ⟨f_18, ef_18⟩ : ∃ z : Nat → Int32, z = upd f (Int32.toNatClampNeg (nI k)) (vp_nar .byte z_17) := ⟨_, rfl⟩
            rw [← ef_18] at hP hD
            have hP : va_P (dC, dI) vwCl [(h0, .inr (9, fs)), (h1, .inl (k1, 4000, .inl f_18))] H := hP
            have hD : va_D A [(h0, .inr (9, fs)), (h1, .inl (k1, 4000, .inl f_18))] := hD
            refine lv_aload_n hx hb dX9_feed_106 rfl (lv_at hl 2 rfl) ?_
            refine lv_dup hx hb dX9_feed_107 rfl ?_
            refine va_get (D := (dC, dI)) (ci := 9) (v := .int (nI k)) (C := RX9) (T := TX9) (N := 69) hx hb hts hinX9 hown hK hP 0 rfl rfl 1 (by decide) (hts (.fieldLink RX9 116 "CensusDeskModel" "fed" "I") (List.mem_of_getElem? (i := 1) rfl)) (fun _ h9 => h9) gk dX9_feed_108 ?_
            refine lv_iconst (v := 1) hx hb dX9_feed_111 (by decide) ?_
            refine lv_iadd hx hb dX9_feed_112 ?_
            refine k_top (v := (nI (k + 1))) (nI_1 k) ?_
            refine va_put (D := (dC, dI)) (ci := 9) (v := .int (nI (k + 1))) (ty := .int) (C := RX9) (T := TX9) (N := 69) hx hb hts hinX9 tyX9 tyX9_ok nmX9 hown hK hP hD hS 0 rfl rfl 1 (by decide) (hts (.fieldLink RX9 116 "CensusDeskModel" "fed" "I") (List.mem_of_getElem? (i := 1) rfl)) (fun _ h9 => h9) rfl (by decide +kernel) rfl rfl (by rw [hlk]; decide) dX9_feed_113 (fun H locs hP hD hS => ?_)
            obtain ⟨fs_19, efs_19⟩ : ∃ z : List Value, z = List.set fs 1 (.int (nI (k + 1))) := ⟨_, rfl⟩
            rw [← efs_19] at hP hD
            have lfs_19 : fs_19.length = 69 := by rw [efs_19, List.length_set]; exact hlk
            have gfs_19_0 : fs_19[0]? = some (.ref h1) := by rw [efs_19, List.getElem?_set_ne (show (1 : Nat) ≠ 0 by decide)]; exact gt
            have gfs_19_1 : fs_19[1]? = some (.int (nI (k + 1))) := by rw [efs_19]; exact List.getElem?_set_self (by rw [hlk]; decide)
            have hP : va_P (dC, dI) vwCl [(h0, .inr (9, fs_19)), (h1, .inl (k1, 4000, .inl f_18))] H := hP
            have hD : va_D A [(h0, .inr (9, fs_19)), (h1, .inl (k1, 4000, .inl f_18))] := hD
            refine lv_iinc (v := (nI (k + 1))) (lv' := [(6, .int (nI (k + 1))), (7, .int wb), (0, .ref h0), (1, .int wa), (2, .int wb), (3, .int wc), (4, .int wd), (5, .int we)]) hx hb dX9_feed_116 hl (k := 1) rfl (nI_1 k) (by decide) rfl (fun ls hl => ?_)
            refine lv_goto (tgt := 28) hx hb dX9_feed_119 (by decide) ?_
            exact ih28 (k + 1) (fs_19) (f_18) _ _ _ (by omega) lfs_19 gfs_19_1 gfs_19_0 (by omega) (hP.sub [0, 1] rfl) (hD.sub [0, 1] (by decide) rfl) hS (lv_sub hl [0, 2, 3, 4, 5, 6, 7] rfl)
        · refine lv_iload_n hx hb dX9_feed_41 rfl (lv_at hl 2 rfl) ?_
          refine lv_goto (tgt := 81) hx hb dX9_feed_42 (by decide) ?_
          refine lv_istore (lv' := [(7, .int wa), (6, .int (nI k)), (0, .ref h0), (1, .int wa), (2, .int wb), (3, .int wc), (4, .int wd), (5, .int we)]) hx hb dX9_feed_81 hl (by decide) rfl (fun ls hl => ?_)
          refine lv_aload_n hx hb dX9_feed_83 rfl (lv_at hl 2 rfl) ?_
          refine va_get (D := (dC, dI)) (ci := 9) (v := .ref h1) (C := RX9) (T := TX9) (N := 69) hx hb hts hinX9 hown hK hP 0 rfl rfl 0 (by decide) (hts (.fieldLink RX9 9 "CensusDeskModel" "tape" "[B") (List.mem_of_getElem? (i := 3) rfl)) (fun _ h9 => h9) gt dX9_feed_84 ?_
          refine lv_aload_n hx hb dX9_feed_87 rfl (lv_at hl 2 rfl) ?_
          refine va_get (D := (dC, dI)) (ci := 9) (v := .int (nI k)) (C := RX9) (T := TX9) (N := 69) hx hb hts hinX9 hown hK hP 0 rfl rfl 1 (by decide) (hts (.fieldLink RX9 116 "CensusDeskModel" "fed" "I") (List.mem_of_getElem? (i := 1) rfl)) (fun _ h9 => h9) gk dX9_feed_88 ?_
          refine lv_iload hx hb dX9_feed_91 (lv_at hl 0 rfl) ?_
          refine lv_bipush (v := 24) hx hb dX9_feed_93 (by decide) ?_
          refine lv_bipush (v := 8) hx hb dX9_feed_95 (by decide) ?_
          refine lv_iload hx hb dX9_feed_97 (lv_at hl 1 rfl) ?_
          refine lv_iconst (v := 4) hx hb dX9_feed_99 (by decide) ?_
          refine lv_irem hx hb dX9_feed_100 (by decide) ?_
          refine lv_imul hx hb dX9_feed_101 ?_
          refine lv_isub hx hb dX9_feed_102 ?_
          refine lv_ishr hx hb dX9_feed_103 ?_
          obtain ⟨z_20, ez_20⟩ : ∃ z : Int32, (Int32.toInt8 (wa >>> ((24 - (8 * ((nI k) - (nI k) / 4 * 4))) &&& 31))).toInt32 = z := ⟨_, rfl⟩
          refine lv_i2b (v := z_20) hx hb dX9_feed_104 ez_20 ?_
          refine va_bast hx hb hK hP hD hS 1 0 rfl rfl (i := (nI k)) (x := z_20) (vp_in_nI (by omega) (by decide)) dX9_feed_105 (fun H locs hP hD hS => ?_)
          obtain ⟨f_21, ef_21⟩ : ∃ z : Nat → Int32, z = upd f (Int32.toNatClampNeg (nI k)) (vp_nar .byte z_20) := ⟨_, rfl⟩
          rw [← ef_21] at hP hD
          have hP : va_P (dC, dI) vwCl [(h0, .inr (9, fs)), (h1, .inl (k1, 4000, .inl f_21))] H := hP
          have hD : va_D A [(h0, .inr (9, fs)), (h1, .inl (k1, 4000, .inl f_21))] := hD
          refine lv_aload_n hx hb dX9_feed_106 rfl (lv_at hl 2 rfl) ?_
          refine lv_dup hx hb dX9_feed_107 rfl ?_
          refine va_get (D := (dC, dI)) (ci := 9) (v := .int (nI k)) (C := RX9) (T := TX9) (N := 69) hx hb hts hinX9 hown hK hP 0 rfl rfl 1 (by decide) (hts (.fieldLink RX9 116 "CensusDeskModel" "fed" "I") (List.mem_of_getElem? (i := 1) rfl)) (fun _ h9 => h9) gk dX9_feed_108 ?_
          refine lv_iconst (v := 1) hx hb dX9_feed_111 (by decide) ?_
          refine lv_iadd hx hb dX9_feed_112 ?_
          refine k_top (v := (nI (k + 1))) (nI_1 k) ?_
          refine va_put (D := (dC, dI)) (ci := 9) (v := .int (nI (k + 1))) (ty := .int) (C := RX9) (T := TX9) (N := 69) hx hb hts hinX9 tyX9 tyX9_ok nmX9 hown hK hP hD hS 0 rfl rfl 1 (by decide) (hts (.fieldLink RX9 116 "CensusDeskModel" "fed" "I") (List.mem_of_getElem? (i := 1) rfl)) (fun _ h9 => h9) rfl (by decide +kernel) rfl rfl (by rw [hlk]; decide) dX9_feed_113 (fun H locs hP hD hS => ?_)
          obtain ⟨fs_22, efs_22⟩ : ∃ z : List Value, z = List.set fs 1 (.int (nI (k + 1))) := ⟨_, rfl⟩
          rw [← efs_22] at hP hD
          have lfs_22 : fs_22.length = 69 := by rw [efs_22, List.length_set]; exact hlk
          have gfs_22_0 : fs_22[0]? = some (.ref h1) := by rw [efs_22, List.getElem?_set_ne (show (1 : Nat) ≠ 0 by decide)]; exact gt
          have gfs_22_1 : fs_22[1]? = some (.int (nI (k + 1))) := by rw [efs_22]; exact List.getElem?_set_self (by rw [hlk]; decide)
          have hP : va_P (dC, dI) vwCl [(h0, .inr (9, fs_22)), (h1, .inl (k1, 4000, .inl f_21))] H := hP
          have hD : va_D A [(h0, .inr (9, fs_22)), (h1, .inl (k1, 4000, .inl f_21))] := hD
          refine lv_iinc (v := (nI (k + 1))) (lv' := [(6, .int (nI (k + 1))), (7, .int wa), (0, .ref h0), (1, .int wa), (2, .int wb), (3, .int wc), (4, .int wd), (5, .int we)]) hx hb dX9_feed_116 hl (k := 1) rfl (nI_1 k) (by decide) rfl (fun ls hl => ?_)
          refine lv_goto (tgt := 28) hx hb dX9_feed_119 (by decide) ?_
          exact ih28 (k + 1) (fs_22) (f_21) _ _ _ (by omega) lfs_22 gfs_22_1 gfs_22_0 (by omega) (hP.sub [0, 1] rfl) (hD.sub [0, 1] (by decide) rfl) hS (lv_sub hl [0, 2, 3, 4, 5, 6, 7] rfl)
  exact loop28 (20 - 0 + 1) (0) (fs) (f) _ _ _ (by decide) hl0 g1 g0 (Nat.lt_succ_self _) (hP.sub [0, 1] rfl) (hD.sub [0, 1] (by decide) rfl) hS (lv_sub hl [0, 1, 2, 3, 4, 5, 6] rfl)
set_option maxHeartbeats 1000000 in
set_option maxRecDepth 100000 in
theorem c_X9_end (l : Launch) (dC : Nat → ClassId) (dI : Nat → Nat → Nat) (h0 : Nat) (fs : List Value) (n : Int32) (sz : Nat) (hl0 : fs.length = 69) (g1 : fs[1]? = some (.int 0)) (g5 : fs[5]? = some (.int 0))  : Met l yX9_end wsX9_end ({ frames := 0, cells := 0, slots := 0, locals := 0 }) (va_Pc [.ref h0, .int n] (kPre dC dI [] [(h0, .inr (9, fs))] sz)) (va_Qi (fun (r : Int32) (_ : Unit) => r = fEnd n) (fun (_ : Unit) (_ : State) => True) (va_A [(h0, .inr (9, fs))] sz)) 0 0 (va_A [(h0, .inr (9, fs))] sz) := by
  refine Met.ofW (cc := cX9_end) (maxL := 2) (ret := (some .int)) (by decide) rfl ?_
  intro p e s m args below meth c s₁ B hml hv
  obtain ⟨rfl, hsz, hP, hK, hD0, hN⟩ := hv
  have hx := B.exec
  have hb := B.bytes
  have hr := B.returns
  have hts := atoms_spec (ws := wsX9_end) B.pre
  have hown : s.vm.findClass RX9 = some m.cls := findClass_of_methodNamed B.named
  have hlocks := B.notSynchronized
  subst hsz
  have hD := hD0.self (sz := s.heap.size)
  generalize hAe : va_A [(h0, .inr (9, fs))] s.heap.size = A at hD ⊢
  have hA : ∀ q : Nat, s.heap.size ≤ q → A q := fun q h => by rw [← hAe]; exact Or.inr h
  have hS : va_S A s.heap s.heap [] := va_S.rf
  have hP : va_P (dC, dI) vwCl [(h0, .inr (9, fs))] s.heap := hP
  have hinX9 : ∀ w ∈ wsX90, w ∈ wsX9_end := fun _ h => List.mem_cons_of_mem _ (List.mem_append_right _ h)
  have hl := lv_entry ([.ref h0, .int n]) (n := 2) (Nat.le_of_ble_eq_true rfl)
  rw [lg_entry_eq]
  generalize (lg_sl ([.ref h0, .int n]) ++ List.replicate (2 - (lg_sl ([.ref h0, .int n])).length) Slot.unset).toArray = ls at hl ⊢
  have hl : lv_has ls 2 [(0, .ref h0), (1, .int n)] := hl
  refine lv_iload_n hx hb dX9_end_0 rfl (lv_at hl 1 rfl) ?_
  refine lv_if_lt (tgt := 12) hx hb dX9_end_1 (by decide) (fun c_1 => ?_) (fun c_1 => ?_)
  · refine lv_iconst (v := (-1)) hx hb dX9_end_12 (by decide) ?_
    exact W.iret (v := (-1)) hx hb hr (fun t ht hW => ⟨⟨(-1), (), rfl, (by unfold fEnd; rw [if_pos c_1]), trivial⟩, hS.F ht⟩) hS.2.2 dX9_end_13
  · refine lv_iload_n hx hb dX9_end_4 rfl (lv_at hl 1 rfl) ?_
    refine lv_aload_n hx hb dX9_end_5 rfl (lv_at hl 0 rfl) ?_
    refine va_get (D := (dC, dI)) (ci := 9) (v := .int 0) (C := RX9) (T := TX9) (N := 69) hx hb hts hinX9 hown hK hP 0 rfl rfl 1 (by decide) (hts (.fieldLink RX9 116 "CensusDeskModel" "fed" "I") (List.mem_of_getElem? (i := 1) rfl)) (fun _ h9 => h9) g1 dX9_end_6 ?_
    refine lv_icmp_le (tgt := 14) hx hb dX9_end_9 (by decide) (fun c_2 => ?_) (fun c_2 => ?_)
    · refine lv_aload_n hx hb dX9_end_14 rfl (lv_at hl 0 rfl) ?_
      refine va_get (D := (dC, dI)) (ci := 9) (v := .int 0) (C := RX9) (T := TX9) (N := 69) hx hb hts hinX9 hown hK hP 0 rfl rfl 5 (by decide) (hts (.fieldLink RX9 120 "CensusDeskModel" "isHeld" "Z") (List.mem_of_getElem? (i := 2) rfl)) (fun _ h9 => h9) g5 dX9_end_15 ?_
      refine lv_if_eq (tgt := 24) hx hb dX9_end_18 (by decide) (fun c_3 => ?_) (fun c_3 => absurd c_3 (by decide))
      refine lv_aload_n hx hb dX9_end_24 rfl (lv_at hl 0 rfl) ?_
      refine lv_iload_n hx hb dX9_end_25 rfl (lv_at hl 1 rfl) ?_
      refine va_put (D := (dC, dI)) (ci := 9) (v := .int n) (ty := .int) (C := RX9) (T := TX9) (N := 69) hx hb hts hinX9 tyX9 tyX9_ok nmX9 hown hK hP hD hS 0 rfl rfl 1 (by decide) (hts (.fieldLink RX9 116 "CensusDeskModel" "fed" "I") (List.mem_of_getElem? (i := 1) rfl)) (fun _ h9 => h9) rfl (by decide +kernel) rfl rfl (by rw [hl0]; decide) dX9_end_26 (fun H locs hP hD hS => ?_)
      obtain ⟨fs_4, efs_4⟩ : ∃ z : List Value, z = List.set fs 1 (.int n) := ⟨_, rfl⟩
      rw [← efs_4] at hP hD
      have lfs_4 : fs_4.length = 69 := by rw [efs_4, List.length_set]; exact hl0
      have gfs_4_5 : fs_4[5]? = some (.int 0) := by rw [efs_4, List.getElem?_set_ne (show (1 : Nat) ≠ 5 by decide)]; exact g5
      have gfs_4_1 : fs_4[1]? = some (.int n) := by rw [efs_4]; exact List.getElem?_set_self (by rw [hl0]; decide)
      have hP : va_P (dC, dI) vwCl [(h0, .inr (9, fs_4))] H := hP
      have hD : va_D A [(h0, .inr (9, fs_4))] := hD
      refine lv_iload_n hx hb dX9_end_29 rfl (lv_at hl 1 rfl) ?_
      exact W.iret (v := n) hx hb hr (fun t ht hW => ⟨⟨n, (), rfl, (by unfold fEnd; rw [if_neg c_1, if_pos c_2]), trivial⟩, hS.F ht⟩) hS.2.2 dX9_end_30
    · refine lv_iconst (v := (-1)) hx hb dX9_end_12 (by decide) ?_
      exact W.iret (v := (-1)) hx hb hr (fun t ht hW => ⟨⟨(-1), (), rfl, (by unfold fEnd; rw [if_neg c_1, if_neg c_2]), trivial⟩, hS.F ht⟩) hS.2.2 dX9_end_13
set_option maxHeartbeats 1000000 in
set_option maxRecDepth 100000 in
theorem c_X9_rule (l : Launch) (dC : Nat → ClassId) (dI : Nat → Nat → Nat) (h0 : Nat) (fs : List Value) (h1 h2 : Nat) (k1 k2 : ClassId) (fw fn : Nat → Int32) (kd wy nu : Int32) (sz : Nat) (hl0 : fs.length = 69) (g5 : fs[5]? = some (.int 0)) (g2 : fs[2]? = some (.ref h1)) (g3 : fs[3]? = some (.ref h2)) (hw0 : ∀ j, j < 30 → fw j = -1) : Met l yX9_rule wsX9_rule ({ frames := 0, cells := 0, slots := 0, locals := 0 }) (va_Pc [.ref h0, .int kd, .int wy, .int nu] (kPre dC dI [(k1, .int), (k2, .int)] [(h0, .inr (9, fs)), (h1, .inl (k1, 30, .inl fw)), (h2, .inl (k2, 30, .inl fn))] sz)) (va_Qi (fun (r : Int32) (_ : Unit) => r = fRule kd wy nu) (fun (_ : Unit) (_ : State) => True) (va_A [(h0, .inr (9, fs)), (h1, .inl (k1, 30, .inl fw)), (h2, .inl (k2, 30, .inl fn))] sz)) 0 0 (va_A [(h0, .inr (9, fs)), (h1, .inl (k1, 30, .inl fw)), (h2, .inl (k2, 30, .inl fn))] sz) := by
  refine Met.ofW (cc := cX9_rule) (maxL := 5) (ret := (some .int)) (by decide) rfl ?_
  intro p e s m args below meth c s₁ B hml hv
  obtain ⟨rfl, hsz, hP, hK, hD0, hN⟩ := hv
  have hx := B.exec
  have hb := B.bytes
  have hr := B.returns
  have hts := atoms_spec (ws := wsX9_rule) B.pre
  have hown : s.vm.findClass RX9 = some m.cls := findClass_of_methodNamed B.named
  have hlocks := B.notSynchronized
  subst hsz
  have hD := hD0.self (sz := s.heap.size)
  generalize hAe : va_A [(h0, .inr (9, fs)), (h1, .inl (k1, 30, .inl fw)), (h2, .inl (k2, 30, .inl fn))] s.heap.size = A at hD ⊢
  have hA : ∀ q : Nat, s.heap.size ≤ q → A q := fun q h => by rw [← hAe]; exact Or.inr h
  have hS : va_S A s.heap s.heap [] := va_S.rf
  have hP : va_P (dC, dI) vwCl [(h0, .inr (9, fs)), (h1, .inl (k1, 30, .inl fw)), (h2, .inl (k2, 30, .inl fn))] s.heap := hP
  have hinX9 : ∀ w ∈ wsX90, w ∈ wsX9_rule := fun _ h => List.mem_cons_of_mem _ (List.mem_append_right _ h)
  have hl := lv_entry ([.ref h0, .int kd, .int wy, .int nu]) (n := 5) (Nat.le_of_ble_eq_true rfl)
  rw [lg_entry_eq]
  generalize (lg_sl ([.ref h0, .int kd, .int wy, .int nu]) ++ List.replicate (5 - (lg_sl ([.ref h0, .int kd, .int wy, .int nu])).length) Slot.unset).toArray = ls at hl ⊢
  have hl : lv_has ls 5 [(0, .ref h0), (1, .int kd), (2, .int wy), (3, .int nu)] := hl
  refine lv_iload_n hx hb dX9_rule_0 rfl (lv_at hl 1 rfl) ?_
  refine lv_iconst (v := 1) hx hb dX9_rule_1 (by decide) ?_
  refine lv_icmp_lt (tgt := 32) hx hb dX9_rule_2 (by decide) (fun c_1 => ?_) (fun c_1 => ?_)
  · refine lv_bipush (v := (-3)) hx hb dX9_rule_32 (by decide) ?_
    exact W.iret (v := (-3)) hx hb hr (fun t ht hW => ⟨⟨(-3), (), rfl, (by unfold fRule; rw [if_pos c_1]), trivial⟩, hS.F ht⟩) hS.2.2 dX9_rule_34
  · refine lv_iload_n hx hb dX9_rule_5 rfl (lv_at hl 1 rfl) ?_
    refine lv_bipush (v := 29) hx hb dX9_rule_6 (by decide) ?_
    refine lv_icmp_gt (tgt := 32) hx hb dX9_rule_8 (by decide) (fun c_2 => ?_) (fun c_2 => ?_)
    · refine lv_bipush (v := (-3)) hx hb dX9_rule_32 (by decide) ?_
      exact W.iret (v := (-3)) hx hb hr (fun t ht hW => ⟨⟨(-3), (), rfl, (by unfold fRule; rw [if_neg c_1, if_neg (Int32.not_le.mpr c_2)]), trivial⟩, hS.F ht⟩) hS.2.2 dX9_rule_34
    · refine lv_iload_n hx hb dX9_rule_11 rfl (lv_at hl 2 rfl) ?_
      refine lv_iconst (v := (-1)) hx hb dX9_rule_12 (by decide) ?_
      refine lv_icmp_lt (tgt := 32) hx hb dX9_rule_13 (by decide) (fun c_3 => ?_) (fun c_3 => ?_)
      · refine lv_bipush (v := (-3)) hx hb dX9_rule_32 (by decide) ?_
        exact W.iret (v := (-3)) hx hb hr (fun t ht hW => ⟨⟨(-3), (), rfl, (by unfold fRule; rw [if_neg c_1, if_pos (Int32.not_lt.mp c_2), if_pos c_3]), trivial⟩, hS.F ht⟩) hS.2.2 dX9_rule_34
      · refine lv_iload_n hx hb dX9_rule_16 rfl (lv_at hl 2 rfl) ?_
        refine lv_iconst (v := 4) hx hb dX9_rule_17 (by decide) ?_
        refine lv_icmp_gt (tgt := 32) hx hb dX9_rule_18 (by decide) (fun c_4 => ?_) (fun c_4 => ?_)
        · refine lv_bipush (v := (-3)) hx hb dX9_rule_32 (by decide) ?_
          exact W.iret (v := (-3)) hx hb hr (fun t ht hW => ⟨⟨(-3), (), rfl, (by unfold fRule; rw [if_neg c_1, if_pos (Int32.not_lt.mp c_2), if_neg c_3, if_neg (Int32.not_le.mpr c_4)]), trivial⟩, hS.F ht⟩) hS.2.2 dX9_rule_34
        · refine lv_iload_n hx hb dX9_rule_21 rfl (lv_at hl 3 rfl) ?_
          refine lv_iconst (v := (-1)) hx hb dX9_rule_22 (by decide) ?_
          refine lv_icmp_lt (tgt := 32) hx hb dX9_rule_23 (by decide) (fun c_5 => ?_) (fun c_5 => ?_)
          · refine lv_bipush (v := (-3)) hx hb dX9_rule_32 (by decide) ?_
            exact W.iret (v := (-3)) hx hb hr (fun t ht hW => ⟨⟨(-3), (), rfl, (by unfold fRule; rw [if_neg c_1, if_pos (Int32.not_lt.mp c_2), if_neg c_3, if_pos (Int32.not_lt.mp c_4), if_pos c_5]), trivial⟩, hS.F ht⟩) hS.2.2 dX9_rule_34
          · refine lv_iload_n hx hb dX9_rule_26 rfl (lv_at hl 3 rfl) ?_
            refine lv_ldc (v := 999999) hx hb hown (hts (.constant RX9 124 (999999)) (List.mem_of_getElem? (i := 1) rfl)) dX9_rule_27 ?_
            refine lv_icmp_le (tgt := 35) hx hb dX9_rule_29 (by decide) (fun c_6 => ?_) (fun c_6 => ?_)
            · refine lv_aload_n hx hb dX9_rule_35 rfl (lv_at hl 0 rfl) ?_
              refine va_get (D := (dC, dI)) (ci := 9) (v := .int 0) (C := RX9) (T := TX9) (N := 69) hx hb hts hinX9 hown hK hP 0 rfl rfl 5 (by decide) (hts (.fieldLink RX9 120 "CensusDeskModel" "isHeld" "Z") (List.mem_of_getElem? (i := 2) rfl)) (fun _ h9 => h9) g5 dX9_rule_36 ?_
              refine lv_if_eq (tgt := 45) hx hb dX9_rule_39 (by decide) (fun c_7 => ?_) (fun c_7 => absurd c_7 (by decide))
              refine lv_aload_n hx hb dX9_rule_45 rfl (lv_at hl 0 rfl) ?_
              refine va_get (D := (dC, dI)) (ci := 9) (v := .ref h1) (C := RX9) (T := TX9) (N := 69) hx hb hts hinX9 hown hK hP 0 rfl rfl 2 (by decide) (hts (.fieldLink RX9 13 "CensusDeskModel" "ruleWay" "[I") (List.mem_of_getElem? (i := 3) rfl)) (fun _ h9 => h9) g2 dX9_rule_46 ?_
              refine lv_iload_n hx hb dX9_rule_49 rfl (lv_at hl 1 rfl) ?_
              refine va_iald hx hb hK hP 1 0 rfl rfl (i := kd) (k_vin c_1 (Int32.not_lt.mp c_2) (by decide)) dX9_rule_50 ?_
              refine k_top (v := (-1)) (hw0 _ (k_cl (n := 30) c_1 (Int32.not_lt.mp c_2) (by decide)).2) ?_
              refine lv_istore (lv' := [(4, .int (-1)), (0, .ref h0), (1, .int kd), (2, .int wy), (3, .int nu)]) hx hb dX9_rule_51 hl (by decide) rfl (fun ls hl => ?_)
              refine lv_aload_n hx hb dX9_rule_53 rfl (lv_at hl 1 rfl) ?_
              refine va_get (D := (dC, dI)) (ci := 9) (v := .ref h1) (C := RX9) (T := TX9) (N := 69) hx hb hts hinX9 hown hK hP 0 rfl rfl 2 (by decide) (hts (.fieldLink RX9 13 "CensusDeskModel" "ruleWay" "[I") (List.mem_of_getElem? (i := 3) rfl)) (fun _ h9 => h9) g2 dX9_rule_54 ?_
              refine lv_iload_n hx hb dX9_rule_57 rfl (lv_at hl 2 rfl) ?_
              refine lv_iload_n hx hb dX9_rule_58 rfl (lv_at hl 3 rfl) ?_
              refine va_iast hx hb hK hP hD hS 1 0 rfl rfl (i := kd) (x := wy) (k_vin c_1 (Int32.not_lt.mp c_2) (by decide)) dX9_rule_59 (fun H locs hP hD hS => ?_)
              obtain ⟨f_8, ef_8⟩ : ∃ z : Nat → Int32, z = upd fw (Int32.toNatClampNeg kd) wy := ⟨_, rfl⟩
              rw [← ef_8] at hP hD
              have hP : va_P (dC, dI) vwCl [(h0, .inr (9, fs)), (h1, .inl (k1, 30, .inl f_8)), (h2, .inl (k2, 30, .inl fn))] H := hP
              have hD : va_D A [(h0, .inr (9, fs)), (h1, .inl (k1, 30, .inl f_8)), (h2, .inl (k2, 30, .inl fn))] := hD
              refine lv_aload_n hx hb dX9_rule_60 rfl (lv_at hl 1 rfl) ?_
              refine va_get (D := (dC, dI)) (ci := 9) (v := .ref h2) (C := RX9) (T := TX9) (N := 69) hx hb hts hinX9 hown hK hP 0 rfl rfl 3 (by decide) (hts (.fieldLink RX9 17 "CensusDeskModel" "ruleNumber" "[I") (List.mem_of_getElem? (i := 4) rfl)) (fun _ h9 => h9) g3 dX9_rule_61 ?_
              refine lv_iload_n hx hb dX9_rule_64 rfl (lv_at hl 2 rfl) ?_
              refine lv_iload_n hx hb dX9_rule_65 rfl (lv_at hl 4 rfl) ?_
              refine va_iast hx hb hK hP hD hS 2 1 rfl rfl (i := kd) (x := nu) (k_vin c_1 (Int32.not_lt.mp c_2) (by decide)) dX9_rule_66 (fun H locs hP hD hS => ?_)
              obtain ⟨f_9, ef_9⟩ : ∃ z : Nat → Int32, z = upd fn (Int32.toNatClampNeg kd) nu := ⟨_, rfl⟩
              rw [← ef_9] at hP hD
              have hP : va_P (dC, dI) vwCl [(h0, .inr (9, fs)), (h1, .inl (k1, 30, .inl f_8)), (h2, .inl (k2, 30, .inl f_9))] H := hP
              have hD : va_D A [(h0, .inr (9, fs)), (h1, .inl (k1, 30, .inl f_8)), (h2, .inl (k2, 30, .inl f_9))] := hD
              refine lv_iload hx hb dX9_rule_67 (lv_at hl 0 rfl) ?_
              exact W.iret (v := (-1)) hx hb hr (fun t ht hW => ⟨⟨(-1), (), rfl, (by unfold fRule; rw [if_neg c_1, if_pos (Int32.not_lt.mp c_2), if_neg c_3, if_pos (Int32.not_lt.mp c_4), if_neg c_5, if_pos c_6]), trivial⟩, hS.F ht⟩) hS.2.2 dX9_rule_69
            · refine lv_bipush (v := (-3)) hx hb dX9_rule_32 (by decide) ?_
              exact W.iret (v := (-3)) hx hb hr (fun t ht hW => ⟨⟨(-3), (), rfl, (by unfold fRule; rw [if_neg c_1, if_pos (Int32.not_lt.mp c_2), if_neg c_3, if_pos (Int32.not_lt.mp c_4), if_neg c_5, if_neg c_6]), trivial⟩, hS.F ht⟩) hS.2.2 dX9_rule_34
set_option maxHeartbeats 1000000 in
set_option maxRecDepth 100000 in
theorem c_X9_groupOf (l : Launch) (dC : Nat → ClassId) (dI : Nat → Nat → Nat) (x : Int32) (sz : Nat)  : Met l yX9_groupOf wsX9_groupOf ({ frames := 0, cells := 0, slots := 0, locals := 0 }) (va_Pc [.int x] (kPre dC dI [] [] sz)) (va_Qi (fun (r : Int32) (_ : Unit) => r = gOf x) (fun (_ : Unit) (t : State) => kB dC dI (va_A [] sz) [] [] t) (va_A [] sz)) 0 0 (va_A [] sz) := by
  refine Met.ofW (cc := cX9_groupOf) (maxL := 1) (ret := (some .int)) (by decide) rfl ?_
  intro p e s m args below meth c s₁ B hml hv
  obtain ⟨rfl, hsz, hP, hK, hD0, hN⟩ := hv
  have hx := B.exec
  have hb := B.bytes
  have hr := B.returns
  have hts := atoms_spec (ws := wsX9_groupOf) B.pre
  have hown : s.vm.findClass RX9 = some m.cls := findClass_of_methodNamed B.named
  have hlocks := B.notSynchronized
  subst hsz
  have hD := hD0.self (sz := s.heap.size)
  generalize hAe : va_A [] s.heap.size = A at hD ⊢
  have hA : ∀ q : Nat, s.heap.size ≤ q → A q := fun q h => by rw [← hAe]; exact Or.inr h
  have hS : va_S A s.heap s.heap [] := va_S.rf
  have hP : va_P (dC, dI) vwCl [] s.heap := hP
  have hl := lv_entry ([.int x]) (n := 1) (Nat.le_of_ble_eq_true rfl)
  rw [lg_entry_eq]
  generalize (lg_sl ([.int x]) ++ List.replicate (1 - (lg_sl ([.int x])).length) Slot.unset).toArray = ls at hl ⊢
  have hl : lv_has ls 1 [(0, .int x)] := hl
  refine lv_iload_n hx hb dX9_groupOf_0 rfl (lv_at hl 0 rfl) ?_
  refine lv_bipush (v := 24) hx hb dX9_groupOf_1 (by decide) ?_
  refine lv_icmp_le (tgt := 19) hx hb dX9_groupOf_3 (by decide) (fun c_1 => ?_) (fun c_1 => ?_)
  · refine lv_iload_n hx hb dX9_groupOf_19 rfl (lv_at hl 0 rfl) ?_
    refine lv_bipush (v := 24) hx hb dX9_groupOf_20 (by decide) ?_
    refine lv_icmp_ne (tgt := 28) hx hb dX9_groupOf_22 (by decide) (fun c_2 => ?_) (fun c_2 => ?_)
    · refine lv_iload_n hx hb dX9_groupOf_28 rfl (lv_at hl 0 rfl) ?_
      refine lv_bipush (v := 21) hx hb dX9_groupOf_29 (by decide) ?_
      refine lv_icmp_le (tgt := 37) hx hb dX9_groupOf_31 (by decide) (fun c_3 => ?_) (fun c_3 => ?_)
      · refine lv_iload_n hx hb dX9_groupOf_37 rfl (lv_at hl 0 rfl) ?_
        refine lv_bipush (v := 18) hx hb dX9_groupOf_38 (by decide) ?_
        refine lv_icmp_le (tgt := 46) hx hb dX9_groupOf_40 (by decide) (fun c_4 => ?_) (fun c_4 => ?_)
        · refine lv_iload_n hx hb dX9_groupOf_46 rfl (lv_at hl 0 rfl) ?_
          refine lv_bipush (v := 13) hx hb dX9_groupOf_47 (by decide) ?_
          refine lv_icmp_le (tgt := 55) hx hb dX9_groupOf_49 (by decide) (fun c_5 => ?_) (fun c_5 => ?_)
          · refine lv_iload_n hx hb dX9_groupOf_55 rfl (lv_at hl 0 rfl) ?_
            refine lv_bipush (v := 8) hx hb dX9_groupOf_56 (by decide) ?_
            refine lv_icmp_le (tgt := 64) hx hb dX9_groupOf_58 (by decide) (fun c_6 => ?_) (fun c_6 => ?_)
            · refine lv_iload_n hx hb dX9_groupOf_64 rfl (lv_at hl 0 rfl) ?_
              refine lv_iconst (v := 1) hx hb dX9_groupOf_65 (by decide) ?_
              refine lv_icmp_ne (tgt := 74) hx hb dX9_groupOf_66 (by decide) (fun c_7 => ?_) (fun c_7 => ?_)
              · refine lv_iload_n hx hb dX9_groupOf_74 rfl (lv_at hl 0 rfl) ?_
                refine lv_iconst (v := 2) hx hb dX9_groupOf_75 (by decide) ?_
                refine lv_icmp_eq (tgt := 84) hx hb dX9_groupOf_76 (by decide) (fun c_8 => ?_) (fun c_8 => ?_)
                · refine lv_bipush (v := 22) hx hb dX9_groupOf_84 (by decide) ?_
                  refine lv_goto (tgt := 106) hx hb dX9_groupOf_86 (by decide) ?_
                  have hP9 := hP.sub (ws' := []) [] rfl
                  have hD9 := hD.sub (ws' := []) [] (by decide) rfl
                  have hK9 := hK.sub (tys' := []) [] rfl
                  exact W.iret (v := 22) hx hb hr (fun t ht hW => ⟨⟨22, (), rfl, (by unfold gOf; rw [if_pos c_1, if_neg c_2, if_pos c_3, if_pos c_4, if_pos c_5, if_pos c_6, if_neg c_7, if_pos c_8]), ⟨by rw [ht]; exact hP9, va_K.moved hW.alike hK9, hD9⟩⟩, hS.F ht⟩) hS.2.2 dX9_groupOf_106
                · refine lv_iload_n hx hb dX9_groupOf_79 rfl (lv_at hl 0 rfl) ?_
                  refine lv_iconst (v := 3) hx hb dX9_groupOf_80 (by decide) ?_
                  refine lv_icmp_ne (tgt := 89) hx hb dX9_groupOf_81 (by decide) (fun c_9 => ?_) (fun c_9 => ?_)
                  · refine lv_iload_n hx hb dX9_groupOf_89 rfl (lv_at hl 0 rfl) ?_
                    refine lv_iconst (v := 4) hx hb dX9_groupOf_90 (by decide) ?_
                    refine lv_icmp_eq (tgt := 99) hx hb dX9_groupOf_91 (by decide) (fun c_10 => ?_) (fun c_10 => ?_)
                    · refine lv_bipush (v := 23) hx hb dX9_groupOf_99 (by decide) ?_
                      refine lv_goto (tgt := 106) hx hb dX9_groupOf_101 (by decide) ?_
                      have hP9 := hP.sub (ws' := []) [] rfl
                      have hD9 := hD.sub (ws' := []) [] (by decide) rfl
                      have hK9 := hK.sub (tys' := []) [] rfl
                      exact W.iret (v := 23) hx hb hr (fun t ht hW => ⟨⟨23, (), rfl, (by unfold gOf; rw [if_pos c_1, if_neg c_2, if_pos c_3, if_pos c_4, if_pos c_5, if_pos c_6, if_neg c_7, if_neg c_8, if_neg c_9, if_pos c_10]), ⟨by rw [ht]; exact hP9, va_K.moved hW.alike hK9, hD9⟩⟩, hS.F ht⟩) hS.2.2 dX9_groupOf_106
                    · refine lv_iload_n hx hb dX9_groupOf_94 rfl (lv_at hl 0 rfl) ?_
                      refine lv_iconst (v := 5) hx hb dX9_groupOf_95 (by decide) ?_
                      refine lv_icmp_ne (tgt := 104) hx hb dX9_groupOf_96 (by decide) (fun c_11 => ?_) (fun c_11 => ?_)
                      · refine lv_bipush (v := 25) hx hb dX9_groupOf_104 (by decide) ?_
                        have hP9 := hP.sub (ws' := []) [] rfl
                        have hD9 := hD.sub (ws' := []) [] (by decide) rfl
                        have hK9 := hK.sub (tys' := []) [] rfl
                        exact W.iret (v := 25) hx hb hr (fun t ht hW => ⟨⟨25, (), rfl, (by unfold gOf; rw [if_pos c_1, if_neg c_2, if_pos c_3, if_pos c_4, if_pos c_5, if_pos c_6, if_neg c_7, if_neg c_8, if_neg c_9, if_neg c_10, if_neg c_11]), ⟨by rw [ht]; exact hP9, va_K.moved hW.alike hK9, hD9⟩⟩, hS.F ht⟩) hS.2.2 dX9_groupOf_106
                      · refine lv_bipush (v := 23) hx hb dX9_groupOf_99 (by decide) ?_
                        refine lv_goto (tgt := 106) hx hb dX9_groupOf_101 (by decide) ?_
                        have hP9 := hP.sub (ws' := []) [] rfl
                        have hD9 := hD.sub (ws' := []) [] (by decide) rfl
                        have hK9 := hK.sub (tys' := []) [] rfl
                        exact W.iret (v := 23) hx hb hr (fun t ht hW => ⟨⟨23, (), rfl, (by unfold gOf; rw [if_pos c_1, if_neg c_2, if_pos c_3, if_pos c_4, if_pos c_5, if_pos c_6, if_neg c_7, if_neg c_8, if_neg c_9, if_neg c_10, if_pos c_11]), ⟨by rw [ht]; exact hP9, va_K.moved hW.alike hK9, hD9⟩⟩, hS.F ht⟩) hS.2.2 dX9_groupOf_106
                  · refine lv_bipush (v := 22) hx hb dX9_groupOf_84 (by decide) ?_
                    refine lv_goto (tgt := 106) hx hb dX9_groupOf_86 (by decide) ?_
                    have hP9 := hP.sub (ws' := []) [] rfl
                    have hD9 := hD.sub (ws' := []) [] (by decide) rfl
                    have hK9 := hK.sub (tys' := []) [] rfl
                    exact W.iret (v := 22) hx hb hr (fun t ht hW => ⟨⟨22, (), rfl, (by unfold gOf; rw [if_pos c_1, if_neg c_2, if_pos c_3, if_pos c_4, if_pos c_5, if_pos c_6, if_neg c_7, if_neg c_8, if_pos c_9]), ⟨by rw [ht]; exact hP9, va_K.moved hW.alike hK9, hD9⟩⟩, hS.F ht⟩) hS.2.2 dX9_groupOf_106
              · refine lv_bipush (v := 24) hx hb dX9_groupOf_69 (by decide) ?_
                refine lv_goto (tgt := 106) hx hb dX9_groupOf_71 (by decide) ?_
                have hP9 := hP.sub (ws' := []) [] rfl
                have hD9 := hD.sub (ws' := []) [] (by decide) rfl
                have hK9 := hK.sub (tys' := []) [] rfl
                exact W.iret (v := 24) hx hb hr (fun t ht hW => ⟨⟨24, (), rfl, (by unfold gOf; rw [if_pos c_1, if_neg c_2, if_pos c_3, if_pos c_4, if_pos c_5, if_pos c_6, if_pos c_7]), ⟨by rw [ht]; exact hP9, va_K.moved hW.alike hK9, hD9⟩⟩, hS.F ht⟩) hS.2.2 dX9_groupOf_106
            · refine lv_bipush (v := 26) hx hb dX9_groupOf_61 (by decide) ?_
              have hP9 := hP.sub (ws' := []) [] rfl
              have hD9 := hD.sub (ws' := []) [] (by decide) rfl
              have hK9 := hK.sub (tys' := []) [] rfl
              exact W.iret (v := 26) hx hb hr (fun t ht hW => ⟨⟨26, (), rfl, (by unfold gOf; rw [if_pos c_1, if_neg c_2, if_pos c_3, if_pos c_4, if_pos c_5, if_neg c_6]), ⟨by rw [ht]; exact hP9, va_K.moved hW.alike hK9, hD9⟩⟩, hS.F ht⟩) hS.2.2 dX9_groupOf_63
          · refine lv_bipush (v := 27) hx hb dX9_groupOf_52 (by decide) ?_
            have hP9 := hP.sub (ws' := []) [] rfl
            have hD9 := hD.sub (ws' := []) [] (by decide) rfl
            have hK9 := hK.sub (tys' := []) [] rfl
            exact W.iret (v := 27) hx hb hr (fun t ht hW => ⟨⟨27, (), rfl, (by unfold gOf; rw [if_pos c_1, if_neg c_2, if_pos c_3, if_pos c_4, if_neg c_5]), ⟨by rw [ht]; exact hP9, va_K.moved hW.alike hK9, hD9⟩⟩, hS.F ht⟩) hS.2.2 dX9_groupOf_54
        · refine lv_bipush (v := 28) hx hb dX9_groupOf_43 (by decide) ?_
          have hP9 := hP.sub (ws' := []) [] rfl
          have hD9 := hD.sub (ws' := []) [] (by decide) rfl
          have hK9 := hK.sub (tys' := []) [] rfl
          exact W.iret (v := 28) hx hb hr (fun t ht hW => ⟨⟨28, (), rfl, (by unfold gOf; rw [if_pos c_1, if_neg c_2, if_pos c_3, if_neg c_4]), ⟨by rw [ht]; exact hP9, va_K.moved hW.alike hK9, hD9⟩⟩, hS.F ht⟩) hS.2.2 dX9_groupOf_45
      · refine lv_bipush (v := 25) hx hb dX9_groupOf_34 (by decide) ?_
        have hP9 := hP.sub (ws' := []) [] rfl
        have hD9 := hD.sub (ws' := []) [] (by decide) rfl
        have hK9 := hK.sub (tys' := []) [] rfl
        exact W.iret (v := 25) hx hb hr (fun t ht hW => ⟨⟨25, (), rfl, (by unfold gOf; rw [if_pos c_1, if_neg c_2, if_neg c_3]), ⟨by rw [ht]; exact hP9, va_K.moved hW.alike hK9, hD9⟩⟩, hS.F ht⟩) hS.2.2 dX9_groupOf_36
    · refine lv_bipush (v := 29) hx hb dX9_groupOf_25 (by decide) ?_
      have hP9 := hP.sub (ws' := []) [] rfl
      have hD9 := hD.sub (ws' := []) [] (by decide) rfl
      have hK9 := hK.sub (tys' := []) [] rfl
      exact W.iret (v := 29) hx hb hr (fun t ht hW => ⟨⟨29, (), rfl, (by unfold gOf; rw [if_pos c_1, if_pos c_2]), ⟨by rw [ht]; exact hP9, va_K.moved hW.alike hK9, hD9⟩⟩, hS.F ht⟩) hS.2.2 dX9_groupOf_27
  · refine lv_iload_n hx hb dX9_groupOf_6 rfl (lv_at hl 0 rfl) ?_
    refine lv_bipush (v := 29) hx hb dX9_groupOf_7 (by decide) ?_
    refine lv_icmp_ne (tgt := 16) hx hb dX9_groupOf_9 (by decide) (fun c_12 => ?_) (fun c_12 => ?_)
    · refine lv_bipush (v := 29) hx hb dX9_groupOf_16 (by decide) ?_
      have hP9 := hP.sub (ws' := []) [] rfl
      have hD9 := hD.sub (ws' := []) [] (by decide) rfl
      have hK9 := hK.sub (tys' := []) [] rfl
      exact W.iret (v := 29) hx hb hr (fun t ht hW => ⟨⟨29, (), rfl, (by unfold gOf; rw [if_neg c_1, if_neg c_12]), ⟨by rw [ht]; exact hP9, va_K.moved hW.alike hK9, hD9⟩⟩, hS.F ht⟩) hS.2.2 dX9_groupOf_18
    · refine lv_iconst (v := 0) hx hb dX9_groupOf_12 (by decide) ?_
      refine lv_goto (tgt := 18) hx hb dX9_groupOf_13 (by decide) ?_
      have hP9 := hP.sub (ws' := []) [] rfl
      have hD9 := hD.sub (ws' := []) [] (by decide) rfl
      have hK9 := hK.sub (tys' := []) [] rfl
      exact W.iret (v := 0) hx hb hr (fun t ht hW => ⟨⟨0, (), rfl, (by unfold gOf; rw [if_neg c_1, if_pos c_12]), ⟨by rw [ht]; exact hP9, va_K.moved hW.alike hK9, hD9⟩⟩, hS.F ht⟩) hS.2.2 dX9_groupOf_18
set_option maxHeartbeats 1000000 in
set_option maxRecDepth 100000 in
theorem c_X9_takenPersons (l : Launch) (dC : Nat → ClassId) (dI : Nat → Nat → Nat) (h0 : Nat) (fs : List Value) (sz : Nat) (hl0 : fs.length = 69) (g26 : fs[26]? = some (.int 0))  : Met l yX9_takenPersons wsX9_takenPersons ({ frames := 0, cells := 0, slots := 0, locals := 0 }) (va_Pc [.ref h0] (kPre dC dI [] [(h0, .inr (9, fs))] sz)) (va_Qi (fun (r : Int32) (_ : Unit) => r = 0) (fun (_ : Unit) (t : State) => kB dC dI (va_A [(h0, .inr (9, fs))] sz) [] [(h0, .inr (9, fs))] t) (va_A [(h0, .inr (9, fs))] sz)) 0 0 (va_A [(h0, .inr (9, fs))] sz) := by
  refine Met.ofW (cc := cX9_takenPersons) (maxL := 3) (ret := (some .int)) (by decide) rfl ?_
  intro p e s m args below meth c s₁ B hml hv
  obtain ⟨rfl, hsz, hP, hK, hD0, hN⟩ := hv
  have hx := B.exec
  have hb := B.bytes
  have hr := B.returns
  have hts := atoms_spec (ws := wsX9_takenPersons) B.pre
  have hown : s.vm.findClass RX9 = some m.cls := findClass_of_methodNamed B.named
  have hlocks := B.notSynchronized
  subst hsz
  have hD := hD0.self (sz := s.heap.size)
  generalize hAe : va_A [(h0, .inr (9, fs))] s.heap.size = A at hD ⊢
  have hA : ∀ q : Nat, s.heap.size ≤ q → A q := fun q h => by rw [← hAe]; exact Or.inr h
  have hS : va_S A s.heap s.heap [] := va_S.rf
  have hP : va_P (dC, dI) vwCl [(h0, .inr (9, fs))] s.heap := hP
  have hinX9 : ∀ w ∈ wsX90, w ∈ wsX9_takenPersons := fun _ h => List.mem_cons_of_mem _ (List.mem_append_right _ h)
  have hl := lv_entry ([.ref h0]) (n := 3) (Nat.le_of_ble_eq_true rfl)
  rw [lg_entry_eq]
  generalize (lg_sl ([.ref h0]) ++ List.replicate (3 - (lg_sl ([.ref h0])).length) Slot.unset).toArray = ls at hl ⊢
  have hl : lv_has ls 3 [(0, .ref h0)] := hl
  refine lv_iconst (v := 0) hx hb dX9_takenPersons_0 (by decide) ?_
  refine lv_istore_n (lv' := [(1, .int 0), (0, .ref h0)]) hx hb dX9_takenPersons_1 rfl hl (by decide) rfl (fun ls hl => ?_)
  refine lv_iconst (v := 0) hx hb dX9_takenPersons_2 (by decide) ?_
  refine lv_istore_n (lv' := [(2, .int 0), (1, .int 0), (0, .ref h0)]) hx hb dX9_takenPersons_3 rfl hl (by decide) rfl (fun ls hl => ?_)
  refine lv_iload_n hx hb dX9_takenPersons_4 rfl (lv_at hl 0 rfl) ?_
  refine lv_aload_n hx hb dX9_takenPersons_5 rfl (lv_at hl 2 rfl) ?_
  refine va_get (D := (dC, dI)) (ci := 9) (v := .int 0) (C := RX9) (T := TX9) (N := 69) hx hb hts hinX9 hown hK hP 0 rfl rfl 26 (by decide) (hts (.fieldLink RX9 234 "CensusDeskModel" "houses" "I") (List.mem_of_getElem? (i := 1) rfl)) (fun _ h9 => h9) g26 dX9_takenPersons_6 ?_
  refine lv_icmp_ge (tgt := 27) hx hb dX9_takenPersons_9 (by decide) (fun c_1 => ?_) (fun c_1 => absurd c_1 (by decide))
  refine lv_iload_n hx hb dX9_takenPersons_27 rfl (lv_at hl 1 rfl) ?_
  have hP9 := hP.sub (ws' := [(h0, .inr (9, fs))]) [0] rfl
  have hD9 := hD.sub (ws' := [(h0, .inr (9, fs))]) [0] (by decide) rfl
  have hK9 := hK.sub (tys' := []) [] rfl
  exact W.iret (v := 0) hx hb hr (fun t ht hW => ⟨⟨0, (), rfl, rfl, ⟨by rw [ht]; exact hP9, va_K.moved hW.alike hK9, hD9⟩⟩, hS.F ht⟩) hS.2.2 dX9_takenPersons_28
set_option maxHeartbeats 1000000 in
set_option maxRecDepth 100000 in
theorem c_X9_book (l : Launch) (dC : Nat → ClassId) (dI : Nat → Nat → Nat) (h0 : Nat) (fs : List Value) (sz : Nat) (hl0 : fs.length = 69) (g58 : fs[58]? = some (.int 0)) (g26 : fs[26]? = some (.int 0)) (g65 : fs[65]? = some (.int 0)) (g66 : fs[66]? = some (.int 0))  : Met l yX9_book wsX9_book ({ frames := 1, cells := 0, slots := 0, locals := 22 }) (va_Pc [.ref h0] (kPre dC dI [] [(h0, .inr (9, fs))] sz)) (va_Qi (fun (r : Int32) (_ : Unit) => r = 0) (fun (_ : Unit) (_ : State) => True) (va_A [(h0, .inr (9, fs))] sz)) 0 0 (va_A [(h0, .inr (9, fs))] sz) := by
  refine Met.ofW (cc := cX9_book) (maxL := 4) (ret := (some .int)) (by decide) rfl ?_
  intro p e s m args below meth c s₁ B hml hv
  obtain ⟨rfl, hsz, hP, hK, hD0, hN⟩ := hv
  have hx := B.exec
  have hb := B.bytes
  have hr := B.returns
  have hts := atoms_spec (ws := wsX9_book) B.pre
  have hown : s.vm.findClass RX9 = some m.cls := findClass_of_methodNamed B.named
  have hlocks := B.notSynchronized
  subst hsz
  have hD := hD0.self (sz := s.heap.size)
  generalize hAe : va_A [(h0, .inr (9, fs))] s.heap.size = A at hD ⊢
  have hA : ∀ q : Nat, s.heap.size ≤ q → A q := fun q h => by rw [← hAe]; exact Or.inr h
  have hS : va_S A s.heap s.heap [] := va_S.rf
  have hP : va_P (dC, dI) vwCl [(h0, .inr (9, fs))] s.heap := hP
  have hinX9 : ∀ w ∈ wsX90, w ∈ wsX9_book := fun _ h => List.mem_cons_of_mem _ (List.mem_append_right _ h)
  have hl := lv_entry ([.ref h0]) (n := 4) (Nat.le_of_ble_eq_true rfl)
  rw [lg_entry_eq]
  generalize (lg_sl ([.ref h0]) ++ List.replicate (4 - (lg_sl ([.ref h0])).length) Slot.unset).toArray = ls at hl ⊢
  have hl : lv_has ls 4 [(0, .ref h0)] := hl
  refine lv_aload_n hx hb dX9_book_0 rfl (lv_at hl 0 rfl) ?_
  refine va_get (D := (dC, dI)) (ci := 9) (v := .int 0) (C := RX9) (T := TX9) (N := 69) hx hb hts hinX9 hown hK hP 0 rfl rfl 58 (by decide) (hts (.fieldLink RX9 295 "CensusDeskModel" "booked" "I") (List.mem_of_getElem? (i := 1) rfl)) (fun _ h9 => h9) g58 dX9_book_1 ?_
  refine lv_aload_n hx hb dX9_book_4 rfl (lv_at hl 0 rfl) ?_
  refine va_get (D := (dC, dI)) (ci := 9) (v := .int 0) (C := RX9) (T := TX9) (N := 69) hx hb hts hinX9 hown hK hP 0 rfl rfl 26 (by decide) (hts (.fieldLink RX9 234 "CensusDeskModel" "houses" "I") (List.mem_of_getElem? (i := 2) rfl)) (fun _ h9 => h9) g26 dX9_book_5 ?_
  refine lv_iadd hx hb dX9_book_8 ?_
  refine k_top (v := 0) (by decide) ?_
  refine lv_bipush (v := 60) hx hb dX9_book_9 (by decide) ?_
  refine lv_icmp_gt (tgt := 29) hx hb dX9_book_11 (by decide) (fun c_1 => absurd c_1 (by decide)) (fun c_1 => ?_)
  refine lv_aload_n hx hb dX9_book_14 rfl (lv_at hl 0 rfl) ?_
  refine va_get (D := (dC, dI)) (ci := 9) (v := .int 0) (C := RX9) (T := TX9) (N := 69) hx hb hts hinX9 hown hK hP 0 rfl rfl 65 (by decide) (hts (.fieldLink RX9 298 "CensusDeskModel" "bookedPersons" "I") (List.mem_of_getElem? (i := 3) rfl)) (fun _ h9 => h9) g65 dX9_book_15 ?_
  refine lv_aload_n hx hb dX9_book_18 rfl (lv_at hl 0 rfl) ?_
  have hPc := hP.sub (ws' := [(h0, .inr (9, fs))]) [0] rfl
  have hDc := hD.sub (ws' := [(h0, .inr (9, fs))]) [0] (by decide) rfl
  have hKc := hK.sub (tys' := []) [] rfl
  have hFc := va_free (wc := [(h0, .inr (9, fs))]) hD hS hA [0] rfl
  refine va_calli (va_runV (As := []) (rest := [.int 0]) ⟨hx, hb, hml, hown, hts⟩ (c_X9_takenPersons l dC dI h0 fs _ hl0 g26) (cwV 0 hts gX9_book_X9_takenPersons rfl rfl rfl (by decide +kernel) ⟨Nat.le_of_ble_eq_true rfl, Nat.le_of_ble_eq_true rfl⟩) (kPreV hPc hKc hDc hN (va_recv hKc hPc (ci := 9) (q0 := 0) rfl rfl)) rfl rfl hl.1 rfl (lv_room (Nat.le_of_ble_eq_true rfl)) dX9_book_19 ⟨(by decide +kernel), (by decide +kernel)⟩) hS (fun q _ h => hFc q h) hFc (fun r_2 u t H1 locs ht hvm hw hB hz1 hk1 hS => ?_)
  obtain ⟨hP, hD, hK⟩ := kJoin (wc := [(h0, .inr (9, fs))]) (wr := []) (w1 := [(h0, .inr (9, fs))]) hP hD hK [0] [] rfl rfl (by decide) (by decide) hk1 hFc ht hvm hB
  have hK : va_K (dC, dI) vwCl [] s := hK
  generalize H1 = H at hP hS ⊢
  have hP : va_P (dC, dI) vwCl [(h0, .inr (9, fs))] H := hP
  have hD : va_D A [(h0, .inr (9, fs))] := hD
  try dsimp only at hw
  subst hw
  refine lv_iadd hx hb dX9_book_22 ?_
  refine k_top (v := 0) (by decide) ?_
  refine lv_sipush (v := 300) hx hb dX9_book_23 (by decide) ?_
  refine lv_icmp_le (tgt := 41) hx hb dX9_book_26 (by decide) (fun c_3 => ?_) (fun c_3 => absurd c_3 (by decide))
  refine lv_iconst (v := 0) hx hb dX9_book_41 (by decide) ?_
  refine lv_istore_n (lv' := [(1, .int 0), (0, .ref h0)]) hx hb dX9_book_42 rfl hl (by decide) rfl (fun ls hl => ?_)
  refine lv_iload_n hx hb dX9_book_43 rfl (lv_at hl 0 rfl) ?_
  refine lv_aload_n hx hb dX9_book_44 rfl (lv_at hl 1 rfl) ?_
  refine va_get (D := (dC, dI)) (ci := 9) (v := .int 0) (C := RX9) (T := TX9) (N := 69) hx hb hts hinX9 hown hK hP 0 rfl rfl 26 (by decide) (hts (.fieldLink RX9 234 "CensusDeskModel" "houses" "I") (List.mem_of_getElem? (i := 2) rfl)) (fun _ h9 => h9) g26 dX9_book_45 ?_
  refine lv_icmp_ge (tgt := 298) hx hb dX9_book_48 (by decide) (fun c_4 => ?_) (fun c_4 => absurd c_4 (by decide))
  refine lv_aload_n hx hb dX9_book_298 rfl (lv_at hl 1 rfl) ?_
  refine lv_dup hx hb dX9_book_299 rfl ?_
  refine va_get (D := (dC, dI)) (ci := 9) (v := .int 0) (C := RX9) (T := TX9) (N := 69) hx hb hts hinX9 hown hK hP 0 rfl rfl 66 (by decide) (hts (.fieldLink RX9 310 "CensusDeskModel" "sheetsBooked" "I") (List.mem_of_getElem? (i := 27) rfl)) (fun _ h9 => h9) g66 dX9_book_300 ?_
  refine lv_iconst (v := 1) hx hb dX9_book_303 (by decide) ?_
  refine lv_iadd hx hb dX9_book_304 ?_
  refine k_top (v := 1) (by decide) ?_
  refine va_put (D := (dC, dI)) (ci := 9) (v := .int 1) (ty := .int) (C := RX9) (T := TX9) (N := 69) hx hb hts hinX9 tyX9 tyX9_ok nmX9 hown hK hP hD hS 0 rfl rfl 66 (by decide) (hts (.fieldLink RX9 310 "CensusDeskModel" "sheetsBooked" "I") (List.mem_of_getElem? (i := 27) rfl)) (fun _ h9 => h9) rfl (by decide +kernel) rfl rfl (by rw [hl0]; decide) dX9_book_305 (fun H locs hP hD hS => ?_)
  obtain ⟨fs_5, efs_5⟩ : ∃ z : List Value, z = List.set fs 66 (.int 1) := ⟨_, rfl⟩
  rw [← efs_5] at hP hD
  have lfs_5 : fs_5.length = 69 := by rw [efs_5, List.length_set]; exact hl0
  have gfs_5_58 : fs_5[58]? = some (.int 0) := by rw [efs_5, List.getElem?_set_ne (show (66 : Nat) ≠ 58 by decide)]; exact g58
  have gfs_5_26 : fs_5[26]? = some (.int 0) := by rw [efs_5, List.getElem?_set_ne (show (66 : Nat) ≠ 26 by decide)]; exact g26
  have gfs_5_65 : fs_5[65]? = some (.int 0) := by rw [efs_5, List.getElem?_set_ne (show (66 : Nat) ≠ 65 by decide)]; exact g65
  have gfs_5_66 : fs_5[66]? = some (.int 1) := by rw [efs_5]; exact List.getElem?_set_self (by rw [hl0]; decide)
  have hP : va_P (dC, dI) vwCl [(h0, .inr (9, fs_5))] H := hP
  have hD : va_D A [(h0, .inr (9, fs_5))] := hD
  refine lv_iconst (v := 0) hx hb dX9_book_308 (by decide) ?_
  exact W.iret (v := 0) hx hb hr (fun t ht hW => ⟨⟨0, (), rfl, rfl, trivial⟩, hS.F ht⟩) hS.2.2 dX9_book_309
set_option maxHeartbeats 1000000 in
set_option maxRecDepth 100000 in
theorem c_X9_readOn (l : Launch) (dC : Nat → ClassId) (dI : Nat → Nat → Nat) (h0 : Nat) (fs : List Value) (sz : Nat) (hl0 : fs.length = 69) (g5 : fs[5]? = some (.int 0)) (g4 : fs[4]? = some (.int 0)) (g1 : fs[1]? = some (.int 0)) (g12 : fs[12]? = some (.int 0)) (g58 : fs[58]? = some (.int 0)) (g26 : fs[26]? = some (.int 0)) (g65 : fs[65]? = some (.int 0)) (g66 : fs[66]? = some (.int 0))  : Met l yX9_readOn wsX9_readOn ({ frames := 2, cells := 0, slots := 0, locals := 45 }) (va_Pc [.ref h0] (kPre dC dI [] [(h0, .inr (9, fs))] sz)) (va_Qi (fun (r : Int32) (_ : Unit) => r = 0) (fun (_ : Unit) (_ : State) => True) (va_A [(h0, .inr (9, fs))] sz)) 0 0 (va_A [(h0, .inr (9, fs))] sz) := by
  refine Met.ofW (cc := cX9_readOn) (maxL := 2) (ret := (some .int)) (by decide) rfl ?_
  intro p e s m args below meth c s₁ B hml hv
  obtain ⟨rfl, hsz, hP, hK, hD0, hN⟩ := hv
  have hx := B.exec
  have hb := B.bytes
  have hr := B.returns
  have hts := atoms_spec (ws := wsX9_readOn) B.pre
  have hown : s.vm.findClass RX9 = some m.cls := findClass_of_methodNamed B.named
  have hlocks := B.notSynchronized
  subst hsz
  have hD := hD0.self (sz := s.heap.size)
  generalize hAe : va_A [(h0, .inr (9, fs))] s.heap.size = A at hD ⊢
  have hA : ∀ q : Nat, s.heap.size ≤ q → A q := fun q h => by rw [← hAe]; exact Or.inr h
  have hS : va_S A s.heap s.heap [] := va_S.rf
  have hP : va_P (dC, dI) vwCl [(h0, .inr (9, fs))] s.heap := hP
  have hinX9 : ∀ w ∈ wsX90, w ∈ wsX9_readOn := fun _ h => List.mem_cons_of_mem _ (List.mem_append_right _ h)
  have hl := lv_entry ([.ref h0]) (n := 2) (Nat.le_of_ble_eq_true rfl)
  rw [lg_entry_eq]
  generalize (lg_sl ([.ref h0]) ++ List.replicate (2 - (lg_sl ([.ref h0])).length) Slot.unset).toArray = ls at hl ⊢
  have hl : lv_has ls 2 [(0, .ref h0)] := hl
  refine lv_aload_n hx hb dX9_readOn_0 rfl (lv_at hl 0 rfl) ?_
  refine lv_iconst (v := 0) hx hb dX9_readOn_1 (by decide) ?_
  refine va_put (D := (dC, dI)) (ci := 9) (v := .int 0) (ty := .boolean) (C := RX9) (T := TX9) (N := 69) hx hb hts hinX9 tyX9 tyX9_ok nmX9 hown hK hP hD hS 0 rfl rfl 5 (by decide) (hts (.fieldLink RX9 120 "CensusDeskModel" "isHeld" "Z") (List.mem_of_getElem? (i := 1) rfl)) (fun _ h9 => h9) rfl (by decide +kernel) (by first | rfl | decide) (by first | rfl | decide) (by rw [hl0]; decide) dX9_readOn_2 (fun H locs hP hD hS => ?_)
  obtain ⟨fs_1, efs_1⟩ : ∃ z : List Value, z = List.set fs 5 (.int 0) := ⟨_, rfl⟩
  rw [← efs_1] at hP hD
  have lfs_1 : fs_1.length = 69 := by rw [efs_1, List.length_set]; exact hl0
  have gfs_1_4 : fs_1[4]? = some (.int 0) := by rw [efs_1, List.getElem?_set_ne (show (5 : Nat) ≠ 4 by decide)]; exact g4
  have gfs_1_1 : fs_1[1]? = some (.int 0) := by rw [efs_1, List.getElem?_set_ne (show (5 : Nat) ≠ 1 by decide)]; exact g1
  have gfs_1_12 : fs_1[12]? = some (.int 0) := by rw [efs_1, List.getElem?_set_ne (show (5 : Nat) ≠ 12 by decide)]; exact g12
  have gfs_1_58 : fs_1[58]? = some (.int 0) := by rw [efs_1, List.getElem?_set_ne (show (5 : Nat) ≠ 58 by decide)]; exact g58
  have gfs_1_26 : fs_1[26]? = some (.int 0) := by rw [efs_1, List.getElem?_set_ne (show (5 : Nat) ≠ 26 by decide)]; exact g26
  have gfs_1_65 : fs_1[65]? = some (.int 0) := by rw [efs_1, List.getElem?_set_ne (show (5 : Nat) ≠ 65 by decide)]; exact g65
  have gfs_1_66 : fs_1[66]? = some (.int 0) := by rw [efs_1, List.getElem?_set_ne (show (5 : Nat) ≠ 66 by decide)]; exact g66
  have gfs_1_5 : fs_1[5]? = some (.int 0) := by rw [efs_1]; exact List.getElem?_set_self (by rw [hl0]; decide)
  have hP : va_P (dC, dI) vwCl [(h0, .inr (9, fs_1))] H := hP
  have hD : va_D A [(h0, .inr (9, fs_1))] := hD
  refine lv_aload_n hx hb dX9_readOn_5 rfl (lv_at hl 0 rfl) ?_
  refine va_get (D := (dC, dI)) (ci := 9) (v := .int 0) (C := RX9) (T := TX9) (N := 69) hx hb hts hinX9 hown hK hP 0 rfl rfl 4 (by decide) (hts (.fieldLink RX9 261 "CensusDeskModel" "place" "I") (List.mem_of_getElem? (i := 2) rfl)) (fun _ h9 => h9) gfs_1_4 dX9_readOn_6 ?_
  refine lv_aload_n hx hb dX9_readOn_9 rfl (lv_at hl 0 rfl) ?_
  refine va_get (D := (dC, dI)) (ci := 9) (v := .int 0) (C := RX9) (T := TX9) (N := 69) hx hb hts hinX9 hown hK hP 0 rfl rfl 1 (by decide) (hts (.fieldLink RX9 116 "CensusDeskModel" "fed" "I") (List.mem_of_getElem? (i := 3) rfl)) (fun _ h9 => h9) gfs_1_1 dX9_readOn_10 ?_
  refine lv_icmp_ge (tgt := 42) hx hb dX9_readOn_13 (by decide) (fun c_2 => ?_) (fun c_2 => absurd c_2 (by decide))
  refine lv_aload_n hx hb dX9_readOn_42 rfl (lv_at hl 0 rfl) ?_
  refine va_get (D := (dC, dI)) (ci := 9) (v := .int 0) (C := RX9) (T := TX9) (N := 69) hx hb hts hinX9 hown hK hP 0 rfl rfl 4 (by decide) (hts (.fieldLink RX9 261 "CensusDeskModel" "place" "I") (List.mem_of_getElem? (i := 2) rfl)) (fun _ h9 => h9) gfs_1_4 dX9_readOn_43 ?_
  refine lv_aload_n hx hb dX9_readOn_46 rfl (lv_at hl 0 rfl) ?_
  refine va_get (D := (dC, dI)) (ci := 9) (v := .int 0) (C := RX9) (T := TX9) (N := 69) hx hb hts hinX9 hown hK hP 0 rfl rfl 1 (by decide) (hts (.fieldLink RX9 116 "CensusDeskModel" "fed" "I") (List.mem_of_getElem? (i := 3) rfl)) (fun _ h9 => h9) gfs_1_1 dX9_readOn_47 ?_
  refine lv_icmp_ge (tgt := 64) hx hb dX9_readOn_50 (by decide) (fun c_3 => ?_) (fun c_3 => absurd c_3 (by decide))
  refine lv_iconst (v := (-1)) hx hb dX9_readOn_64 (by decide) ?_
  refine lv_istore_n (lv' := [(1, .int (-1)), (0, .ref h0)]) hx hb dX9_readOn_65 rfl hl (by decide) rfl (fun ls hl => ?_)
  refine lv_aload_n hx hb dX9_readOn_66 rfl (lv_at hl 1 rfl) ?_
  refine va_get (D := (dC, dI)) (ci := 9) (v := .int 0) (C := RX9) (T := TX9) (N := 69) hx hb hts hinX9 hown hK hP 0 rfl rfl 12 (by decide) (hts (.fieldLink RX9 141 "CensusDeskModel" "inHouse" "Z") (List.mem_of_getElem? (i := 4) rfl)) (fun _ h9 => h9) gfs_1_12 dX9_readOn_67 ?_
  refine lv_if_eq (tgt := 120) hx hb dX9_readOn_70 (by decide) (fun c_4 => ?_) (fun c_4 => absurd c_4 (by decide))
  refine lv_iload_n hx hb dX9_readOn_120 rfl (lv_at hl 0 rfl) ?_
  refine lv_if_ge (tgt := 129) hx hb dX9_readOn_121 (by decide) (fun c_5 => absurd c_5 (by decide)) (fun c_5 => ?_)
  refine lv_aload_n hx hb dX9_readOn_124 rfl (lv_at hl 1 rfl) ?_
  have hPc := hP.sub (ws' := [(h0, .inr (9, fs_1))]) [0] rfl
  have hDc := hD.sub (ws' := [(h0, .inr (9, fs_1))]) [0] (by decide) rfl
  have hKc := hK.sub (tys' := []) [] rfl
  have hFc := va_free (wc := [(h0, .inr (9, fs_1))]) hD hS hA [0] rfl
  refine va_calli (va_runV (As := []) (rest := []) ⟨hx, hb, hml, hown, hts⟩ (c_X9_book l dC dI h0 fs_1 _ lfs_1 gfs_1_58 gfs_1_26 gfs_1_65 gfs_1_66) (cwV 0 hts gX9_readOn_X9_book rfl rfl rfl (by decide +kernel) ⟨Nat.le_of_ble_eq_true rfl, Nat.le_of_ble_eq_true rfl⟩) (kPreV hPc hKc hDc hN (va_recv hKc hPc (ci := 9) (q0 := 0) rfl rfl)) rfl rfl hl.1 rfl (lv_room (Nat.le_of_ble_eq_true rfl)) dX9_readOn_125 ⟨(by decide +kernel), (by decide +kernel)⟩) hS (fun q _ h => hFc q h) hFc (fun r_6 u t H1 locs ht hvm hw hB hz1 hk1 hS => ?_)
  obtain ⟨hP, hD⟩ := kRest (wc := [(h0, .inr (9, fs_1))]) (wr := []) hP hD [0] [] rfl rfl (by decide) (by decide) hk1 hFc
  have hK := hK.sub (tys' := []) [] rfl
  generalize H1 = H at hP hS ⊢
  have hP : va_P (dC, dI) vwCl [] H := hP
  have hD : va_D A [] := hD
  try dsimp only at hw
  subst hw
  exact W.iret (v := 0) hx hb hr (fun t ht hW => ⟨⟨0, (), rfl, rfl, trivial⟩, hS.F ht⟩) hS.2.2 dX9_readOn_128
set_option maxHeartbeats 1000000 in
set_option maxRecDepth 100000 in
theorem c_X9_resume (l : Launch) (dC : Nat → ClassId) (dI : Nat → Nat → Nat) (h0 : Nat) (fs : List Value) (sz : Nat) (hl0 : fs.length = 69) (g5 : fs[5]? = some (.int 0))  : Met l yX9_resume wsX9_resume ({ frames := 0, cells := 0, slots := 0, locals := 0 }) (va_Pc [.ref h0] (kPre dC dI [] [(h0, .inr (9, fs))] sz)) (va_Qi (fun (r : Int32) (_ : Unit) => r = -1) (fun (_ : Unit) (_ : State) => True) (va_A [(h0, .inr (9, fs))] sz)) 0 0 (va_A [(h0, .inr (9, fs))] sz) := by
  refine Met.ofW (cc := cX9_resume) (maxL := 1) (ret := (some .int)) (by decide) rfl ?_
  intro p e s m args below meth c s₁ B hml hv
  obtain ⟨rfl, hsz, hP, hK, hD0, hN⟩ := hv
  have hx := B.exec
  have hb := B.bytes
  have hr := B.returns
  have hts := atoms_spec (ws := wsX9_resume) B.pre
  have hown : s.vm.findClass RX9 = some m.cls := findClass_of_methodNamed B.named
  have hlocks := B.notSynchronized
  subst hsz
  have hD := hD0.self (sz := s.heap.size)
  generalize hAe : va_A [(h0, .inr (9, fs))] s.heap.size = A at hD ⊢
  have hA : ∀ q : Nat, s.heap.size ≤ q → A q := fun q h => by rw [← hAe]; exact Or.inr h
  have hS : va_S A s.heap s.heap [] := va_S.rf
  have hP : va_P (dC, dI) vwCl [(h0, .inr (9, fs))] s.heap := hP
  have hinX9 : ∀ w ∈ wsX90, w ∈ wsX9_resume := fun _ h => List.mem_cons_of_mem _ (List.mem_append_right _ h)
  have hl := lv_entry ([.ref h0]) (n := 1) (Nat.le_of_ble_eq_true rfl)
  rw [lg_entry_eq]
  generalize (lg_sl ([.ref h0]) ++ List.replicate (1 - (lg_sl ([.ref h0])).length) Slot.unset).toArray = ls at hl ⊢
  have hl : lv_has ls 1 [(0, .ref h0)] := hl
  refine lv_aload_n hx hb dX9_resume_0 rfl (lv_at hl 0 rfl) ?_
  refine va_get (D := (dC, dI)) (ci := 9) (v := .int 0) (C := RX9) (T := TX9) (N := 69) hx hb hts hinX9 hown hK hP 0 rfl rfl 5 (by decide) (hts (.fieldLink RX9 120 "CensusDeskModel" "isHeld" "Z") (List.mem_of_getElem? (i := 1) rfl)) (fun _ h9 => h9) g5 dX9_resume_1 ?_
  refine lv_if_eq (tgt := 14) hx hb dX9_resume_4 (by decide) (fun c_1 => ?_) (fun c_1 => absurd c_1 (by decide))
  refine lv_iconst (v := (-1)) hx hb dX9_resume_14 (by decide) ?_
  exact W.iret (v := (-1)) hx hb hr (fun t ht hW => ⟨⟨(-1), (), rfl, rfl, trivial⟩, hS.F ht⟩) hS.2.2 dX9_resume_15
set_option maxHeartbeats 1000000 in
set_option maxRecDepth 100000 in
theorem c_X9_drop (l : Launch) (dC : Nat → ClassId) (dI : Nat → Nat → Nat) (h0 : Nat) (fs : List Value) (sz : Nat) (hl0 : fs.length = 69) (g5 : fs[5]? = some (.int 0))  : Met l yX9_drop wsX9_drop ({ frames := 0, cells := 0, slots := 0, locals := 0 }) (va_Pc [.ref h0] (kPre dC dI [] [(h0, .inr (9, fs))] sz)) (va_Qi (fun (r : Int32) (_ : Unit) => r = -1) (fun (_ : Unit) (_ : State) => True) (va_A [(h0, .inr (9, fs))] sz)) 0 0 (va_A [(h0, .inr (9, fs))] sz) := by
  refine Met.ofW (cc := cX9_drop) (maxL := 1) (ret := (some .int)) (by decide) rfl ?_
  intro p e s m args below meth c s₁ B hml hv
  obtain ⟨rfl, hsz, hP, hK, hD0, hN⟩ := hv
  have hx := B.exec
  have hb := B.bytes
  have hr := B.returns
  have hts := atoms_spec (ws := wsX9_drop) B.pre
  have hown : s.vm.findClass RX9 = some m.cls := findClass_of_methodNamed B.named
  have hlocks := B.notSynchronized
  subst hsz
  have hD := hD0.self (sz := s.heap.size)
  generalize hAe : va_A [(h0, .inr (9, fs))] s.heap.size = A at hD ⊢
  have hA : ∀ q : Nat, s.heap.size ≤ q → A q := fun q h => by rw [← hAe]; exact Or.inr h
  have hS : va_S A s.heap s.heap [] := va_S.rf
  have hP : va_P (dC, dI) vwCl [(h0, .inr (9, fs))] s.heap := hP
  have hinX9 : ∀ w ∈ wsX90, w ∈ wsX9_drop := fun _ h => List.mem_cons_of_mem _ (List.mem_append_right _ h)
  have hl := lv_entry ([.ref h0]) (n := 1) (Nat.le_of_ble_eq_true rfl)
  rw [lg_entry_eq]
  generalize (lg_sl ([.ref h0]) ++ List.replicate (1 - (lg_sl ([.ref h0])).length) Slot.unset).toArray = ls at hl ⊢
  have hl : lv_has ls 1 [(0, .ref h0)] := hl
  refine lv_aload_n hx hb dX9_drop_0 rfl (lv_at hl 0 rfl) ?_
  refine va_get (D := (dC, dI)) (ci := 9) (v := .int 0) (C := RX9) (T := TX9) (N := 69) hx hb hts hinX9 hown hK hP 0 rfl rfl 5 (by decide) (hts (.fieldLink RX9 120 "CensusDeskModel" "isHeld" "Z") (List.mem_of_getElem? (i := 1) rfl)) (fun _ h9 => h9) g5 dX9_drop_1 ?_
  refine lv_if_ne (tgt := 9) hx hb dX9_drop_4 (by decide) (fun c_1 => absurd c_1 (by decide)) (fun c_1 => ?_)
  refine lv_iconst (v := (-1)) hx hb dX9_drop_7 (by decide) ?_
  exact W.iret (v := (-1)) hx hb hr (fun t ht hW => ⟨⟨(-1), (), rfl, rfl, trivial⟩, hS.F ht⟩) hS.2.2 dX9_drop_8
set_option maxHeartbeats 1000000 in
set_option maxRecDepth 100000 in
theorem c_X9_failures (l : Launch) (dC : Nat → ClassId) (dI : Nat → Nat → Nat) (h0 : Nat) (fs : List Value) (sz : Nat) (hl0 : fs.length = 69) (g40 : fs[40]? = some (.int 0))  : Met l yX9_failures wsX9_failures ({ frames := 0, cells := 0, slots := 0, locals := 0 }) (va_Pc [.ref h0] (kPre dC dI [] [(h0, .inr (9, fs))] sz)) (va_Qi (fun (r : Int32) (_ : Unit) => r = 0) (fun (_ : Unit) (_ : State) => True) (va_A [(h0, .inr (9, fs))] sz)) 0 0 (va_A [(h0, .inr (9, fs))] sz) := by
  refine Met.ofW (cc := cX9_failures) (maxL := 1) (ret := (some .int)) (by decide) rfl ?_
  intro p e s m args below meth c s₁ B hml hv
  obtain ⟨rfl, hsz, hP, hK, hD0, hN⟩ := hv
  have hx := B.exec
  have hb := B.bytes
  have hr := B.returns
  have hts := atoms_spec (ws := wsX9_failures) B.pre
  have hown : s.vm.findClass RX9 = some m.cls := findClass_of_methodNamed B.named
  have hlocks := B.notSynchronized
  subst hsz
  have hD := hD0.self (sz := s.heap.size)
  generalize hAe : va_A [(h0, .inr (9, fs))] s.heap.size = A at hD ⊢
  have hA : ∀ q : Nat, s.heap.size ≤ q → A q := fun q h => by rw [← hAe]; exact Or.inr h
  have hS : va_S A s.heap s.heap [] := va_S.rf
  have hP : va_P (dC, dI) vwCl [(h0, .inr (9, fs))] s.heap := hP
  have hinX9 : ∀ w ∈ wsX90, w ∈ wsX9_failures := fun _ h => List.mem_cons_of_mem _ (List.mem_append_right _ h)
  have hl := lv_entry ([.ref h0]) (n := 1) (Nat.le_of_ble_eq_true rfl)
  rw [lg_entry_eq]
  generalize (lg_sl ([.ref h0]) ++ List.replicate (1 - (lg_sl ([.ref h0])).length) Slot.unset).toArray = ls at hl ⊢
  have hl : lv_has ls 1 [(0, .ref h0)] := hl
  refine lv_aload_n hx hb dX9_failures_0 rfl (lv_at hl 0 rfl) ?_
  refine va_get (D := (dC, dI)) (ci := 9) (v := .int 0) (C := RX9) (T := TX9) (N := 69) hx hb hts hinX9 hown hK hP 0 rfl rfl 40 (by decide) (hts (.fieldLink RX9 135 "CensusDeskModel" "fails" "I") (List.mem_of_getElem? (i := 1) rfl)) (fun _ h9 => h9) g40 dX9_failures_1 ?_
  exact W.iret (v := 0) hx hb hr (fun t ht hW => ⟨⟨0, (), rfl, rfl, trivial⟩, hS.F ht⟩) hS.2.2 dX9_failures_4
