/-! rows for constructors -/
theorem k_cellB (c : ClassId) (N : Nat) : vp_cell c (N, .inl (fun _ => 0)) = arrV c N (fun _ => defaultValue .byte) := rfl
theorem k_cellI (c : ClassId) (N : Nat) : vp_cell c (N, .inl (fun _ => 0)) = arrV c N (fun _ => defaultValue .int) := rfl
theorem k_inner (c : ClassId) (N : Nat) : Jvm.Free.Multi.innerC c N (defaultValue .int) = vp_cell c (N, .inl (fun _ => 0)) := arrV_new c N _
theorem k_pl5e {f : Nat → va_E} {e : va_E} {r : Nat → Nat} : va_pl ([] ++ (List.range 5).map r) (vr_up f ((List.range 5).map r) e) = [(r 0, e), (r 1, e), (r 2, e), (r 3, e), (r 4, e)] := by
  have h : ∀ i, i < 5 → vr_up f ((List.range 5).map r) e (r i) = e := fun i hi => by
    unfold vr_up
    rw [if_pos (List.mem_map_of_mem (List.mem_range.mpr hi))]
  show [(r 0, _), (r 1, _), (r 2, _), (r 3, _), (r 4, _)] = _
  rw [h 0 (by decide), h 1 (by decide), h 2 (by decide), h 3 (by decide), h 4 (by decide)]
theorem k_pl5 {D : va_G} {cl : List vw_C} {H : Heap} {X : va_W} {f : Nat → va_E} {e : va_E} {r : Nat → Nat} (hP : va_P D cl (X ++ va_pl ([] ++ (List.range 5).map r) (vr_up f ((List.range 5).map r) e)) H) : va_P D cl (X ++ [(r 0, e), (r 1, e), (r 2, e), (r 3, e), (r 4, e)]) H := by
  rw [← k_pl5e (f := f)]
  exact hP
theorem k_pl5D {A : Nat → Prop} {X : va_W} {f : Nat → va_E} {e : va_E} {r : Nat → Nat} (hD : va_D A (X ++ va_pl ([] ++ (List.range 5).map r) (vr_up f ((List.range 5).map r) e))) : va_D A (X ++ [(r 0, e), (r 1, e), (r 2, e), (r 3, e), (r 4, e)]) := by
  rw [← k_pl5e (f := f)]
  exact hD
theorem row5 {a r : Nat → Nat} {rb : Nat} (h : ∀ i, i < 5 → r i = a (rb + i)) : (fun i => if i < 5 then some (r i) else none) = (fun i => if i < 5 then some (a (rb + i)) else none) := by
  funext i
  by_cases h5 : i < 5
  · rw [if_pos h5, if_pos h5, h i h5]
  · rw [if_neg h5, if_neg h5]
set_option maxHeartbeats 1000000 in
set_option maxRecDepth 100000 in
theorem c_X7_init (l : Launch) (dC : Nat → ClassId) (dI : Nat → Nat → Nat) (h0 : Nat) (sz : Nat)  : Met l yX7_init wsX7_init ({ frames := 1, cells := 1, slots := 4000, locals := 24 }) (va_Pc [.ref h0] (kPre dC dI [] [(h0, .inr (7, [.null, .int 0]))] sz)) (va_Qv (fun (_ : Unit) => True) (fun (_ : Unit) (t : State) => ∃ (qb : Nat) (cB : ClassId), kB dC dI (va_A [(h0, .inr (7, [.null, .int 0]))] sz) [(cB, .byte)] [(h0, .inr (7, [.ref qb, .int 0])), (qb, .inl (cB, 4000, .inl ((fun _ => 0))))] t) (va_A [(h0, .inr (7, [.null, .int 0]))] sz)) 1 4000 (va_A [(h0, .inr (7, [.null, .int 0]))] sz) := by
  refine Met.ofW (cc := cX7_init) (maxL := 1) (ret := none) (by decide) rfl ?_
  intro p e s m args below meth c s₁ B hml hv
  obtain ⟨rfl, hsz, hP, hK, hD0, hN⟩ := hv
  have hx := B.exec
  have hb := B.bytes
  have hr := B.returns
  have hts := atoms_spec (ws := wsX7_init) B.pre
  have hown : s.vm.findClass RX7 = some m.cls := findClass_of_methodNamed B.named
  have hlocks := B.notSynchronized
  have hin : meth.name = "<init>" := (name_of_methodNamed B.named B.method).1
  have hAO := hN.2.2
  subst hsz
  have hD := hD0.self (sz := s.heap.size)
  generalize hAe : va_A [(h0, .inr (7, [.null, .int 0]))] s.heap.size = A at hD ⊢
  have hA : ∀ q : Nat, s.heap.size ≤ q → A q := fun q h => by rw [← hAe]; exact Or.inr h
  have hS : va_S A s.heap s.heap [] := va_S.rf
  have hP : va_P (dC, dI) vwCl [(h0, .inr (7, [.null, .int 0]))] s.heap := hP
  have hinX7 : ∀ w ∈ wsX70, w ∈ wsX7_init := fun _ h => List.mem_cons_of_mem _ (List.mem_append_right _ h)
  have hl := lv_entry ([.ref h0]) (n := 1) (Nat.le_of_ble_eq_true rfl)
  rw [lg_entry_eq]
  generalize (lg_sl ([.ref h0]) ++ List.replicate (1 - (lg_sl ([.ref h0])).length) Slot.unset).toArray = ls at hl ⊢
  have hl : lv_has ls 1 [(0, .ref h0)] := hl
  refine lv_aload_n hx hb dX7_init_0 rfl (lv_at hl 0 rfl) ?_
  refine W.objInit hx hb hown (hts (.methodLink RX7 3 objectInit) (List.mem_of_getElem? (i := 1) rfl)) (hts (.instanceMethod objectInit) (List.mem_of_getElem? (i := 2) rfl)) (hts (.code objectInit ⟨#[0xb1]⟩ 1 none) (List.mem_of_getElem? (i := 3) rfl)) rfl (by rw [hml]; exact hl.1) rfl dX7_init_1 (Nat.le_of_ble_eq_true rfl) (Nat.le_of_ble_eq_true rfl) ?_
  refine W.eq (g2 := F0 m 4 ls []) rfl ?_
  refine lv_aload_n hx hb dX7_init_4 rfl (lv_at hl 0 rfl) ?_
  refine lv_sipush (v := 4000) hx hb dX7_init_5 (by decide) ?_
  refine va_newa (atype := .byte) (a0 := (4000, .inl (fun _ => 0))) (ty := .byte) (N' := 4000) hx hb (hts (.arrayClass .byte) (List.mem_of_getElem? (i := 4) rfl)) rfl hK hP hD hS hA (fun c9 => k_cellB c9 4000) (by decide +kernel) (by decide +kernel) (by decide +kernel) (by decide +kernel) (by decide +kernel) dX7_init_8 (fun q_1 k_2 H hK hP hD hS => ?_)
  have hP : va_P (dC, dI) vwCl [(h0, .inr (7, [.null, .int 0])), (q_1, .inl (k_2, 4000, .inl ((fun _ => 0))))] H := hP
  have hD : va_D A [(h0, .inr (7, [.null, .int 0])), (q_1, .inl (k_2, 4000, .inl ((fun _ => 0))))] := hD
  have hK : va_K (dC, dI) vwCl [(k_2, .byte)] s := hK
  refine W.widen (k := 1) (n := 4000) (by decide +kernel) (by decide +kernel) ?_
  refine va_putF (D := (dC, dI)) (ci := 7) (v := .ref q_1) (ty := .array .byte) (C := RX7) (T := TX7) (N := 2) hx hb hts hinX7 tyX7 tyX7_ok nmX7 hown hK hP hD hS 0 rfl rfl 0 (by decide) (hts (.fieldLink RX7 11 "CensusDesk$Tape" "bytes" "[B") (List.mem_of_getElem? (i := 5) rfl)) (fun _ h9 => h9) rfl hin rfl (by decide +kernel) rfl rfl (Nat.le_of_ble_eq_true rfl) dX7_init_10 (fun H locs hP hD hS => ?_)
  have hP : va_P (dC, dI) vwCl [(h0, .inr (7, [.ref q_1, .int 0])), (q_1, .inl (k_2, 4000, .inl ((fun _ => 0))))] H := hP
  have hD : va_D A [(h0, .inr (7, [.ref q_1, .int 0])), (q_1, .inl (k_2, 4000, .inl ((fun _ => 0))))] := hD
  have hP9 := hP.sub (ws' := [(h0, .inr (7, [.ref q_1, .int 0])), (q_1, .inl (k_2, 4000, .inl ((fun _ => 0))))]) [0, 1] rfl
  have hD9 := hD.sub (ws' := [(h0, .inr (7, [.ref q_1, .int 0])), (q_1, .inl (k_2, 4000, .inl ((fun _ => 0))))]) [0, 1] (by decide) rfl
  have hK9 := hK.sub (tys' := [(k_2, .byte)]) [0] rfl
  exact W.vret hx hb hr (fun t ht hW => ⟨⟨(), rfl, trivial, q_1, k_2, ⟨by rw [ht]; exact hP9, va_K.moved hW.alike hK9, hD9⟩⟩, hS.F ht⟩) hS.2.2 dX7_init_13
set_option maxHeartbeats 1000000 in
set_option maxRecDepth 100000 in
theorem c_fill (l : Launch) (dC : Nat → ClassId) (dI : Nat → Nat → Nat) (h1 : Nat) (cA : ClassId) (N : Nat) (f : Nat → Int32) (v : Int32) (sz : Nat) (hNN : N < 2 ^ 31) : Met l yJ7_fill_53178 wsJ7_fill_53178 ({ frames := 0, cells := 0, slots := 0, locals := 0 }) (va_Pc [.ref h1, .int v] (kPre dC dI [(cA, .int)] [(h1, .inl (cA, N, .inl f))] sz)) (va_Qv (fun (_ : Unit) => True) (fun (_ : Unit) (t : State) => ∃ (f2 : Nat → Int32), (∀ j, j < N → f2 j = v) ∧ kB dC dI (va_A [(h1, .inl (cA, N, .inl f))] sz) [(cA, .int)] [(h1, .inl (cA, N, .inl f2))] t) (va_A [(h1, .inl (cA, N, .inl f))] sz)) 0 0 (va_A [(h1, .inl (cA, N, .inl f))] sz) := by
  refine Met.ofW (cc := cJ7_fill_53178) (maxL := 4) (ret := none) (by decide) rfl ?_
  intro p e s m args below meth c s₁ B hml hv
  obtain ⟨rfl, hsz, hP, hK, hD0, hN⟩ := hv
  have hx := B.exec
  have hb := B.bytes
  have hr := B.returns
  have hts := atoms_spec (ws := wsJ7_fill_53178) B.pre
  have hown : s.vm.findClass RJ7 = some m.cls := findClass_of_methodNamed B.named
  have hlocks := B.notSynchronized
  subst hsz
  have hD := hD0.self (sz := s.heap.size)
  generalize hAe : va_A [(h1, .inl (cA, N, .inl f))] s.heap.size = A at hD ⊢
  have hA : ∀ q : Nat, s.heap.size ≤ q → A q := fun q h => by rw [← hAe]; exact Or.inr h
  have hS : va_S A s.heap s.heap [] := va_S.rf
  have hP : va_P (dC, dI) vwCl [(h1, .inl (cA, N, .inl f))] s.heap := hP
  have hl := lv_entry ([.ref h1, .int v]) (n := 4) (Nat.le_of_ble_eq_true rfl)
  rw [lg_entry_eq]
  generalize (lg_sl ([.ref h1, .int v]) ++ List.replicate (4 - (lg_sl ([.ref h1, .int v])).length) Slot.unset).toArray = ls at hl ⊢
  have hl : lv_has ls 4 [(0, .ref h1), (1, .int v)] := hl
  refine k_gen (fun QQ eQ => ?_)
  refine lv_iconst (v := 0) hx hb dJ7_fill_53178_0 (by decide) ?_
  refine lv_istore_n (lv' := [(2, .int 0), (0, .ref h1), (1, .int v)]) hx hb dJ7_fill_53178_1 rfl hl (by decide) rfl (fun ls hl => ?_)
  refine lv_aload_n hx hb dJ7_fill_53178_2 rfl (lv_at hl 1 rfl) ?_
  refine va_alen hx hb hK hP 0 0 rfl rfl (v := (nI N)) rfl dJ7_fill_53178_3 ?_
  refine lv_istore_n (lv' := [(3, .int (nI N)), (2, .int 0), (0, .ref h1), (1, .int v)]) hx hb dJ7_fill_53178_4 rfl hl (by decide) rfl (fun ls hl => ?_)
  have loop5 : ∀ (n5 : Nat) (i : Nat) (f : Nat → Int32) (H : Heap) (locs : List Loc) (ls : Array Slot), (i ≤ N) → (∀ j, j < i → f j = v) → N - i < n5 → va_P (dC, dI) vwCl [(h1, .inl (cA, N, .inl f))] H → va_D A [(h1, .inl (cA, N, .inl f))] → va_S A s.heap H locs → lv_has ls 4 [(2, .int (nI i)), (0, .ref h1), (1, .int v), (3, .int (nI N))] → W p l e ({ frames := 0, cells := 0, slots := 0, locals := 0 } : Room) s m ([.ref h1, .int v] : List Value).toArray below meth c H locs 0 0 QQ (F0 m 5 ls []) := by
    intro n5
    induction n5 with
    | zero =>
      intro i f H locs ls hi hf hm
      exact absurd hm (Nat.not_lt_zero _)
    | succ n5 ih5 =>
      intro i f H locs ls hi hf hm hP hD hS hl
      refine lv_iload_n hx hb dJ7_fill_53178_5 rfl (lv_at hl 0 rfl) ?_
      refine lv_iload_n hx hb dJ7_fill_53178_6 rfl (lv_at hl 3 rfl) ?_
      refine lv_icmp_ge (tgt := 20) hx hb dJ7_fill_53178_7 (by decide) (fun c_1 => ?_) (fun c_1 => ?_)
      · have hge : N ≤ i := by rcases Nat.lt_or_ge i N with q | q; exact absurd c_1 (nI_ge q hNN); exact q
        subst eQ
        have hP9 := hP.sub (ws' := [(h1, .inl (cA, N, .inl f))]) [0] rfl
        have hD9 := hD.sub (ws' := [(h1, .inl (cA, N, .inl f))]) [0] (by decide) rfl
        have hK9 := hK.sub (tys' := [(cA, .int)]) [0] rfl
        exact W.vret hx hb hr (fun t ht hW => ⟨⟨(), rfl, trivial, f, (fun j h => hf j (by omega)), ⟨by rw [ht]; exact hP9, va_K.moved hW.alike hK9, hD9⟩⟩, hS.F ht⟩) hS.2.2 dJ7_fill_53178_20
      · have hlt : i < N := by rcases Nat.lt_or_ge i N with q | q; exact q; exact absurd (nI_le q (by omega)) c_1
        refine lv_aload_n hx hb dJ7_fill_53178_10 rfl (lv_at hl 1 rfl) ?_
        refine lv_iload_n hx hb dJ7_fill_53178_11 rfl (lv_at hl 0 rfl) ?_
        refine lv_iload_n hx hb dJ7_fill_53178_12 rfl (lv_at hl 2 rfl) ?_
        refine va_iast hx hb hK hP hD hS 0 0 rfl rfl (i := (nI i)) (x := v) (vp_in_nI hlt hNN) dJ7_fill_53178_13 (fun H locs hP hD hS => ?_)
        obtain ⟨f_2, ef_2⟩ : ∃ z : Nat → Int32, z = upd f (Int32.toNatClampNeg (nI i)) v := ⟨_, rfl⟩
        rw [← ef_2] at hP hD
        have hP : va_P (dC, dI) vwCl [(h1, .inl (cA, N, .inl f_2))] H := hP
        have hD : va_D A [(h1, .inl (cA, N, .inl f_2))] := hD
        refine lv_iinc (v := (nI (i + 1))) (lv' := [(2, .int (nI (i + 1))), (0, .ref h1), (1, .int v), (3, .int (nI N))]) hx hb dJ7_fill_53178_14 hl (k := 0) rfl (nI_1 i) (by decide) rfl (fun ls hl => ?_)
        refine lv_goto (tgt := 5) hx hb dJ7_fill_53178_17 (by decide) ?_
        exact ih5 (i + 1) (f_2) _ _ _ hlt (fun j h => by rw [ef_2, nI_clamp (by omega)]; rcases Nat.lt_succ_iff_lt_or_eq.mp h with h | h; exact (pk_un (by omega)).trans (hf j h); rw [h]; exact pk_us) (by omega) (hP.sub [0] rfl) (hD.sub [0] (by decide) rfl) hS (lv_sub hl [0, 1, 2, 3] rfl)
  exact loop5 (N - 0 + 1) (0) (f) _ _ _ (Nat.zero_le _) (fun j h => absurd h (Nat.not_lt_zero j)) (Nat.lt_succ_self _) (hP.sub [0] rfl) (hD.sub [0] (by decide) rfl) hS (lv_sub hl [1, 2, 3, 0] rfl)
set_option maxHeartbeats 1000000 in
set_option maxRecDepth 100000 in
theorem c_X5_init (l : Launch) (dC : Nat → ClassId) (dI : Nat → Nat → Nat) (h0 : Nat) (sz : Nat)  : Met l yX5_init wsX5_init ({ frames := 1, cells := 2, slots := 60, locals := 24 }) (va_Pc [.ref h0] (kPre dC dI [] [(h0, .inr (5, [.null, .null]))] sz)) (va_Qv (fun (_ : Unit) => True) (fun (_ : Unit) (t : State) => ∃ (qw : Nat) (kw : ClassId) (qn : Nat) (kn : ClassId) (fw : Nat → Int32), kB dC dI (va_A [(h0, .inr (5, [.null, .null]))] sz) [(kw, .int), (kn, .int)] [(h0, .inr (5, [.ref qw, .ref qn])), (qw, .inl (kw, 30, .inl fw)), (qn, .inl (kn, 30, .inl ((fun _ => 0))))] t) (va_A [(h0, .inr (5, [.null, .null]))] sz)) 2 60 (va_A [(h0, .inr (5, [.null, .null]))] sz) := by
  refine Met.ofW (cc := cX5_init) (maxL := 1) (ret := none) (by decide) rfl ?_
  intro p e s m args below meth c s₁ B hml hv
  obtain ⟨rfl, hsz, hP, hK, hD0, hN⟩ := hv
  have hx := B.exec
  have hb := B.bytes
  have hr := B.returns
  have hts := atoms_spec (ws := wsX5_init) B.pre
  have hown : s.vm.findClass RX5 = some m.cls := findClass_of_methodNamed B.named
  have hlocks := B.notSynchronized
  have hin : meth.name = "<init>" := (name_of_methodNamed B.named B.method).1
  have hAO := hN.2.2
  subst hsz
  have hD := hD0.self (sz := s.heap.size)
  generalize hAe : va_A [(h0, .inr (5, [.null, .null]))] s.heap.size = A at hD ⊢
  have hA : ∀ q : Nat, s.heap.size ≤ q → A q := fun q h => by rw [← hAe]; exact Or.inr h
  have hS : va_S A s.heap s.heap [] := va_S.rf
  have hP : va_P (dC, dI) vwCl [(h0, .inr (5, [.null, .null]))] s.heap := hP
  have hinX5 : ∀ w ∈ wsX50, w ∈ wsX5_init := fun _ h => List.mem_cons_of_mem _ (List.mem_append_right _ h)
  have hl := lv_entry ([.ref h0]) (n := 1) (Nat.le_of_ble_eq_true rfl)
  rw [lg_entry_eq]
  generalize (lg_sl ([.ref h0]) ++ List.replicate (1 - (lg_sl ([.ref h0])).length) Slot.unset).toArray = ls at hl ⊢
  have hl : lv_has ls 1 [(0, .ref h0)] := hl
  refine lv_aload_n hx hb dX5_init_0 rfl (lv_at hl 0 rfl) ?_
  refine W.objInit hx hb hown (hts (.methodLink RX5 3 objectInit) (List.mem_of_getElem? (i := 1) rfl)) (hts (.instanceMethod objectInit) (List.mem_of_getElem? (i := 2) rfl)) (hts (.code objectInit ⟨#[0xb1]⟩ 1 none) (List.mem_of_getElem? (i := 3) rfl)) rfl (by rw [hml]; exact hl.1) rfl dX5_init_1 (Nat.le_of_ble_eq_true rfl) (Nat.le_of_ble_eq_true rfl) ?_
  refine W.eq (g2 := F0 m 4 ls []) rfl ?_
  refine lv_aload_n hx hb dX5_init_4 rfl (lv_at hl 0 rfl) ?_
  refine lv_bipush (v := 30) hx hb dX5_init_5 (by decide) ?_
  refine va_newa (atype := .int) (a0 := (30, .inl (fun _ => 0))) (ty := .int) (N' := 30) hx hb (hts (.arrayClass .int) (List.mem_of_getElem? (i := 4) rfl)) rfl hK hP hD hS hA (fun c9 => k_cellI c9 30) (by decide +kernel) (by decide +kernel) (by decide +kernel) (by decide +kernel) (by decide +kernel) dX5_init_7 (fun q_1 k_2 H hK hP hD hS => ?_)
  have hP : va_P (dC, dI) vwCl [(h0, .inr (5, [.null, .null])), (q_1, .inl (k_2, 30, .inl ((fun _ => 0))))] H := hP
  have hD : va_D A [(h0, .inr (5, [.null, .null])), (q_1, .inl (k_2, 30, .inl ((fun _ => 0))))] := hD
  have hK : va_K (dC, dI) vwCl [(k_2, .int)] s := hK
  refine W.widen (k := 1) (n := 30) (by decide +kernel) (by decide +kernel) ?_
  refine va_putF (D := (dC, dI)) (ci := 5) (v := .ref q_1) (ty := .array .int) (C := RX5) (T := TX5) (N := 2) hx hb hts hinX5 tyX5 tyX5_ok nmX5 hown hK hP hD hS 0 rfl rfl 0 (by decide) (hts (.fieldLink RX5 9 "CensusDesk$Rules" "way" "[I") (List.mem_of_getElem? (i := 5) rfl)) (fun _ h9 => h9) rfl hin rfl (by decide +kernel) rfl rfl (Nat.le_of_ble_eq_true rfl) dX5_init_9 (fun H locs hP hD hS => ?_)
  have hP : va_P (dC, dI) vwCl [(h0, .inr (5, [.ref q_1, .null])), (q_1, .inl (k_2, 30, .inl ((fun _ => 0))))] H := hP
  have hD : va_D A [(h0, .inr (5, [.ref q_1, .null])), (q_1, .inl (k_2, 30, .inl ((fun _ => 0))))] := hD
  refine lv_aload_n hx hb dX5_init_12 rfl (lv_at hl 0 rfl) ?_
  refine lv_bipush (v := 30) hx hb dX5_init_13 (by decide) ?_
  refine va_newa (atype := .int) (a0 := (30, .inl (fun _ => 0))) (ty := .int) (N' := 30) hx hb (hts (.arrayClass .int) (List.mem_of_getElem? (i := 4) rfl)) rfl hK hP hD hS hA (fun c9 => k_cellI c9 30) (by decide +kernel) (by decide +kernel) (by decide +kernel) (by decide +kernel) (by decide +kernel) dX5_init_15 (fun q_3 k_4 H hK hP hD hS => ?_)
  have hP : va_P (dC, dI) vwCl [(h0, .inr (5, [.ref q_1, .null])), (q_1, .inl (k_2, 30, .inl ((fun _ => 0)))), (q_3, .inl (k_4, 30, .inl ((fun _ => 0))))] H := hP
  have hD : va_D A [(h0, .inr (5, [.ref q_1, .null])), (q_1, .inl (k_2, 30, .inl ((fun _ => 0)))), (q_3, .inl (k_4, 30, .inl ((fun _ => 0))))] := hD
  have hK : va_K (dC, dI) vwCl [(k_2, .int), (k_4, .int)] s := hK
  refine W.widen (k := 2) (n := 60) (by decide +kernel) (by decide +kernel) ?_
  refine va_putF (D := (dC, dI)) (ci := 5) (v := .ref q_3) (ty := .array .int) (C := RX5) (T := TX5) (N := 2) hx hb hts hinX5 tyX5 tyX5_ok nmX5 hown hK hP hD hS 0 rfl rfl 1 (by decide) (hts (.fieldLink RX5 15 "CensusDesk$Rules" "number" "[I") (List.mem_of_getElem? (i := 6) rfl)) (fun _ h9 => h9) rfl hin rfl (by decide +kernel) rfl rfl (Nat.le_of_ble_eq_true rfl) dX5_init_17 (fun H locs hP hD hS => ?_)
  have hP : va_P (dC, dI) vwCl [(h0, .inr (5, [.ref q_1, .ref q_3])), (q_1, .inl (k_2, 30, .inl ((fun _ => 0)))), (q_3, .inl (k_4, 30, .inl ((fun _ => 0))))] H := hP
  have hD : va_D A [(h0, .inr (5, [.ref q_1, .ref q_3])), (q_1, .inl (k_2, 30, .inl ((fun _ => 0)))), (q_3, .inl (k_4, 30, .inl ((fun _ => 0))))] := hD
  refine lv_aload_n hx hb dX5_init_20 rfl (lv_at hl 0 rfl) ?_
  refine va_get (D := (dC, dI)) (ci := 5) (v := .ref q_1) (C := RX5) (T := TX5) (N := 2) hx hb hts hinX5 hown hK hP 0 rfl rfl 0 (by decide) (hts (.fieldLink RX5 9 "CensusDesk$Rules" "way" "[I") (List.mem_of_getElem? (i := 5) rfl)) (fun _ h9 => h9) rfl dX5_init_21 ?_
  refine lv_iconst (v := (-1)) hx hb dX5_init_24 (by decide) ?_
  have hPc := hP.sub (ws' := [(q_1, .inl (k_2, 30, .inl ((fun _ => 0))))]) [1] rfl
  have hDc := hD.sub (ws' := [(q_1, .inl (k_2, 30, .inl ((fun _ => 0))))]) [1] (by decide) rfl
  have hKc := hK.sub (tys' := [(k_2, .int)]) [0] rfl
  have hFc := va_free (wc := [(q_1, .inl (k_2, 30, .inl ((fun _ => 0))))]) hD hS hA [1] rfl
  refine va_callv (va_runS (As := [.ref q_1, .int (-1)]) (rest := []) ⟨hx, hb, hml, hown, hts⟩ (c_fill l dC dI q_1 k_2 30 (fun _ => 0) (-1) _ (by decide)) (va_cwS 2 hts gX5_init_J7_fill_53178 rfl rfl rfl (by decide +kernel) ⟨Nat.le_of_ble_eq_true rfl, Nat.le_of_ble_eq_true rfl⟩) (kPreS hPc hKc hDc hN) rfl rfl hl.1 rfl (lv_room (Nat.le_of_ble_eq_true rfl)) dX5_init_25 ⟨(by decide +kernel), (by decide +kernel)⟩) hS (fun q _ h => hFc q h) hFc (fun u t H1 locs ht hvm hw hB hz1 hk1 hS => ?_)
  obtain ⟨f2_6, hf_7, hB⟩ := hB
  obtain ⟨hP, hD, hK⟩ := kJoin (wc := [(q_1, .inl (k_2, 30, .inl ((fun _ => 0))))]) (wr := [(h0, .inr (5, [.ref q_1, .ref q_3])), (q_3, .inl (k_4, 30, .inl ((fun _ => 0))))]) (w1 := [(q_1, .inl (k_2, 30, .inl f2_6))]) hP hD hK [1] [0, 2] rfl rfl (by decide) (by decide) hk1 hFc ht hvm hB
  have hK : va_K (dC, dI) vwCl [(k_2, .int), (k_4, .int), (k_2, .int)] s := hK
  have hK := hK.sub (tys' := [(k_4, .int), (k_2, .int)]) [1, 2] rfl
  generalize H1 = H at hP hS ⊢
  have hP : va_P (dC, dI) vwCl [(h0, .inr (5, [.ref q_1, .ref q_3])), (q_3, .inl (k_4, 30, .inl ((fun _ => 0)))), (q_1, .inl (k_2, 30, .inl f2_6))] H := hP
  have hD : va_D A [(h0, .inr (5, [.ref q_1, .ref q_3])), (q_3, .inl (k_4, 30, .inl ((fun _ => 0)))), (q_1, .inl (k_2, 30, .inl f2_6))] := hD
  try dsimp only at hw
  refine lv_aload_n hx hb dX5_init_28 rfl (lv_at hl 0 rfl) ?_
  refine va_get (D := (dC, dI)) (ci := 5) (v := .ref q_1) (C := RX5) (T := TX5) (N := 2) hx hb hts hinX5 hown hK hP 0 rfl rfl 0 (by decide) (hts (.fieldLink RX5 9 "CensusDesk$Rules" "way" "[I") (List.mem_of_getElem? (i := 5) rfl)) (fun _ h9 => h9) rfl dX5_init_29 ?_
  refine lv_iconst (v := 0) hx hb dX5_init_32 (by decide) ?_
  refine lv_iconst (v := 0) hx hb dX5_init_33 (by decide) ?_
  refine va_iast hx hb hK hP hD hS 2 1 rfl rfl (i := 0) (x := 0) (vp_in_nI (n := 0) (by decide) (by decide)) dX5_init_34 (fun H locs hP hD hS => ?_)
  obtain ⟨f_8, ef_8⟩ : ∃ z : Nat → Int32, z = upd f2_6 (Int32.toNatClampNeg 0) 0 := ⟨_, rfl⟩
  rw [← ef_8] at hP hD
  have hP : va_P (dC, dI) vwCl [(h0, .inr (5, [.ref q_1, .ref q_3])), (q_3, .inl (k_4, 30, .inl ((fun _ => 0)))), (q_1, .inl (k_2, 30, .inl f_8))] H := hP
  have hD : va_D A [(h0, .inr (5, [.ref q_1, .ref q_3])), (q_3, .inl (k_4, 30, .inl ((fun _ => 0)))), (q_1, .inl (k_2, 30, .inl f_8))] := hD
  have hP9 := hP.sub (ws' := [(h0, .inr (5, [.ref q_1, .ref q_3])), (q_1, .inl (k_2, 30, .inl f_8)), (q_3, .inl (k_4, 30, .inl ((fun _ => 0))))]) [0, 2, 1] rfl
  have hD9 := hD.sub (ws' := [(h0, .inr (5, [.ref q_1, .ref q_3])), (q_1, .inl (k_2, 30, .inl f_8)), (q_3, .inl (k_4, 30, .inl ((fun _ => 0))))]) [0, 2, 1] (by decide) rfl
  have hK9 := hK.sub (tys' := [(k_2, .int), (k_4, .int)]) [1, 0] rfl
  exact W.vret hx hb hr (fun t ht hW => ⟨⟨(), rfl, trivial, q_1, k_2, q_3, k_4, f_8, ⟨by rw [ht]; exact hP9, va_K.moved hW.alike hK9, hD9⟩⟩, hS.F ht⟩) hS.2.2 dX5_init_35
set_option maxHeartbeats 1000000 in
set_option maxRecDepth 100000 in
theorem c_X1_init (l : Launch) (dC : Nat → ClassId) (dI : Nat → Nat → Nat) (h0 : Nat) (sz : Nat)  : Met l yX1_init wsX1_init ({ frames := 1, cells := 9, slots := 1537, locals := 24 }) (va_Pc [.ref h0] (kPre dC dI [] [(h0, .inr (1, [.null, .null, .null, .null, .int 0]))] sz)) (va_Qv (fun (_ : Unit) => True) (fun (_ : Unit) (t : State) => ∃ (qf : Nat) (kf : ClassId) (rf : Nat → Nat) (qk : Nat) (kk : ClassId) (qi : Nat) (ki : ClassId) (qo : Nat) (ko : ClassId), kB dC dI (va_A [(h0, .inr (1, [.null, .null, .null, .null, .int 0]))] sz) [(kf, (.array .int)), (kk, .int), (kk, .int), (kk, .int), (kk, .int), (kk, .int), (kk, .int), (ki, .int), (ko, .int)] [(h0, .inr (1, [.ref qf, .ref qk, .ref qi, .ref qo, .int 0])), (qf, .inl (kf, 5, .inr (.inr (.inr (.inr (fun i => if i < 5 then some (rf i) else none)))))), (rf 0, .inl (kk, 300, .inl ((fun _ => 0)))), (rf 1, .inl (kk, 300, .inl ((fun _ => 0)))), (rf 2, .inl (kk, 300, .inl ((fun _ => 0)))), (rf 3, .inl (kk, 300, .inl ((fun _ => 0)))), (rf 4, .inl (kk, 300, .inl ((fun _ => 0)))), (qk, .inl (kk, 22, .inl ((fun _ => 0)))), (qi, .inl (ki, 5, .inl ((fun _ => 0)))), (qo, .inl (ko, 5, .inl ((fun _ => 0))))] t) (va_A [(h0, .inr (1, [.null, .null, .null, .null, .int 0]))] sz)) 9 1537 (va_A [(h0, .inr (1, [.null, .null, .null, .null, .int 0]))] sz) := by
  refine Met.ofW (cc := cX1_init) (maxL := 1) (ret := none) (by decide) rfl ?_
  intro p e s m args below meth c s₁ B hml hv
  obtain ⟨rfl, hsz, hP, hK, hD0, hN⟩ := hv
  have hx := B.exec
  have hb := B.bytes
  have hr := B.returns
  have hts := atoms_spec (ws := wsX1_init) B.pre
  have hown : s.vm.findClass RX1 = some m.cls := findClass_of_methodNamed B.named
  have hlocks := B.notSynchronized
  have hin : meth.name = "<init>" := (name_of_methodNamed B.named B.method).1
  have hAO := hN.2.2
  subst hsz
  have hD := hD0.self (sz := s.heap.size)
  generalize hAe : va_A [(h0, .inr (1, [.null, .null, .null, .null, .int 0]))] s.heap.size = A at hD ⊢
  have hA : ∀ q : Nat, s.heap.size ≤ q → A q := fun q h => by rw [← hAe]; exact Or.inr h
  have hS : va_S A s.heap s.heap [] := va_S.rf
  have hP : va_P (dC, dI) vwCl [(h0, .inr (1, [.null, .null, .null, .null, .int 0]))] s.heap := hP
  have hinX1 : ∀ w ∈ wsX10, w ∈ wsX1_init := fun _ h => List.mem_cons_of_mem _ (List.mem_append_right _ h)
  have hl := lv_entry ([.ref h0]) (n := 1) (Nat.le_of_ble_eq_true rfl)
  rw [lg_entry_eq]
  generalize (lg_sl ([.ref h0]) ++ List.replicate (1 - (lg_sl ([.ref h0])).length) Slot.unset).toArray = ls at hl ⊢
  have hl : lv_has ls 1 [(0, .ref h0)] := hl
  refine lv_aload_n hx hb dX1_init_0 rfl (lv_at hl 0 rfl) ?_
  refine W.objInit hx hb hown (hts (.methodLink RX1 3 objectInit) (List.mem_of_getElem? (i := 1) rfl)) (hts (.instanceMethod objectInit) (List.mem_of_getElem? (i := 2) rfl)) (hts (.code objectInit ⟨#[0xb1]⟩ 1 none) (List.mem_of_getElem? (i := 3) rfl)) rfl (by rw [hml]; exact hl.1) rfl dX1_init_1 (Nat.le_of_ble_eq_true rfl) (Nat.le_of_ble_eq_true rfl) ?_
  refine W.eq (g2 := F0 m 4 ls []) rfl ?_
  refine lv_aload_n hx hb dX1_init_4 rfl (lv_at hl 0 rfl) ?_
  refine lv_iconst (v := 5) hx hb dX1_init_5 (by decide) ?_
  refine lv_sipush (v := 300) hx hb dX1_init_6 (by decide) ?_
  obtain ⟨cy_2, _, _, hcy_2, -⟩ := Cond.arrayClass_spec (hts (.arrayClass .int) (List.mem_of_getElem? (i := 5) rfl))
  refine va_mna (X := [(h0, .inr (1, [.null, .null, .null, .null, .int 0]))]) (L := []) (f := fun _ => .inr (0, [])) (ty := .int) (cy := cy_2) (z := (300, .inl (fun _ => 0))) (N' := 5) (K' := 300) hx hb hown (hts (.classLink RX1 11 "[[I") (List.mem_of_getElem? (i := 4) rfl)) hAO (hts (.arrayClass .int) (List.mem_of_getElem? (i := 5) rfl)) hcy_2 hK hP hD hS hA (by decide +kernel) (by decide +kernel) (by decide +kernel) (by decide +kernel) (by decide +kernel) (by decide +kernel) (by decide +kernel) rfl rfl (by decide +kernel) (by decide +kernel) (fun c9 => k_inner c9 300) dX1_init_9 (fun q_1 r_3 ka_4 H hr9 hr9b hK hP hD hS => ?_)
  have hP := k_pl5 hP
  have hD := k_pl5D hD
  have hP : va_P (dC, dI) vwCl [(h0, .inr (1, [.null, .null, .null, .null, .int 0])), (q_1, .inl (ka_4, 5, .inr (.inr (.inr (.inr (fun i => if i < 5 then some (r_3 i) else none)))))), (r_3 0, .inl (cy_2, 300, .inl ((fun _ => 0)))), (r_3 1, .inl (cy_2, 300, .inl ((fun _ => 0)))), (r_3 2, .inl (cy_2, 300, .inl ((fun _ => 0)))), (r_3 3, .inl (cy_2, 300, .inl ((fun _ => 0)))), (r_3 4, .inl (cy_2, 300, .inl ((fun _ => 0))))] H := hP
  have hD : va_D A [(h0, .inr (1, [.null, .null, .null, .null, .int 0])), (q_1, .inl (ka_4, 5, .inr (.inr (.inr (.inr (fun i => if i < 5 then some (r_3 i) else none)))))), (r_3 0, .inl (cy_2, 300, .inl ((fun _ => 0)))), (r_3 1, .inl (cy_2, 300, .inl ((fun _ => 0)))), (r_3 2, .inl (cy_2, 300, .inl ((fun _ => 0)))), (r_3 3, .inl (cy_2, 300, .inl ((fun _ => 0)))), (r_3 4, .inl (cy_2, 300, .inl ((fun _ => 0))))] := hD
  have hK : va_K (dC, dI) vwCl [(ka_4, (.array .int))] s := hK
  refine W.widen (k := 6) (n := 1505) (by decide +kernel) (by decide +kernel) ?_
  refine va_putF (D := (dC, dI)) (ci := 1) (v := .ref q_1) (ty := .array (.array .int)) (C := RX1) (T := TX1) (N := 5) hx hb hts hinX1 tyX1 tyX1_ok nmX1 hown hK hP hD hS 0 rfl rfl 0 (by decide) (hts (.fieldLink RX1 13 "CensusDesk$Failures" "facts" "[[I") (List.mem_of_getElem? (i := 6) rfl)) (fun _ h9 => h9) rfl hin rfl (by decide +kernel) rfl rfl (Nat.le_of_ble_eq_true rfl) dX1_init_13 (fun H locs hP hD hS => ?_)
  have hP : va_P (dC, dI) vwCl [(h0, .inr (1, [.ref q_1, .null, .null, .null, .int 0])), (q_1, .inl (ka_4, 5, .inr (.inr (.inr (.inr (fun i => if i < 5 then some (r_3 i) else none)))))), (r_3 0, .inl (cy_2, 300, .inl ((fun _ => 0)))), (r_3 1, .inl (cy_2, 300, .inl ((fun _ => 0)))), (r_3 2, .inl (cy_2, 300, .inl ((fun _ => 0)))), (r_3 3, .inl (cy_2, 300, .inl ((fun _ => 0)))), (r_3 4, .inl (cy_2, 300, .inl ((fun _ => 0))))] H := hP
  have hD : va_D A [(h0, .inr (1, [.ref q_1, .null, .null, .null, .int 0])), (q_1, .inl (ka_4, 5, .inr (.inr (.inr (.inr (fun i => if i < 5 then some (r_3 i) else none)))))), (r_3 0, .inl (cy_2, 300, .inl ((fun _ => 0)))), (r_3 1, .inl (cy_2, 300, .inl ((fun _ => 0)))), (r_3 2, .inl (cy_2, 300, .inl ((fun _ => 0)))), (r_3 3, .inl (cy_2, 300, .inl ((fun _ => 0)))), (r_3 4, .inl (cy_2, 300, .inl ((fun _ => 0))))] := hD
  refine lv_aload_n hx hb dX1_init_16 rfl (lv_at hl 0 rfl) ?_
  refine lv_bipush (v := 22) hx hb dX1_init_17 (by decide) ?_
  refine va_newa (atype := .int) (a0 := (22, .inl (fun _ => 0))) (ty := .int) (N' := 22) hx hb (hts (.arrayClass .int) (List.mem_of_getElem? (i := 5) rfl)) rfl hK hP hD hS hA (fun c9 => k_cellI c9 22) (by decide +kernel) (by decide +kernel) (by decide +kernel) (by decide +kernel) (by decide +kernel) dX1_init_19 (fun q_5 k_6 H hK hP hD hS => ?_)
  have hP : va_P (dC, dI) vwCl [(h0, .inr (1, [.ref q_1, .null, .null, .null, .int 0])), (q_1, .inl (ka_4, 5, .inr (.inr (.inr (.inr (fun i => if i < 5 then some (r_3 i) else none)))))), (r_3 0, .inl (cy_2, 300, .inl ((fun _ => 0)))), (r_3 1, .inl (cy_2, 300, .inl ((fun _ => 0)))), (r_3 2, .inl (cy_2, 300, .inl ((fun _ => 0)))), (r_3 3, .inl (cy_2, 300, .inl ((fun _ => 0)))), (r_3 4, .inl (cy_2, 300, .inl ((fun _ => 0)))), (q_5, .inl (k_6, 22, .inl ((fun _ => 0))))] H := hP
  have hD : va_D A [(h0, .inr (1, [.ref q_1, .null, .null, .null, .int 0])), (q_1, .inl (ka_4, 5, .inr (.inr (.inr (.inr (fun i => if i < 5 then some (r_3 i) else none)))))), (r_3 0, .inl (cy_2, 300, .inl ((fun _ => 0)))), (r_3 1, .inl (cy_2, 300, .inl ((fun _ => 0)))), (r_3 2, .inl (cy_2, 300, .inl ((fun _ => 0)))), (r_3 3, .inl (cy_2, 300, .inl ((fun _ => 0)))), (r_3 4, .inl (cy_2, 300, .inl ((fun _ => 0)))), (q_5, .inl (k_6, 22, .inl ((fun _ => 0))))] := hD
  have hK : va_K (dC, dI) vwCl [(ka_4, (.array .int)), (k_6, .int)] s := hK
  refine W.widen (k := 7) (n := 1527) (by decide +kernel) (by decide +kernel) ?_
  have ecy_2 : cy_2 = k_6 := Option.some.inj (hcy_2.symm.trans (hK.2 1 _ rfl).2)
  rw [ecy_2] at hP hD
  have hP : va_P (dC, dI) vwCl [(h0, .inr (1, [.ref q_1, .null, .null, .null, .int 0])), (q_1, .inl (ka_4, 5, .inr (.inr (.inr (.inr (fun i => if i < 5 then some (r_3 i) else none)))))), (r_3 0, .inl (k_6, 300, .inl ((fun _ => 0)))), (r_3 1, .inl (k_6, 300, .inl ((fun _ => 0)))), (r_3 2, .inl (k_6, 300, .inl ((fun _ => 0)))), (r_3 3, .inl (k_6, 300, .inl ((fun _ => 0)))), (r_3 4, .inl (k_6, 300, .inl ((fun _ => 0)))), (q_5, .inl (k_6, 22, .inl ((fun _ => 0))))] H := hP
  have hD : va_D A [(h0, .inr (1, [.ref q_1, .null, .null, .null, .int 0])), (q_1, .inl (ka_4, 5, .inr (.inr (.inr (.inr (fun i => if i < 5 then some (r_3 i) else none)))))), (r_3 0, .inl (k_6, 300, .inl ((fun _ => 0)))), (r_3 1, .inl (k_6, 300, .inl ((fun _ => 0)))), (r_3 2, .inl (k_6, 300, .inl ((fun _ => 0)))), (r_3 3, .inl (k_6, 300, .inl ((fun _ => 0)))), (r_3 4, .inl (k_6, 300, .inl ((fun _ => 0)))), (q_5, .inl (k_6, 22, .inl ((fun _ => 0))))] := hD
  refine va_putF (D := (dC, dI)) (ci := 1) (v := .ref q_5) (ty := .array .int) (C := RX1) (T := TX1) (N := 5) hx hb hts hinX1 tyX1 tyX1_ok nmX1 hown hK hP hD hS 0 rfl rfl 1 (by decide) (hts (.fieldLink RX1 16 "CensusDesk$Failures" "byKind" "[I") (List.mem_of_getElem? (i := 7) rfl)) (fun _ h9 => h9) rfl hin rfl (by decide +kernel) rfl rfl (Nat.le_of_ble_eq_true rfl) dX1_init_21 (fun H locs hP hD hS => ?_)
  have hP : va_P (dC, dI) vwCl [(h0, .inr (1, [.ref q_1, .ref q_5, .null, .null, .int 0])), (q_1, .inl (ka_4, 5, .inr (.inr (.inr (.inr (fun i => if i < 5 then some (r_3 i) else none)))))), (r_3 0, .inl (k_6, 300, .inl ((fun _ => 0)))), (r_3 1, .inl (k_6, 300, .inl ((fun _ => 0)))), (r_3 2, .inl (k_6, 300, .inl ((fun _ => 0)))), (r_3 3, .inl (k_6, 300, .inl ((fun _ => 0)))), (r_3 4, .inl (k_6, 300, .inl ((fun _ => 0)))), (q_5, .inl (k_6, 22, .inl ((fun _ => 0))))] H := hP
  have hD : va_D A [(h0, .inr (1, [.ref q_1, .ref q_5, .null, .null, .int 0])), (q_1, .inl (ka_4, 5, .inr (.inr (.inr (.inr (fun i => if i < 5 then some (r_3 i) else none)))))), (r_3 0, .inl (k_6, 300, .inl ((fun _ => 0)))), (r_3 1, .inl (k_6, 300, .inl ((fun _ => 0)))), (r_3 2, .inl (k_6, 300, .inl ((fun _ => 0)))), (r_3 3, .inl (k_6, 300, .inl ((fun _ => 0)))), (r_3 4, .inl (k_6, 300, .inl ((fun _ => 0)))), (q_5, .inl (k_6, 22, .inl ((fun _ => 0))))] := hD
  refine lv_aload_n hx hb dX1_init_24 rfl (lv_at hl 0 rfl) ?_
  refine lv_iconst (v := 5) hx hb dX1_init_25 (by decide) ?_
  refine va_newa (atype := .int) (a0 := (5, .inl (fun _ => 0))) (ty := .int) (N' := 5) hx hb (hts (.arrayClass .int) (List.mem_of_getElem? (i := 5) rfl)) rfl hK hP hD hS hA (fun c9 => k_cellI c9 5) (by decide +kernel) (by decide +kernel) (by decide +kernel) (by decide +kernel) (by decide +kernel) dX1_init_26 (fun q_7 k_8 H hK hP hD hS => ?_)
  have hP : va_P (dC, dI) vwCl [(h0, .inr (1, [.ref q_1, .ref q_5, .null, .null, .int 0])), (q_1, .inl (ka_4, 5, .inr (.inr (.inr (.inr (fun i => if i < 5 then some (r_3 i) else none)))))), (r_3 0, .inl (k_6, 300, .inl ((fun _ => 0)))), (r_3 1, .inl (k_6, 300, .inl ((fun _ => 0)))), (r_3 2, .inl (k_6, 300, .inl ((fun _ => 0)))), (r_3 3, .inl (k_6, 300, .inl ((fun _ => 0)))), (r_3 4, .inl (k_6, 300, .inl ((fun _ => 0)))), (q_5, .inl (k_6, 22, .inl ((fun _ => 0)))), (q_7, .inl (k_8, 5, .inl ((fun _ => 0))))] H := hP
  have hD : va_D A [(h0, .inr (1, [.ref q_1, .ref q_5, .null, .null, .int 0])), (q_1, .inl (ka_4, 5, .inr (.inr (.inr (.inr (fun i => if i < 5 then some (r_3 i) else none)))))), (r_3 0, .inl (k_6, 300, .inl ((fun _ => 0)))), (r_3 1, .inl (k_6, 300, .inl ((fun _ => 0)))), (r_3 2, .inl (k_6, 300, .inl ((fun _ => 0)))), (r_3 3, .inl (k_6, 300, .inl ((fun _ => 0)))), (r_3 4, .inl (k_6, 300, .inl ((fun _ => 0)))), (q_5, .inl (k_6, 22, .inl ((fun _ => 0)))), (q_7, .inl (k_8, 5, .inl ((fun _ => 0))))] := hD
  have hK : va_K (dC, dI) vwCl [(ka_4, (.array .int)), (k_6, .int), (k_8, .int)] s := hK
  refine W.widen (k := 8) (n := 1532) (by decide +kernel) (by decide +kernel) ?_
  refine va_putF (D := (dC, dI)) (ci := 1) (v := .ref q_7) (ty := .array .int) (C := RX1) (T := TX1) (N := 5) hx hb hts hinX1 tyX1 tyX1_ok nmX1 hown hK hP hD hS 0 rfl rfl 2 (by decide) (hts (.fieldLink RX1 20 "CensusDesk$Failures" "firstInHousehold" "[I") (List.mem_of_getElem? (i := 8) rfl)) (fun _ h9 => h9) rfl hin rfl (by decide +kernel) rfl rfl (Nat.le_of_ble_eq_true rfl) dX1_init_28 (fun H locs hP hD hS => ?_)
  have hP : va_P (dC, dI) vwCl [(h0, .inr (1, [.ref q_1, .ref q_5, .ref q_7, .null, .int 0])), (q_1, .inl (ka_4, 5, .inr (.inr (.inr (.inr (fun i => if i < 5 then some (r_3 i) else none)))))), (r_3 0, .inl (k_6, 300, .inl ((fun _ => 0)))), (r_3 1, .inl (k_6, 300, .inl ((fun _ => 0)))), (r_3 2, .inl (k_6, 300, .inl ((fun _ => 0)))), (r_3 3, .inl (k_6, 300, .inl ((fun _ => 0)))), (r_3 4, .inl (k_6, 300, .inl ((fun _ => 0)))), (q_5, .inl (k_6, 22, .inl ((fun _ => 0)))), (q_7, .inl (k_8, 5, .inl ((fun _ => 0))))] H := hP
  have hD : va_D A [(h0, .inr (1, [.ref q_1, .ref q_5, .ref q_7, .null, .int 0])), (q_1, .inl (ka_4, 5, .inr (.inr (.inr (.inr (fun i => if i < 5 then some (r_3 i) else none)))))), (r_3 0, .inl (k_6, 300, .inl ((fun _ => 0)))), (r_3 1, .inl (k_6, 300, .inl ((fun _ => 0)))), (r_3 2, .inl (k_6, 300, .inl ((fun _ => 0)))), (r_3 3, .inl (k_6, 300, .inl ((fun _ => 0)))), (r_3 4, .inl (k_6, 300, .inl ((fun _ => 0)))), (q_5, .inl (k_6, 22, .inl ((fun _ => 0)))), (q_7, .inl (k_8, 5, .inl ((fun _ => 0))))] := hD
  refine lv_aload_n hx hb dX1_init_31 rfl (lv_at hl 0 rfl) ?_
  refine lv_iconst (v := 5) hx hb dX1_init_32 (by decide) ?_
  refine va_newa (atype := .int) (a0 := (5, .inl (fun _ => 0))) (ty := .int) (N' := 5) hx hb (hts (.arrayClass .int) (List.mem_of_getElem? (i := 5) rfl)) rfl hK hP hD hS hA (fun c9 => k_cellI c9 5) (by decide +kernel) (by decide +kernel) (by decide +kernel) (by decide +kernel) (by decide +kernel) dX1_init_33 (fun q_9 k_10 H hK hP hD hS => ?_)
  have hP : va_P (dC, dI) vwCl [(h0, .inr (1, [.ref q_1, .ref q_5, .ref q_7, .null, .int 0])), (q_1, .inl (ka_4, 5, .inr (.inr (.inr (.inr (fun i => if i < 5 then some (r_3 i) else none)))))), (r_3 0, .inl (k_6, 300, .inl ((fun _ => 0)))), (r_3 1, .inl (k_6, 300, .inl ((fun _ => 0)))), (r_3 2, .inl (k_6, 300, .inl ((fun _ => 0)))), (r_3 3, .inl (k_6, 300, .inl ((fun _ => 0)))), (r_3 4, .inl (k_6, 300, .inl ((fun _ => 0)))), (q_5, .inl (k_6, 22, .inl ((fun _ => 0)))), (q_7, .inl (k_8, 5, .inl ((fun _ => 0)))), (q_9, .inl (k_10, 5, .inl ((fun _ => 0))))] H := hP
  have hD : va_D A [(h0, .inr (1, [.ref q_1, .ref q_5, .ref q_7, .null, .int 0])), (q_1, .inl (ka_4, 5, .inr (.inr (.inr (.inr (fun i => if i < 5 then some (r_3 i) else none)))))), (r_3 0, .inl (k_6, 300, .inl ((fun _ => 0)))), (r_3 1, .inl (k_6, 300, .inl ((fun _ => 0)))), (r_3 2, .inl (k_6, 300, .inl ((fun _ => 0)))), (r_3 3, .inl (k_6, 300, .inl ((fun _ => 0)))), (r_3 4, .inl (k_6, 300, .inl ((fun _ => 0)))), (q_5, .inl (k_6, 22, .inl ((fun _ => 0)))), (q_7, .inl (k_8, 5, .inl ((fun _ => 0)))), (q_9, .inl (k_10, 5, .inl ((fun _ => 0))))] := hD
  have hK : va_K (dC, dI) vwCl [(ka_4, (.array .int)), (k_6, .int), (k_8, .int), (k_10, .int)] s := hK
  refine W.widen (k := 9) (n := 1537) (by decide +kernel) (by decide +kernel) ?_
  refine va_putF (D := (dC, dI)) (ci := 1) (v := .ref q_9) (ty := .array .int) (C := RX1) (T := TX1) (N := 5) hx hb hts hinX1 tyX1 tyX1_ok nmX1 hown hK hP hD hS 0 rfl rfl 3 (by decide) (hts (.fieldLink RX1 23 "CensusDesk$Failures" "firstOutside" "[I") (List.mem_of_getElem? (i := 9) rfl)) (fun _ h9 => h9) rfl hin rfl (by decide +kernel) rfl rfl (Nat.le_of_ble_eq_true rfl) dX1_init_35 (fun H locs hP hD hS => ?_)
  have hP : va_P (dC, dI) vwCl [(h0, .inr (1, [.ref q_1, .ref q_5, .ref q_7, .ref q_9, .int 0])), (q_1, .inl (ka_4, 5, .inr (.inr (.inr (.inr (fun i => if i < 5 then some (r_3 i) else none)))))), (r_3 0, .inl (k_6, 300, .inl ((fun _ => 0)))), (r_3 1, .inl (k_6, 300, .inl ((fun _ => 0)))), (r_3 2, .inl (k_6, 300, .inl ((fun _ => 0)))), (r_3 3, .inl (k_6, 300, .inl ((fun _ => 0)))), (r_3 4, .inl (k_6, 300, .inl ((fun _ => 0)))), (q_5, .inl (k_6, 22, .inl ((fun _ => 0)))), (q_7, .inl (k_8, 5, .inl ((fun _ => 0)))), (q_9, .inl (k_10, 5, .inl ((fun _ => 0))))] H := hP
  have hD : va_D A [(h0, .inr (1, [.ref q_1, .ref q_5, .ref q_7, .ref q_9, .int 0])), (q_1, .inl (ka_4, 5, .inr (.inr (.inr (.inr (fun i => if i < 5 then some (r_3 i) else none)))))), (r_3 0, .inl (k_6, 300, .inl ((fun _ => 0)))), (r_3 1, .inl (k_6, 300, .inl ((fun _ => 0)))), (r_3 2, .inl (k_6, 300, .inl ((fun _ => 0)))), (r_3 3, .inl (k_6, 300, .inl ((fun _ => 0)))), (r_3 4, .inl (k_6, 300, .inl ((fun _ => 0)))), (q_5, .inl (k_6, 22, .inl ((fun _ => 0)))), (q_7, .inl (k_8, 5, .inl ((fun _ => 0)))), (q_9, .inl (k_10, 5, .inl ((fun _ => 0))))] := hD
  have hP9 := hP.sub (ws' := [(h0, .inr (1, [.ref q_1, .ref q_5, .ref q_7, .ref q_9, .int 0])), (q_1, .inl (ka_4, 5, .inr (.inr (.inr (.inr (fun i => if i < 5 then some (r_3 i) else none)))))), (r_3 0, .inl (k_6, 300, .inl ((fun _ => 0)))), (r_3 1, .inl (k_6, 300, .inl ((fun _ => 0)))), (r_3 2, .inl (k_6, 300, .inl ((fun _ => 0)))), (r_3 3, .inl (k_6, 300, .inl ((fun _ => 0)))), (r_3 4, .inl (k_6, 300, .inl ((fun _ => 0)))), (q_5, .inl (k_6, 22, .inl ((fun _ => 0)))), (q_7, .inl (k_8, 5, .inl ((fun _ => 0)))), (q_9, .inl (k_10, 5, .inl ((fun _ => 0))))]) [0, 1, 2, 3, 4, 5, 6, 7, 8, 9] rfl
  have hD9 := hD.sub (ws' := [(h0, .inr (1, [.ref q_1, .ref q_5, .ref q_7, .ref q_9, .int 0])), (q_1, .inl (ka_4, 5, .inr (.inr (.inr (.inr (fun i => if i < 5 then some (r_3 i) else none)))))), (r_3 0, .inl (k_6, 300, .inl ((fun _ => 0)))), (r_3 1, .inl (k_6, 300, .inl ((fun _ => 0)))), (r_3 2, .inl (k_6, 300, .inl ((fun _ => 0)))), (r_3 3, .inl (k_6, 300, .inl ((fun _ => 0)))), (r_3 4, .inl (k_6, 300, .inl ((fun _ => 0)))), (q_5, .inl (k_6, 22, .inl ((fun _ => 0)))), (q_7, .inl (k_8, 5, .inl ((fun _ => 0)))), (q_9, .inl (k_10, 5, .inl ((fun _ => 0))))]) [0, 1, 2, 3, 4, 5, 6, 7, 8, 9] (by decide) rfl
  have hK9 := hK.sub (tys' := [(ka_4, (.array .int)), (k_6, .int), (k_6, .int), (k_6, .int), (k_6, .int), (k_6, .int), (k_6, .int), (k_8, .int), (k_10, .int)]) [0, 1, 1, 1, 1, 1, 1, 2, 3] rfl
  exact W.vret hx hb hr (fun t ht hW => ⟨⟨(), rfl, trivial, q_1, ka_4, r_3, q_5, k_6, q_7, k_8, q_9, k_10, ⟨by rw [ht]; exact hP9, va_K.moved hW.alike hK9, hD9⟩⟩, hS.F ht⟩) hS.2.2 dX1_init_38
set_option maxHeartbeats 1000000 in
set_option maxRecDepth 100000 in
theorem c_X3_init (l : Launch) (dC : Nat → ClassId) (dI : Nat → Nat → Nat) (h0 : Nat) (sz : Nat)  : Met l yX3_init wsX3_init ({ frames := 1, cells := 2, slots := 10, locals := 24 }) (va_Pc [.ref h0] (kPre dC dI [] [(h0, .inr (3, [.null, .null, .int 0, .int 0, .int 0, .int 0, .int 0]))] sz)) (va_Qv (fun (_ : Unit) => True) (fun (_ : Unit) (t : State) => ∃ (q1 : Nat) (k1 : ClassId) (q2 : Nat) (k2 : ClassId), kB dC dI (va_A [(h0, .inr (3, [.null, .null, .int 0, .int 0, .int 0, .int 0, .int 0]))] sz) [(k1, .int), (k2, .int)] [(h0, .inr (3, [.ref q1, .ref q2, .int 0, .int 0, .int 0, .int 0, .int 0])), (q1, .inl (k1, 5, .inl ((fun _ => 0)))), (q2, .inl (k2, 5, .inl ((fun _ => 0))))] t) (va_A [(h0, .inr (3, [.null, .null, .int 0, .int 0, .int 0, .int 0, .int 0]))] sz)) 2 10 (va_A [(h0, .inr (3, [.null, .null, .int 0, .int 0, .int 0, .int 0, .int 0]))] sz) := by
  refine Met.ofW (cc := cX3_init) (maxL := 1) (ret := none) (by decide) rfl ?_
  intro p e s m args below meth c s₁ B hml hv
  obtain ⟨rfl, hsz, hP, hK, hD0, hN⟩ := hv
  have hx := B.exec
  have hb := B.bytes
  have hr := B.returns
  have hts := atoms_spec (ws := wsX3_init) B.pre
  have hown : s.vm.findClass RX3 = some m.cls := findClass_of_methodNamed B.named
  have hlocks := B.notSynchronized
  have hin : meth.name = "<init>" := (name_of_methodNamed B.named B.method).1
  have hAO := hN.2.2
  subst hsz
  have hD := hD0.self (sz := s.heap.size)
  generalize hAe : va_A [(h0, .inr (3, [.null, .null, .int 0, .int 0, .int 0, .int 0, .int 0]))] s.heap.size = A at hD ⊢
  have hA : ∀ q : Nat, s.heap.size ≤ q → A q := fun q h => by rw [← hAe]; exact Or.inr h
  have hS : va_S A s.heap s.heap [] := va_S.rf
  have hP : va_P (dC, dI) vwCl [(h0, .inr (3, [.null, .null, .int 0, .int 0, .int 0, .int 0, .int 0]))] s.heap := hP
  have hinX3 : ∀ w ∈ wsX30, w ∈ wsX3_init := fun _ h => List.mem_cons_of_mem _ (List.mem_append_right _ h)
  have hl := lv_entry ([.ref h0]) (n := 1) (Nat.le_of_ble_eq_true rfl)
  rw [lg_entry_eq]
  generalize (lg_sl ([.ref h0]) ++ List.replicate (1 - (lg_sl ([.ref h0])).length) Slot.unset).toArray = ls at hl ⊢
  have hl : lv_has ls 1 [(0, .ref h0)] := hl
  refine lv_aload_n hx hb dX3_init_0 rfl (lv_at hl 0 rfl) ?_
  refine W.objInit hx hb hown (hts (.methodLink RX3 3 objectInit) (List.mem_of_getElem? (i := 1) rfl)) (hts (.instanceMethod objectInit) (List.mem_of_getElem? (i := 2) rfl)) (hts (.code objectInit ⟨#[0xb1]⟩ 1 none) (List.mem_of_getElem? (i := 3) rfl)) rfl (by rw [hml]; exact hl.1) rfl dX3_init_1 (Nat.le_of_ble_eq_true rfl) (Nat.le_of_ble_eq_true rfl) ?_
  refine W.eq (g2 := F0 m 4 ls []) rfl ?_
  refine lv_aload_n hx hb dX3_init_4 rfl (lv_at hl 0 rfl) ?_
  refine lv_iconst (v := 5) hx hb dX3_init_5 (by decide) ?_
  refine va_newa (atype := .int) (a0 := (5, .inl (fun _ => 0))) (ty := .int) (N' := 5) hx hb (hts (.arrayClass .int) (List.mem_of_getElem? (i := 4) rfl)) rfl hK hP hD hS hA (fun c9 => k_cellI c9 5) (by decide +kernel) (by decide +kernel) (by decide +kernel) (by decide +kernel) (by decide +kernel) dX3_init_6 (fun q_1 k_2 H hK hP hD hS => ?_)
  have hP : va_P (dC, dI) vwCl [(h0, .inr (3, [.null, .null, .int 0, .int 0, .int 0, .int 0, .int 0])), (q_1, .inl (k_2, 5, .inl ((fun _ => 0))))] H := hP
  have hD : va_D A [(h0, .inr (3, [.null, .null, .int 0, .int 0, .int 0, .int 0, .int 0])), (q_1, .inl (k_2, 5, .inl ((fun _ => 0))))] := hD
  have hK : va_K (dC, dI) vwCl [(k_2, .int)] s := hK
  refine W.widen (k := 1) (n := 5) (by decide +kernel) (by decide +kernel) ?_
  refine va_putF (D := (dC, dI)) (ci := 3) (v := .ref q_1) (ty := .array .int) (C := RX3) (T := TX3) (N := 7) hx hb hts hinX3 tyX3 tyX3_ok nmX3 hown hK hP hD hS 0 rfl rfl 0 (by decide) (hts (.fieldLink RX3 11 "CensusDesk$Line" "cellStart" "[I") (List.mem_of_getElem? (i := 5) rfl)) (fun _ h9 => h9) rfl hin rfl (by decide +kernel) rfl rfl (Nat.le_of_ble_eq_true rfl) dX3_init_8 (fun H locs hP hD hS => ?_)
  have hP : va_P (dC, dI) vwCl [(h0, .inr (3, [.ref q_1, .null, .int 0, .int 0, .int 0, .int 0, .int 0])), (q_1, .inl (k_2, 5, .inl ((fun _ => 0))))] H := hP
  have hD : va_D A [(h0, .inr (3, [.ref q_1, .null, .int 0, .int 0, .int 0, .int 0, .int 0])), (q_1, .inl (k_2, 5, .inl ((fun _ => 0))))] := hD
  refine lv_aload_n hx hb dX3_init_11 rfl (lv_at hl 0 rfl) ?_
  refine lv_iconst (v := 5) hx hb dX3_init_12 (by decide) ?_
  refine va_newa (atype := .int) (a0 := (5, .inl (fun _ => 0))) (ty := .int) (N' := 5) hx hb (hts (.arrayClass .int) (List.mem_of_getElem? (i := 4) rfl)) rfl hK hP hD hS hA (fun c9 => k_cellI c9 5) (by decide +kernel) (by decide +kernel) (by decide +kernel) (by decide +kernel) (by decide +kernel) dX3_init_13 (fun q_3 k_4 H hK hP hD hS => ?_)
  have hP : va_P (dC, dI) vwCl [(h0, .inr (3, [.ref q_1, .null, .int 0, .int 0, .int 0, .int 0, .int 0])), (q_1, .inl (k_2, 5, .inl ((fun _ => 0)))), (q_3, .inl (k_4, 5, .inl ((fun _ => 0))))] H := hP
  have hD : va_D A [(h0, .inr (3, [.ref q_1, .null, .int 0, .int 0, .int 0, .int 0, .int 0])), (q_1, .inl (k_2, 5, .inl ((fun _ => 0)))), (q_3, .inl (k_4, 5, .inl ((fun _ => 0))))] := hD
  have hK : va_K (dC, dI) vwCl [(k_2, .int), (k_4, .int)] s := hK
  refine W.widen (k := 2) (n := 10) (by decide +kernel) (by decide +kernel) ?_
  refine va_putF (D := (dC, dI)) (ci := 3) (v := .ref q_3) (ty := .array .int) (C := RX3) (T := TX3) (N := 7) hx hb hts hinX3 tyX3 tyX3_ok nmX3 hown hK hP hD hS 0 rfl rfl 1 (by decide) (hts (.fieldLink RX3 15 "CensusDesk$Line" "cellEnd" "[I") (List.mem_of_getElem? (i := 6) rfl)) (fun _ h9 => h9) rfl hin rfl (by decide +kernel) rfl rfl (Nat.le_of_ble_eq_true rfl) dX3_init_15 (fun H locs hP hD hS => ?_)
  have hP : va_P (dC, dI) vwCl [(h0, .inr (3, [.ref q_1, .ref q_3, .int 0, .int 0, .int 0, .int 0, .int 0])), (q_1, .inl (k_2, 5, .inl ((fun _ => 0)))), (q_3, .inl (k_4, 5, .inl ((fun _ => 0))))] H := hP
  have hD : va_D A [(h0, .inr (3, [.ref q_1, .ref q_3, .int 0, .int 0, .int 0, .int 0, .int 0])), (q_1, .inl (k_2, 5, .inl ((fun _ => 0)))), (q_3, .inl (k_4, 5, .inl ((fun _ => 0))))] := hD
  have hP9 := hP.sub (ws' := [(h0, .inr (3, [.ref q_1, .ref q_3, .int 0, .int 0, .int 0, .int 0, .int 0])), (q_1, .inl (k_2, 5, .inl ((fun _ => 0)))), (q_3, .inl (k_4, 5, .inl ((fun _ => 0))))]) [0, 1, 2] rfl
  have hD9 := hD.sub (ws' := [(h0, .inr (3, [.ref q_1, .ref q_3, .int 0, .int 0, .int 0, .int 0, .int 0])), (q_1, .inl (k_2, 5, .inl ((fun _ => 0)))), (q_3, .inl (k_4, 5, .inl ((fun _ => 0))))]) [0, 1, 2] (by decide) rfl
  have hK9 := hK.sub (tys' := [(k_2, .int), (k_4, .int)]) [0, 1] rfl
  exact W.vret hx hb hr (fun t ht hW => ⟨⟨(), rfl, trivial, q_1, k_2, q_3, k_4, ⟨by rw [ht]; exact hP9, va_K.moved hW.alike hK9, hD9⟩⟩, hS.F ht⟩) hS.2.2 dX3_init_18
set_option maxHeartbeats 1000000 in
set_option maxRecDepth 100000 in
theorem c_X6_init (l : Launch) (dC : Nat → ClassId) (dI : Nat → Nat → Nat) (h0 : Nat) (sz : Nat)  : Met l yX6_init wsX6_init ({ frames := 1, cells := 2, slots := 62, locals := 24 }) (va_Pc [.ref h0] (kPre dC dI [] [(h0, .inr (6, [.null, .null, .int 0]))] sz)) (va_Qv (fun (_ : Unit) => True) (fun (_ : Unit) (t : State) => ∃ (q1 : Nat) (k1 : ClassId) (q2 : Nat) (k2 : ClassId), kB dC dI (va_A [(h0, .inr (6, [.null, .null, .int 0]))] sz) [(k1, .int), (k2, .int)] [(h0, .inr (6, [.ref q1, .ref q2, .int 0])), (q1, .inl (k1, 31, .inl ((fun _ => 0)))), (q2, .inl (k2, 31, .inl ((fun _ => 0))))] t) (va_A [(h0, .inr (6, [.null, .null, .int 0]))] sz)) 2 62 (va_A [(h0, .inr (6, [.null, .null, .int 0]))] sz) := by
  refine Met.ofW (cc := cX6_init) (maxL := 1) (ret := none) (by decide) rfl ?_
  intro p e s m args below meth c s₁ B hml hv
  obtain ⟨rfl, hsz, hP, hK, hD0, hN⟩ := hv
  have hx := B.exec
  have hb := B.bytes
  have hr := B.returns
  have hts := atoms_spec (ws := wsX6_init) B.pre
  have hown : s.vm.findClass RX6 = some m.cls := findClass_of_methodNamed B.named
  have hlocks := B.notSynchronized
  have hin : meth.name = "<init>" := (name_of_methodNamed B.named B.method).1
  have hAO := hN.2.2
  subst hsz
  have hD := hD0.self (sz := s.heap.size)
  generalize hAe : va_A [(h0, .inr (6, [.null, .null, .int 0]))] s.heap.size = A at hD ⊢
  have hA : ∀ q : Nat, s.heap.size ≤ q → A q := fun q h => by rw [← hAe]; exact Or.inr h
  have hS : va_S A s.heap s.heap [] := va_S.rf
  have hP : va_P (dC, dI) vwCl [(h0, .inr (6, [.null, .null, .int 0]))] s.heap := hP
  have hinX6 : ∀ w ∈ wsX60, w ∈ wsX6_init := fun _ h => List.mem_cons_of_mem _ (List.mem_append_right _ h)
  have hl := lv_entry ([.ref h0]) (n := 1) (Nat.le_of_ble_eq_true rfl)
  rw [lg_entry_eq]
  generalize (lg_sl ([.ref h0]) ++ List.replicate (1 - (lg_sl ([.ref h0])).length) Slot.unset).toArray = ls at hl ⊢
  have hl : lv_has ls 1 [(0, .ref h0)] := hl
  refine lv_aload_n hx hb dX6_init_0 rfl (lv_at hl 0 rfl) ?_
  refine W.objInit hx hb hown (hts (.methodLink RX6 3 objectInit) (List.mem_of_getElem? (i := 1) rfl)) (hts (.instanceMethod objectInit) (List.mem_of_getElem? (i := 2) rfl)) (hts (.code objectInit ⟨#[0xb1]⟩ 1 none) (List.mem_of_getElem? (i := 3) rfl)) rfl (by rw [hml]; exact hl.1) rfl dX6_init_1 (Nat.le_of_ble_eq_true rfl) (Nat.le_of_ble_eq_true rfl) ?_
  refine W.eq (g2 := F0 m 4 ls []) rfl ?_
  refine lv_aload_n hx hb dX6_init_4 rfl (lv_at hl 0 rfl) ?_
  refine lv_bipush (v := 31) hx hb dX6_init_5 (by decide) ?_
  refine va_newa (atype := .int) (a0 := (31, .inl (fun _ => 0))) (ty := .int) (N' := 31) hx hb (hts (.arrayClass .int) (List.mem_of_getElem? (i := 4) rfl)) rfl hK hP hD hS hA (fun c9 => k_cellI c9 31) (by decide +kernel) (by decide +kernel) (by decide +kernel) (by decide +kernel) (by decide +kernel) dX6_init_7 (fun q_1 k_2 H hK hP hD hS => ?_)
  have hP : va_P (dC, dI) vwCl [(h0, .inr (6, [.null, .null, .int 0])), (q_1, .inl (k_2, 31, .inl ((fun _ => 0))))] H := hP
  have hD : va_D A [(h0, .inr (6, [.null, .null, .int 0])), (q_1, .inl (k_2, 31, .inl ((fun _ => 0))))] := hD
  have hK : va_K (dC, dI) vwCl [(k_2, .int)] s := hK
  refine W.widen (k := 1) (n := 31) (by decide +kernel) (by decide +kernel) ?_
  refine va_putF (D := (dC, dI)) (ci := 6) (v := .ref q_1) (ty := .array .int) (C := RX6) (T := TX6) (N := 3) hx hb hts hinX6 tyX6 tyX6_ok nmX6 hown hK hP hD hS 0 rfl rfl 0 (by decide) (hts (.fieldLink RX6 11 "CensusDesk$Signs" "signs" "[I") (List.mem_of_getElem? (i := 5) rfl)) (fun _ h9 => h9) rfl hin rfl (by decide +kernel) rfl rfl (Nat.le_of_ble_eq_true rfl) dX6_init_9 (fun H locs hP hD hS => ?_)
  have hP : va_P (dC, dI) vwCl [(h0, .inr (6, [.ref q_1, .null, .int 0])), (q_1, .inl (k_2, 31, .inl ((fun _ => 0))))] H := hP
  have hD : va_D A [(h0, .inr (6, [.ref q_1, .null, .int 0])), (q_1, .inl (k_2, 31, .inl ((fun _ => 0))))] := hD
  refine lv_aload_n hx hb dX6_init_12 rfl (lv_at hl 0 rfl) ?_
  refine lv_bipush (v := 31) hx hb dX6_init_13 (by decide) ?_
  refine va_newa (atype := .int) (a0 := (31, .inl (fun _ => 0))) (ty := .int) (N' := 31) hx hb (hts (.arrayClass .int) (List.mem_of_getElem? (i := 4) rfl)) rfl hK hP hD hS hA (fun c9 => k_cellI c9 31) (by decide +kernel) (by decide +kernel) (by decide +kernel) (by decide +kernel) (by decide +kernel) dX6_init_15 (fun q_3 k_4 H hK hP hD hS => ?_)
  have hP : va_P (dC, dI) vwCl [(h0, .inr (6, [.ref q_1, .null, .int 0])), (q_1, .inl (k_2, 31, .inl ((fun _ => 0)))), (q_3, .inl (k_4, 31, .inl ((fun _ => 0))))] H := hP
  have hD : va_D A [(h0, .inr (6, [.ref q_1, .null, .int 0])), (q_1, .inl (k_2, 31, .inl ((fun _ => 0)))), (q_3, .inl (k_4, 31, .inl ((fun _ => 0))))] := hD
  have hK : va_K (dC, dI) vwCl [(k_2, .int), (k_4, .int)] s := hK
  refine W.widen (k := 2) (n := 62) (by decide +kernel) (by decide +kernel) ?_
  refine va_putF (D := (dC, dI)) (ci := 6) (v := .ref q_3) (ty := .array .int) (C := RX6) (T := TX6) (N := 3) hx hb hts hinX6 tyX6 tyX6_ok nmX6 hown hK hP hD hS 0 rfl rfl 1 (by decide) (hts (.fieldLink RX6 15 "CensusDesk$Signs" "places" "[I") (List.mem_of_getElem? (i := 6) rfl)) (fun _ h9 => h9) rfl hin rfl (by decide +kernel) rfl rfl (Nat.le_of_ble_eq_true rfl) dX6_init_17 (fun H locs hP hD hS => ?_)
  have hP : va_P (dC, dI) vwCl [(h0, .inr (6, [.ref q_1, .ref q_3, .int 0])), (q_1, .inl (k_2, 31, .inl ((fun _ => 0)))), (q_3, .inl (k_4, 31, .inl ((fun _ => 0))))] H := hP
  have hD : va_D A [(h0, .inr (6, [.ref q_1, .ref q_3, .int 0])), (q_1, .inl (k_2, 31, .inl ((fun _ => 0)))), (q_3, .inl (k_4, 31, .inl ((fun _ => 0))))] := hD
  have hP9 := hP.sub (ws' := [(h0, .inr (6, [.ref q_1, .ref q_3, .int 0])), (q_1, .inl (k_2, 31, .inl ((fun _ => 0)))), (q_3, .inl (k_4, 31, .inl ((fun _ => 0))))]) [0, 1, 2] rfl
  have hD9 := hD.sub (ws' := [(h0, .inr (6, [.ref q_1, .ref q_3, .int 0])), (q_1, .inl (k_2, 31, .inl ((fun _ => 0)))), (q_3, .inl (k_4, 31, .inl ((fun _ => 0))))]) [0, 1, 2] (by decide) rfl
  have hK9 := hK.sub (tys' := [(k_2, .int), (k_4, .int)]) [0, 1] rfl
  exact W.vret hx hb hr (fun t ht hW => ⟨⟨(), rfl, trivial, q_1, k_2, q_3, k_4, ⟨by rw [ht]; exact hP9, va_K.moved hW.alike hK9, hD9⟩⟩, hS.F ht⟩) hS.2.2 dX6_init_20
set_option maxHeartbeats 1000000 in
set_option maxRecDepth 100000 in
theorem c_X2_init (l : Launch) (dC : Nat → ClassId) (dI : Nat → Nat → Nat) (h0 : Nat) (sz : Nat)  : Met l yX2_init wsX2_init ({ frames := 1, cells := 6, slots := 14000, locals := 24 }) (va_Pc [.ref h0] (kPre dC dI [] [(h0, .inr (2, [.null, .null, .null, .null, .null, .null, .int 0, .int 0, .int 0, .int 0, .int 0, .int 0, .int 0]))] sz)) (va_Qv (fun (_ : Unit) => True) (fun (_ : Unit) (t : State) => ∃ (x1 : Nat) (x2 : Nat) (x3 : Nat) (x4 : Nat) (x5 : Nat) (x6 : Nat) (y1 : ClassId) (y2 : ClassId) (y3 : ClassId) (y4 : ClassId) (y5 : ClassId) (y6 : ClassId), kB dC dI (va_A [(h0, .inr (2, [.null, .null, .null, .null, .null, .null, .int 0, .int 0, .int 0, .int 0, .int 0, .int 0, .int 0]))] sz) [(y1, .int), (y2, .int), (y3, .int), (y4, .int), (y5, .int), (y6, .byte)] [(h0, .inr (2, [.ref x1, .ref x2, .ref x3, .ref x4, .ref x5, .ref x6, .int 0, .int 0, .int 0, .int 0, .int 0, .int 0, .int 0])), (x1, .inl (y1, 2000, .inl ((fun _ => 0)))), (x2, .inl (y2, 2000, .inl ((fun _ => 0)))), (x3, .inl (y3, 2000, .inl ((fun _ => 0)))), (x4, .inl (y4, 2000, .inl ((fun _ => 0)))), (x5, .inl (y5, 2000, .inl ((fun _ => 0)))), (x6, .inl (y6, 4000, .inl ((fun _ => 0))))] t) (va_A [(h0, .inr (2, [.null, .null, .null, .null, .null, .null, .int 0, .int 0, .int 0, .int 0, .int 0, .int 0, .int 0]))] sz)) 6 14000 (va_A [(h0, .inr (2, [.null, .null, .null, .null, .null, .null, .int 0, .int 0, .int 0, .int 0, .int 0, .int 0, .int 0]))] sz) := by
  refine Met.ofW (cc := cX2_init) (maxL := 1) (ret := none) (by decide) rfl ?_
  intro p e s m args below meth c s₁ B hml hv
  obtain ⟨rfl, hsz, hP, hK, hD0, hN⟩ := hv
  have hx := B.exec
  have hb := B.bytes
  have hr := B.returns
  have hts := atoms_spec (ws := wsX2_init) B.pre
  have hown : s.vm.findClass RX2 = some m.cls := findClass_of_methodNamed B.named
  have hlocks := B.notSynchronized
  have hin : meth.name = "<init>" := (name_of_methodNamed B.named B.method).1
  have hAO := hN.2.2
  subst hsz
  have hD := hD0.self (sz := s.heap.size)
  generalize hAe : va_A [(h0, .inr (2, [.null, .null, .null, .null, .null, .null, .int 0, .int 0, .int 0, .int 0, .int 0, .int 0, .int 0]))] s.heap.size = A at hD ⊢
  have hA : ∀ q : Nat, s.heap.size ≤ q → A q := fun q h => by rw [← hAe]; exact Or.inr h
  have hS : va_S A s.heap s.heap [] := va_S.rf
  have hP : va_P (dC, dI) vwCl [(h0, .inr (2, [.null, .null, .null, .null, .null, .null, .int 0, .int 0, .int 0, .int 0, .int 0, .int 0, .int 0]))] s.heap := hP
  have hinX2 : ∀ w ∈ wsX20, w ∈ wsX2_init := fun _ h => List.mem_cons_of_mem _ (List.mem_append_right _ h)
  have hl := lv_entry ([.ref h0]) (n := 1) (Nat.le_of_ble_eq_true rfl)
  rw [lg_entry_eq]
  generalize (lg_sl ([.ref h0]) ++ List.replicate (1 - (lg_sl ([.ref h0])).length) Slot.unset).toArray = ls at hl ⊢
  have hl : lv_has ls 1 [(0, .ref h0)] := hl
  refine lv_aload_n hx hb dX2_init_0 rfl (lv_at hl 0 rfl) ?_
  refine W.objInit hx hb hown (hts (.methodLink RX2 5 objectInit) (List.mem_of_getElem? (i := 1) rfl)) (hts (.instanceMethod objectInit) (List.mem_of_getElem? (i := 2) rfl)) (hts (.code objectInit ⟨#[0xb1]⟩ 1 none) (List.mem_of_getElem? (i := 3) rfl)) rfl (by rw [hml]; exact hl.1) rfl dX2_init_1 (Nat.le_of_ble_eq_true rfl) (Nat.le_of_ble_eq_true rfl) ?_
  refine W.eq (g2 := F0 m 4 ls []) rfl ?_
  refine lv_aload_n hx hb dX2_init_4 rfl (lv_at hl 0 rfl) ?_
  refine lv_sipush (v := 2000) hx hb dX2_init_5 (by decide) ?_
  refine va_newa (atype := .int) (a0 := (2000, .inl (fun _ => 0))) (ty := .int) (N' := 2000) hx hb (hts (.arrayClass .int) (List.mem_of_getElem? (i := 4) rfl)) rfl hK hP hD hS hA (fun c9 => k_cellI c9 2000) (by decide +kernel) (by decide +kernel) (by decide +kernel) (by decide +kernel) (by decide +kernel) dX2_init_8 (fun q_1 k_2 H hK hP hD hS => ?_)
  have hP : va_P (dC, dI) vwCl [(h0, .inr (2, [.null, .null, .null, .null, .null, .null, .int 0, .int 0, .int 0, .int 0, .int 0, .int 0, .int 0])), (q_1, .inl (k_2, 2000, .inl ((fun _ => 0))))] H := hP
  have hD : va_D A [(h0, .inr (2, [.null, .null, .null, .null, .null, .null, .int 0, .int 0, .int 0, .int 0, .int 0, .int 0, .int 0])), (q_1, .inl (k_2, 2000, .inl ((fun _ => 0))))] := hD
  have hK : va_K (dC, dI) vwCl [(k_2, .int)] s := hK
  refine W.widen (k := 1) (n := 2000) (by decide +kernel) (by decide +kernel) ?_
  refine va_putF (D := (dC, dI)) (ci := 2) (v := .ref q_1) (ty := .array .int) (C := RX2) (T := TX2) (N := 13) hx hb hts hinX2 tyX2 tyX2_ok nmX2 hown hK hP hD hS 0 rfl rfl 0 (by decide) (hts (.fieldLink RX2 13 "CensusDesk$Household" "sex" "[I") (List.mem_of_getElem? (i := 5) rfl)) (fun _ h9 => h9) rfl hin rfl (by decide +kernel) rfl rfl (Nat.le_of_ble_eq_true rfl) dX2_init_10 (fun H locs hP hD hS => ?_)
  have hP : va_P (dC, dI) vwCl [(h0, .inr (2, [.ref q_1, .null, .null, .null, .null, .null, .int 0, .int 0, .int 0, .int 0, .int 0, .int 0, .int 0])), (q_1, .inl (k_2, 2000, .inl ((fun _ => 0))))] H := hP
  have hD : va_D A [(h0, .inr (2, [.ref q_1, .null, .null, .null, .null, .null, .int 0, .int 0, .int 0, .int 0, .int 0, .int 0, .int 0])), (q_1, .inl (k_2, 2000, .inl ((fun _ => 0))))] := hD
  refine lv_aload_n hx hb dX2_init_13 rfl (lv_at hl 0 rfl) ?_
  refine lv_sipush (v := 2000) hx hb dX2_init_14 (by decide) ?_
  refine va_newa (atype := .int) (a0 := (2000, .inl (fun _ => 0))) (ty := .int) (N' := 2000) hx hb (hts (.arrayClass .int) (List.mem_of_getElem? (i := 4) rfl)) rfl hK hP hD hS hA (fun c9 => k_cellI c9 2000) (by decide +kernel) (by decide +kernel) (by decide +kernel) (by decide +kernel) (by decide +kernel) dX2_init_17 (fun q_3 k_4 H hK hP hD hS => ?_)
  have hP : va_P (dC, dI) vwCl [(h0, .inr (2, [.ref q_1, .null, .null, .null, .null, .null, .int 0, .int 0, .int 0, .int 0, .int 0, .int 0, .int 0])), (q_1, .inl (k_2, 2000, .inl ((fun _ => 0)))), (q_3, .inl (k_4, 2000, .inl ((fun _ => 0))))] H := hP
  have hD : va_D A [(h0, .inr (2, [.ref q_1, .null, .null, .null, .null, .null, .int 0, .int 0, .int 0, .int 0, .int 0, .int 0, .int 0])), (q_1, .inl (k_2, 2000, .inl ((fun _ => 0)))), (q_3, .inl (k_4, 2000, .inl ((fun _ => 0))))] := hD
  have hK : va_K (dC, dI) vwCl [(k_2, .int), (k_4, .int)] s := hK
  refine W.widen (k := 2) (n := 4000) (by decide +kernel) (by decide +kernel) ?_
  refine va_putF (D := (dC, dI)) (ci := 2) (v := .ref q_3) (ty := .array .int) (C := RX2) (T := TX2) (N := 13) hx hb hts hinX2 tyX2 tyX2_ok nmX2 hown hK hP hD hS 0 rfl rfl 1 (by decide) (hts (.fieldLink RX2 17 "CensusDesk$Household" "age" "[I") (List.mem_of_getElem? (i := 6) rfl)) (fun _ h9 => h9) rfl hin rfl (by decide +kernel) rfl rfl (Nat.le_of_ble_eq_true rfl) dX2_init_19 (fun H locs hP hD hS => ?_)
  have hP : va_P (dC, dI) vwCl [(h0, .inr (2, [.ref q_1, .ref q_3, .null, .null, .null, .null, .int 0, .int 0, .int 0, .int 0, .int 0, .int 0, .int 0])), (q_1, .inl (k_2, 2000, .inl ((fun _ => 0)))), (q_3, .inl (k_4, 2000, .inl ((fun _ => 0))))] H := hP
  have hD : va_D A [(h0, .inr (2, [.ref q_1, .ref q_3, .null, .null, .null, .null, .int 0, .int 0, .int 0, .int 0, .int 0, .int 0, .int 0])), (q_1, .inl (k_2, 2000, .inl ((fun _ => 0)))), (q_3, .inl (k_4, 2000, .inl ((fun _ => 0))))] := hD
  refine lv_aload_n hx hb dX2_init_22 rfl (lv_at hl 0 rfl) ?_
  refine lv_sipush (v := 2000) hx hb dX2_init_23 (by decide) ?_
  refine va_newa (atype := .int) (a0 := (2000, .inl (fun _ => 0))) (ty := .int) (N' := 2000) hx hb (hts (.arrayClass .int) (List.mem_of_getElem? (i := 4) rfl)) rfl hK hP hD hS hA (fun c9 => k_cellI c9 2000) (by decide +kernel) (by decide +kernel) (by decide +kernel) (by decide +kernel) (by decide +kernel) dX2_init_26 (fun q_5 k_6 H hK hP hD hS => ?_)
  have hP : va_P (dC, dI) vwCl [(h0, .inr (2, [.ref q_1, .ref q_3, .null, .null, .null, .null, .int 0, .int 0, .int 0, .int 0, .int 0, .int 0, .int 0])), (q_1, .inl (k_2, 2000, .inl ((fun _ => 0)))), (q_3, .inl (k_4, 2000, .inl ((fun _ => 0)))), (q_5, .inl (k_6, 2000, .inl ((fun _ => 0))))] H := hP
  have hD : va_D A [(h0, .inr (2, [.ref q_1, .ref q_3, .null, .null, .null, .null, .int 0, .int 0, .int 0, .int 0, .int 0, .int 0, .int 0])), (q_1, .inl (k_2, 2000, .inl ((fun _ => 0)))), (q_3, .inl (k_4, 2000, .inl ((fun _ => 0)))), (q_5, .inl (k_6, 2000, .inl ((fun _ => 0))))] := hD
  have hK : va_K (dC, dI) vwCl [(k_2, .int), (k_4, .int), (k_6, .int)] s := hK
  refine W.widen (k := 3) (n := 6000) (by decide +kernel) (by decide +kernel) ?_
  refine va_putF (D := (dC, dI)) (ci := 2) (v := .ref q_5) (ty := .array .int) (C := RX2) (T := TX2) (N := 13) hx hb hts hinX2 tyX2 tyX2_ok nmX2 hown hK hP hD hS 0 rfl rfl 2 (by decide) (hts (.fieldLink RX2 20 "CensusDesk$Household" "trade" "[I") (List.mem_of_getElem? (i := 7) rfl)) (fun _ h9 => h9) rfl hin rfl (by decide +kernel) rfl rfl (Nat.le_of_ble_eq_true rfl) dX2_init_28 (fun H locs hP hD hS => ?_)
  have hP : va_P (dC, dI) vwCl [(h0, .inr (2, [.ref q_1, .ref q_3, .ref q_5, .null, .null, .null, .int 0, .int 0, .int 0, .int 0, .int 0, .int 0, .int 0])), (q_1, .inl (k_2, 2000, .inl ((fun _ => 0)))), (q_3, .inl (k_4, 2000, .inl ((fun _ => 0)))), (q_5, .inl (k_6, 2000, .inl ((fun _ => 0))))] H := hP
  have hD : va_D A [(h0, .inr (2, [.ref q_1, .ref q_3, .ref q_5, .null, .null, .null, .int 0, .int 0, .int 0, .int 0, .int 0, .int 0, .int 0])), (q_1, .inl (k_2, 2000, .inl ((fun _ => 0)))), (q_3, .inl (k_4, 2000, .inl ((fun _ => 0)))), (q_5, .inl (k_6, 2000, .inl ((fun _ => 0))))] := hD
  refine lv_aload_n hx hb dX2_init_31 rfl (lv_at hl 0 rfl) ?_
  refine lv_sipush (v := 2000) hx hb dX2_init_32 (by decide) ?_
  refine va_newa (atype := .int) (a0 := (2000, .inl (fun _ => 0))) (ty := .int) (N' := 2000) hx hb (hts (.arrayClass .int) (List.mem_of_getElem? (i := 4) rfl)) rfl hK hP hD hS hA (fun c9 => k_cellI c9 2000) (by decide +kernel) (by decide +kernel) (by decide +kernel) (by decide +kernel) (by decide +kernel) dX2_init_35 (fun q_7 k_8 H hK hP hD hS => ?_)
  have hP : va_P (dC, dI) vwCl [(h0, .inr (2, [.ref q_1, .ref q_3, .ref q_5, .null, .null, .null, .int 0, .int 0, .int 0, .int 0, .int 0, .int 0, .int 0])), (q_1, .inl (k_2, 2000, .inl ((fun _ => 0)))), (q_3, .inl (k_4, 2000, .inl ((fun _ => 0)))), (q_5, .inl (k_6, 2000, .inl ((fun _ => 0)))), (q_7, .inl (k_8, 2000, .inl ((fun _ => 0))))] H := hP
  have hD : va_D A [(h0, .inr (2, [.ref q_1, .ref q_3, .ref q_5, .null, .null, .null, .int 0, .int 0, .int 0, .int 0, .int 0, .int 0, .int 0])), (q_1, .inl (k_2, 2000, .inl ((fun _ => 0)))), (q_3, .inl (k_4, 2000, .inl ((fun _ => 0)))), (q_5, .inl (k_6, 2000, .inl ((fun _ => 0)))), (q_7, .inl (k_8, 2000, .inl ((fun _ => 0))))] := hD
  have hK : va_K (dC, dI) vwCl [(k_2, .int), (k_4, .int), (k_6, .int), (k_8, .int)] s := hK
  refine W.widen (k := 4) (n := 8000) (by decide +kernel) (by decide +kernel) ?_
  refine va_putF (D := (dC, dI)) (ci := 2) (v := .ref q_7) (ty := .array .int) (C := RX2) (T := TX2) (N := 13) hx hb hts hinX2 tyX2 tyX2_ok nmX2 hown hK hP hD hS 0 rfl rfl 3 (by decide) (hts (.fieldLink RX2 23 "CensusDesk$Household" "nameStart" "[I") (List.mem_of_getElem? (i := 8) rfl)) (fun _ h9 => h9) rfl hin rfl (by decide +kernel) rfl rfl (Nat.le_of_ble_eq_true rfl) dX2_init_37 (fun H locs hP hD hS => ?_)
  have hP : va_P (dC, dI) vwCl [(h0, .inr (2, [.ref q_1, .ref q_3, .ref q_5, .ref q_7, .null, .null, .int 0, .int 0, .int 0, .int 0, .int 0, .int 0, .int 0])), (q_1, .inl (k_2, 2000, .inl ((fun _ => 0)))), (q_3, .inl (k_4, 2000, .inl ((fun _ => 0)))), (q_5, .inl (k_6, 2000, .inl ((fun _ => 0)))), (q_7, .inl (k_8, 2000, .inl ((fun _ => 0))))] H := hP
  have hD : va_D A [(h0, .inr (2, [.ref q_1, .ref q_3, .ref q_5, .ref q_7, .null, .null, .int 0, .int 0, .int 0, .int 0, .int 0, .int 0, .int 0])), (q_1, .inl (k_2, 2000, .inl ((fun _ => 0)))), (q_3, .inl (k_4, 2000, .inl ((fun _ => 0)))), (q_5, .inl (k_6, 2000, .inl ((fun _ => 0)))), (q_7, .inl (k_8, 2000, .inl ((fun _ => 0))))] := hD
  refine lv_aload_n hx hb dX2_init_40 rfl (lv_at hl 0 rfl) ?_
  refine lv_sipush (v := 2000) hx hb dX2_init_41 (by decide) ?_
  refine va_newa (atype := .int) (a0 := (2000, .inl (fun _ => 0))) (ty := .int) (N' := 2000) hx hb (hts (.arrayClass .int) (List.mem_of_getElem? (i := 4) rfl)) rfl hK hP hD hS hA (fun c9 => k_cellI c9 2000) (by decide +kernel) (by decide +kernel) (by decide +kernel) (by decide +kernel) (by decide +kernel) dX2_init_44 (fun q_9 k_10 H hK hP hD hS => ?_)
  have hP : va_P (dC, dI) vwCl [(h0, .inr (2, [.ref q_1, .ref q_3, .ref q_5, .ref q_7, .null, .null, .int 0, .int 0, .int 0, .int 0, .int 0, .int 0, .int 0])), (q_1, .inl (k_2, 2000, .inl ((fun _ => 0)))), (q_3, .inl (k_4, 2000, .inl ((fun _ => 0)))), (q_5, .inl (k_6, 2000, .inl ((fun _ => 0)))), (q_7, .inl (k_8, 2000, .inl ((fun _ => 0)))), (q_9, .inl (k_10, 2000, .inl ((fun _ => 0))))] H := hP
  have hD : va_D A [(h0, .inr (2, [.ref q_1, .ref q_3, .ref q_5, .ref q_7, .null, .null, .int 0, .int 0, .int 0, .int 0, .int 0, .int 0, .int 0])), (q_1, .inl (k_2, 2000, .inl ((fun _ => 0)))), (q_3, .inl (k_4, 2000, .inl ((fun _ => 0)))), (q_5, .inl (k_6, 2000, .inl ((fun _ => 0)))), (q_7, .inl (k_8, 2000, .inl ((fun _ => 0)))), (q_9, .inl (k_10, 2000, .inl ((fun _ => 0))))] := hD
  have hK : va_K (dC, dI) vwCl [(k_2, .int), (k_4, .int), (k_6, .int), (k_8, .int), (k_10, .int)] s := hK
  refine W.widen (k := 5) (n := 10000) (by decide +kernel) (by decide +kernel) ?_
  refine va_putF (D := (dC, dI)) (ci := 2) (v := .ref q_9) (ty := .array .int) (C := RX2) (T := TX2) (N := 13) hx hb hts hinX2 tyX2 tyX2_ok nmX2 hown hK hP hD hS 0 rfl rfl 4 (by decide) (hts (.fieldLink RX2 26 "CensusDesk$Household" "nameLength" "[I") (List.mem_of_getElem? (i := 9) rfl)) (fun _ h9 => h9) rfl hin rfl (by decide +kernel) rfl rfl (Nat.le_of_ble_eq_true rfl) dX2_init_46 (fun H locs hP hD hS => ?_)
  have hP : va_P (dC, dI) vwCl [(h0, .inr (2, [.ref q_1, .ref q_3, .ref q_5, .ref q_7, .ref q_9, .null, .int 0, .int 0, .int 0, .int 0, .int 0, .int 0, .int 0])), (q_1, .inl (k_2, 2000, .inl ((fun _ => 0)))), (q_3, .inl (k_4, 2000, .inl ((fun _ => 0)))), (q_5, .inl (k_6, 2000, .inl ((fun _ => 0)))), (q_7, .inl (k_8, 2000, .inl ((fun _ => 0)))), (q_9, .inl (k_10, 2000, .inl ((fun _ => 0))))] H := hP
  have hD : va_D A [(h0, .inr (2, [.ref q_1, .ref q_3, .ref q_5, .ref q_7, .ref q_9, .null, .int 0, .int 0, .int 0, .int 0, .int 0, .int 0, .int 0])), (q_1, .inl (k_2, 2000, .inl ((fun _ => 0)))), (q_3, .inl (k_4, 2000, .inl ((fun _ => 0)))), (q_5, .inl (k_6, 2000, .inl ((fun _ => 0)))), (q_7, .inl (k_8, 2000, .inl ((fun _ => 0)))), (q_9, .inl (k_10, 2000, .inl ((fun _ => 0))))] := hD
  refine lv_aload_n hx hb dX2_init_49 rfl (lv_at hl 0 rfl) ?_
  refine lv_sipush (v := 4000) hx hb dX2_init_50 (by decide) ?_
  refine va_newa (atype := .byte) (a0 := (4000, .inl (fun _ => 0))) (ty := .byte) (N' := 4000) hx hb (hts (.arrayClass .byte) (List.mem_of_getElem? (i := 10) rfl)) rfl hK hP hD hS hA (fun c9 => k_cellB c9 4000) (by decide +kernel) (by decide +kernel) (by decide +kernel) (by decide +kernel) (by decide +kernel) dX2_init_53 (fun q_11 k_12 H hK hP hD hS => ?_)
  have hP : va_P (dC, dI) vwCl [(h0, .inr (2, [.ref q_1, .ref q_3, .ref q_5, .ref q_7, .ref q_9, .null, .int 0, .int 0, .int 0, .int 0, .int 0, .int 0, .int 0])), (q_1, .inl (k_2, 2000, .inl ((fun _ => 0)))), (q_3, .inl (k_4, 2000, .inl ((fun _ => 0)))), (q_5, .inl (k_6, 2000, .inl ((fun _ => 0)))), (q_7, .inl (k_8, 2000, .inl ((fun _ => 0)))), (q_9, .inl (k_10, 2000, .inl ((fun _ => 0)))), (q_11, .inl (k_12, 4000, .inl ((fun _ => 0))))] H := hP
  have hD : va_D A [(h0, .inr (2, [.ref q_1, .ref q_3, .ref q_5, .ref q_7, .ref q_9, .null, .int 0, .int 0, .int 0, .int 0, .int 0, .int 0, .int 0])), (q_1, .inl (k_2, 2000, .inl ((fun _ => 0)))), (q_3, .inl (k_4, 2000, .inl ((fun _ => 0)))), (q_5, .inl (k_6, 2000, .inl ((fun _ => 0)))), (q_7, .inl (k_8, 2000, .inl ((fun _ => 0)))), (q_9, .inl (k_10, 2000, .inl ((fun _ => 0)))), (q_11, .inl (k_12, 4000, .inl ((fun _ => 0))))] := hD
  have hK : va_K (dC, dI) vwCl [(k_2, .int), (k_4, .int), (k_6, .int), (k_8, .int), (k_10, .int), (k_12, .byte)] s := hK
  refine W.widen (k := 6) (n := 14000) (by decide +kernel) (by decide +kernel) ?_
  refine va_putF (D := (dC, dI)) (ci := 2) (v := .ref q_11) (ty := .array .byte) (C := RX2) (T := TX2) (N := 13) hx hb hts hinX2 tyX2 tyX2_ok nmX2 hown hK hP hD hS 0 rfl rfl 5 (by decide) (hts (.fieldLink RX2 29 "CensusDesk$Household" "names" "[B") (List.mem_of_getElem? (i := 11) rfl)) (fun _ h9 => h9) rfl hin rfl (by decide +kernel) rfl rfl (Nat.le_of_ble_eq_true rfl) dX2_init_55 (fun H locs hP hD hS => ?_)
  have hP : va_P (dC, dI) vwCl [(h0, .inr (2, [.ref q_1, .ref q_3, .ref q_5, .ref q_7, .ref q_9, .ref q_11, .int 0, .int 0, .int 0, .int 0, .int 0, .int 0, .int 0])), (q_1, .inl (k_2, 2000, .inl ((fun _ => 0)))), (q_3, .inl (k_4, 2000, .inl ((fun _ => 0)))), (q_5, .inl (k_6, 2000, .inl ((fun _ => 0)))), (q_7, .inl (k_8, 2000, .inl ((fun _ => 0)))), (q_9, .inl (k_10, 2000, .inl ((fun _ => 0)))), (q_11, .inl (k_12, 4000, .inl ((fun _ => 0))))] H := hP
  have hD : va_D A [(h0, .inr (2, [.ref q_1, .ref q_3, .ref q_5, .ref q_7, .ref q_9, .ref q_11, .int 0, .int 0, .int 0, .int 0, .int 0, .int 0, .int 0])), (q_1, .inl (k_2, 2000, .inl ((fun _ => 0)))), (q_3, .inl (k_4, 2000, .inl ((fun _ => 0)))), (q_5, .inl (k_6, 2000, .inl ((fun _ => 0)))), (q_7, .inl (k_8, 2000, .inl ((fun _ => 0)))), (q_9, .inl (k_10, 2000, .inl ((fun _ => 0)))), (q_11, .inl (k_12, 4000, .inl ((fun _ => 0))))] := hD
  have hP9 := hP.sub (ws' := [(h0, .inr (2, [.ref q_1, .ref q_3, .ref q_5, .ref q_7, .ref q_9, .ref q_11, .int 0, .int 0, .int 0, .int 0, .int 0, .int 0, .int 0])), (q_1, .inl (k_2, 2000, .inl ((fun _ => 0)))), (q_3, .inl (k_4, 2000, .inl ((fun _ => 0)))), (q_5, .inl (k_6, 2000, .inl ((fun _ => 0)))), (q_7, .inl (k_8, 2000, .inl ((fun _ => 0)))), (q_9, .inl (k_10, 2000, .inl ((fun _ => 0)))), (q_11, .inl (k_12, 4000, .inl ((fun _ => 0))))]) [0, 1, 2, 3, 4, 5, 6] rfl
  have hD9 := hD.sub (ws' := [(h0, .inr (2, [.ref q_1, .ref q_3, .ref q_5, .ref q_7, .ref q_9, .ref q_11, .int 0, .int 0, .int 0, .int 0, .int 0, .int 0, .int 0])), (q_1, .inl (k_2, 2000, .inl ((fun _ => 0)))), (q_3, .inl (k_4, 2000, .inl ((fun _ => 0)))), (q_5, .inl (k_6, 2000, .inl ((fun _ => 0)))), (q_7, .inl (k_8, 2000, .inl ((fun _ => 0)))), (q_9, .inl (k_10, 2000, .inl ((fun _ => 0)))), (q_11, .inl (k_12, 4000, .inl ((fun _ => 0))))]) [0, 1, 2, 3, 4, 5, 6] (by decide) rfl
  have hK9 := hK.sub (tys' := [(k_2, .int), (k_4, .int), (k_6, .int), (k_8, .int), (k_10, .int), (k_12, .byte)]) [0, 1, 2, 3, 4, 5] rfl
  exact W.vret hx hb hr (fun t ht hW => ⟨⟨(), rfl, trivial, q_1, q_3, q_5, q_7, q_9, q_11, k_2, k_4, k_6, k_8, k_10, k_12, ⟨by rw [ht]; exact hP9, va_K.moved hW.alike hK9, hD9⟩⟩, hS.F ht⟩) hS.2.2 dX2_init_58
set_option maxHeartbeats 1000000 in
set_option maxRecDepth 100000 in
theorem c_X0_init (l : Launch) (dC : Nat → ClassId) (dI : Nat → Nat → Nat) (h0 : Nat) (sz : Nat)  : Met l yX0_init wsX0_init ({ frames := 1, cells := 14, slots := 10826, locals := 24 }) (va_Pc [.ref h0] (kPre dC dI [] [(h0, .inr (0, [.null, .null, .null, .null, .int 0, .int 0, .int 0, .int 0, .int 0, .int 0]))] sz)) (va_Qv (fun (_ : Unit) => True) (fun (_ : Unit) (t : State) => ∃ (qh : Nat) (kh : ClassId) (rh : Nat → Nat) (qp : Nat) (kp : ClassId) (rp : Nat → Nat) (qn : Nat) (kn : ClassId) (qs : Nat) (ks : ClassId), kB dC dI (va_A [(h0, .inr (0, [.null, .null, .null, .null, .int 0, .int 0, .int 0, .int 0, .int 0, .int 0]))] sz) [(kh, (.array .int)), (ks, .int), (ks, .int), (ks, .int), (ks, .int), (ks, .int), (kp, (.array .int)), (ks, .int), (ks, .int), (ks, .int), (ks, .int), (ks, .int), (kn, .byte), (ks, .int)] [(h0, .inr (0, [.ref qh, .ref qp, .ref qn, .ref qs, .int 0, .int 0, .int 0, .int 0, .int 0, .int 0])), (qh, .inl (kh, 5, .inr (.inr (.inr (.inr (fun i => if i < 5 then some (rh i) else none)))))), (rh 0, .inl (ks, 60, .inl ((fun _ => 0)))), (rh 1, .inl (ks, 60, .inl ((fun _ => 0)))), (rh 2, .inl (ks, 60, .inl ((fun _ => 0)))), (rh 3, .inl (ks, 60, .inl ((fun _ => 0)))), (rh 4, .inl (ks, 60, .inl ((fun _ => 0)))), (qp, .inl (kp, 5, .inr (.inr (.inr (.inr (fun i => if i < 5 then some (rp i) else none)))))), (rp 0, .inl (ks, 300, .inl ((fun _ => 0)))), (rp 1, .inl (ks, 300, .inl ((fun _ => 0)))), (rp 2, .inl (ks, 300, .inl ((fun _ => 0)))), (rp 3, .inl (ks, 300, .inl ((fun _ => 0)))), (rp 4, .inl (ks, 300, .inl ((fun _ => 0)))), (qn, .inl (kn, 9000, .inl ((fun _ => 0)))), (qs, .inl (ks, 16, .inl ((fun _ => 0))))] t) (va_A [(h0, .inr (0, [.null, .null, .null, .null, .int 0, .int 0, .int 0, .int 0, .int 0, .int 0]))] sz)) 14 10826 (va_A [(h0, .inr (0, [.null, .null, .null, .null, .int 0, .int 0, .int 0, .int 0, .int 0, .int 0]))] sz) := by
  refine Met.ofW (cc := cX0_init) (maxL := 1) (ret := none) (by decide) rfl ?_
  intro p e s m args below meth c s₁ B hml hv
  obtain ⟨rfl, hsz, hP, hK, hD0, hN⟩ := hv
  have hx := B.exec
  have hb := B.bytes
  have hr := B.returns
  have hts := atoms_spec (ws := wsX0_init) B.pre
  have hown : s.vm.findClass RX0 = some m.cls := findClass_of_methodNamed B.named
  have hlocks := B.notSynchronized
  have hin : meth.name = "<init>" := (name_of_methodNamed B.named B.method).1
  have hAO := hN.2.2
  subst hsz
  have hD := hD0.self (sz := s.heap.size)
  generalize hAe : va_A [(h0, .inr (0, [.null, .null, .null, .null, .int 0, .int 0, .int 0, .int 0, .int 0, .int 0]))] s.heap.size = A at hD ⊢
  have hA : ∀ q : Nat, s.heap.size ≤ q → A q := fun q h => by rw [← hAe]; exact Or.inr h
  have hS : va_S A s.heap s.heap [] := va_S.rf
  have hP : va_P (dC, dI) vwCl [(h0, .inr (0, [.null, .null, .null, .null, .int 0, .int 0, .int 0, .int 0, .int 0, .int 0]))] s.heap := hP
  have hinX0 : ∀ w ∈ wsX00, w ∈ wsX0_init := fun _ h => List.mem_cons_of_mem _ (List.mem_append_right _ h)
  have hl := lv_entry ([.ref h0]) (n := 1) (Nat.le_of_ble_eq_true rfl)
  rw [lg_entry_eq]
  generalize (lg_sl ([.ref h0]) ++ List.replicate (1 - (lg_sl ([.ref h0])).length) Slot.unset).toArray = ls at hl ⊢
  have hl : lv_has ls 1 [(0, .ref h0)] := hl
  refine lv_aload_n hx hb dX0_init_0 rfl (lv_at hl 0 rfl) ?_
  refine W.objInit hx hb hown (hts (.methodLink RX0 3 objectInit) (List.mem_of_getElem? (i := 1) rfl)) (hts (.instanceMethod objectInit) (List.mem_of_getElem? (i := 2) rfl)) (hts (.code objectInit ⟨#[0xb1]⟩ 1 none) (List.mem_of_getElem? (i := 3) rfl)) rfl (by rw [hml]; exact hl.1) rfl dX0_init_1 (Nat.le_of_ble_eq_true rfl) (Nat.le_of_ble_eq_true rfl) ?_
  refine W.eq (g2 := F0 m 4 ls []) rfl ?_
  refine lv_aload_n hx hb dX0_init_4 rfl (lv_at hl 0 rfl) ?_
  refine lv_iconst (v := 5) hx hb dX0_init_5 (by decide) ?_
  refine lv_bipush (v := 60) hx hb dX0_init_6 (by decide) ?_
  obtain ⟨cy_2, _, _, hcy_2, -⟩ := Cond.arrayClass_spec (hts (.arrayClass .int) (List.mem_of_getElem? (i := 5) rfl))
  refine va_mna (X := [(h0, .inr (0, [.null, .null, .null, .null, .int 0, .int 0, .int 0, .int 0, .int 0, .int 0]))]) (L := []) (f := fun _ => .inr (0, [])) (ty := .int) (cy := cy_2) (z := (60, .inl (fun _ => 0))) (N' := 5) (K' := 60) hx hb hown (hts (.classLink RX0 11 "[[I") (List.mem_of_getElem? (i := 4) rfl)) hAO (hts (.arrayClass .int) (List.mem_of_getElem? (i := 5) rfl)) hcy_2 hK hP hD hS hA (by decide +kernel) (by decide +kernel) (by decide +kernel) (by decide +kernel) (by decide +kernel) (by decide +kernel) (by decide +kernel) rfl rfl (by decide +kernel) (by decide +kernel) (fun c9 => k_inner c9 60) dX0_init_8 (fun q_1 r_3 ka_4 H hr9 hr9b hK hP hD hS => ?_)
  have hP := k_pl5 hP
  have hD := k_pl5D hD
  have hP : va_P (dC, dI) vwCl [(h0, .inr (0, [.null, .null, .null, .null, .int 0, .int 0, .int 0, .int 0, .int 0, .int 0])), (q_1, .inl (ka_4, 5, .inr (.inr (.inr (.inr (fun i => if i < 5 then some (r_3 i) else none)))))), (r_3 0, .inl (cy_2, 60, .inl ((fun _ => 0)))), (r_3 1, .inl (cy_2, 60, .inl ((fun _ => 0)))), (r_3 2, .inl (cy_2, 60, .inl ((fun _ => 0)))), (r_3 3, .inl (cy_2, 60, .inl ((fun _ => 0)))), (r_3 4, .inl (cy_2, 60, .inl ((fun _ => 0))))] H := hP
  have hD : va_D A [(h0, .inr (0, [.null, .null, .null, .null, .int 0, .int 0, .int 0, .int 0, .int 0, .int 0])), (q_1, .inl (ka_4, 5, .inr (.inr (.inr (.inr (fun i => if i < 5 then some (r_3 i) else none)))))), (r_3 0, .inl (cy_2, 60, .inl ((fun _ => 0)))), (r_3 1, .inl (cy_2, 60, .inl ((fun _ => 0)))), (r_3 2, .inl (cy_2, 60, .inl ((fun _ => 0)))), (r_3 3, .inl (cy_2, 60, .inl ((fun _ => 0)))), (r_3 4, .inl (cy_2, 60, .inl ((fun _ => 0))))] := hD
  have hK : va_K (dC, dI) vwCl [(ka_4, (.array .int))] s := hK
  refine W.widen (k := 6) (n := 305) (by decide +kernel) (by decide +kernel) ?_
  refine va_putF (D := (dC, dI)) (ci := 0) (v := .ref q_1) (ty := .array (.array .int)) (C := RX0) (T := TX0) (N := 10) hx hb hts hinX0 tyX0 tyX0_ok nmX0 hown hK hP hD hS 0 rfl rfl 0 (by decide) (hts (.fieldLink RX0 13 "CensusDesk$Book" "householdFacts" "[[I") (List.mem_of_getElem? (i := 6) rfl)) (fun _ h9 => h9) rfl hin rfl (by decide +kernel) rfl rfl (Nat.le_of_ble_eq_true rfl) dX0_init_12 (fun H locs hP hD hS => ?_)
  have hP : va_P (dC, dI) vwCl [(h0, .inr (0, [.ref q_1, .null, .null, .null, .int 0, .int 0, .int 0, .int 0, .int 0, .int 0])), (q_1, .inl (ka_4, 5, .inr (.inr (.inr (.inr (fun i => if i < 5 then some (r_3 i) else none)))))), (r_3 0, .inl (cy_2, 60, .inl ((fun _ => 0)))), (r_3 1, .inl (cy_2, 60, .inl ((fun _ => 0)))), (r_3 2, .inl (cy_2, 60, .inl ((fun _ => 0)))), (r_3 3, .inl (cy_2, 60, .inl ((fun _ => 0)))), (r_3 4, .inl (cy_2, 60, .inl ((fun _ => 0))))] H := hP
  have hD : va_D A [(h0, .inr (0, [.ref q_1, .null, .null, .null, .int 0, .int 0, .int 0, .int 0, .int 0, .int 0])), (q_1, .inl (ka_4, 5, .inr (.inr (.inr (.inr (fun i => if i < 5 then some (r_3 i) else none)))))), (r_3 0, .inl (cy_2, 60, .inl ((fun _ => 0)))), (r_3 1, .inl (cy_2, 60, .inl ((fun _ => 0)))), (r_3 2, .inl (cy_2, 60, .inl ((fun _ => 0)))), (r_3 3, .inl (cy_2, 60, .inl ((fun _ => 0)))), (r_3 4, .inl (cy_2, 60, .inl ((fun _ => 0))))] := hD
  refine lv_aload_n hx hb dX0_init_15 rfl (lv_at hl 0 rfl) ?_
  refine lv_iconst (v := 5) hx hb dX0_init_16 (by decide) ?_
  refine lv_sipush (v := 300) hx hb dX0_init_17 (by decide) ?_
  obtain ⟨cy_6, _, _, hcy_6, -⟩ := Cond.arrayClass_spec (hts (.arrayClass .int) (List.mem_of_getElem? (i := 5) rfl))
  refine va_mna (X := [(h0, .inr (0, [.ref q_1, .null, .null, .null, .int 0, .int 0, .int 0, .int 0, .int 0, .int 0])), (q_1, .inl (ka_4, 5, .inr (.inr (.inr (.inr (fun i => if i < 5 then some (r_3 i) else none)))))), (r_3 0, .inl (cy_2, 60, .inl ((fun _ => 0)))), (r_3 1, .inl (cy_2, 60, .inl ((fun _ => 0)))), (r_3 2, .inl (cy_2, 60, .inl ((fun _ => 0)))), (r_3 3, .inl (cy_2, 60, .inl ((fun _ => 0)))), (r_3 4, .inl (cy_2, 60, .inl ((fun _ => 0))))]) (L := []) (f := fun _ => .inr (0, [])) (ty := .int) (cy := cy_6) (z := (300, .inl (fun _ => 0))) (N' := 5) (K' := 300) hx hb hown (hts (.classLink RX0 11 "[[I") (List.mem_of_getElem? (i := 4) rfl)) hAO (hts (.arrayClass .int) (List.mem_of_getElem? (i := 5) rfl)) hcy_6 hK hP hD hS hA (by decide +kernel) (by decide +kernel) (by decide +kernel) (by decide +kernel) (by decide +kernel) (by decide +kernel) (by decide +kernel) rfl rfl (by decide +kernel) (by decide +kernel) (fun c9 => k_inner c9 300) dX0_init_20 (fun q_5 r_7 ka_8 H hr9 hr9b hK hP hD hS => ?_)
  have hP := k_pl5 hP
  have hD := k_pl5D hD
  have hP : va_P (dC, dI) vwCl [(h0, .inr (0, [.ref q_1, .null, .null, .null, .int 0, .int 0, .int 0, .int 0, .int 0, .int 0])), (q_1, .inl (ka_4, 5, .inr (.inr (.inr (.inr (fun i => if i < 5 then some (r_3 i) else none)))))), (r_3 0, .inl (cy_2, 60, .inl ((fun _ => 0)))), (r_3 1, .inl (cy_2, 60, .inl ((fun _ => 0)))), (r_3 2, .inl (cy_2, 60, .inl ((fun _ => 0)))), (r_3 3, .inl (cy_2, 60, .inl ((fun _ => 0)))), (r_3 4, .inl (cy_2, 60, .inl ((fun _ => 0)))), (q_5, .inl (ka_8, 5, .inr (.inr (.inr (.inr (fun i => if i < 5 then some (r_7 i) else none)))))), (r_7 0, .inl (cy_6, 300, .inl ((fun _ => 0)))), (r_7 1, .inl (cy_6, 300, .inl ((fun _ => 0)))), (r_7 2, .inl (cy_6, 300, .inl ((fun _ => 0)))), (r_7 3, .inl (cy_6, 300, .inl ((fun _ => 0)))), (r_7 4, .inl (cy_6, 300, .inl ((fun _ => 0))))] H := hP
  have hD : va_D A [(h0, .inr (0, [.ref q_1, .null, .null, .null, .int 0, .int 0, .int 0, .int 0, .int 0, .int 0])), (q_1, .inl (ka_4, 5, .inr (.inr (.inr (.inr (fun i => if i < 5 then some (r_3 i) else none)))))), (r_3 0, .inl (cy_2, 60, .inl ((fun _ => 0)))), (r_3 1, .inl (cy_2, 60, .inl ((fun _ => 0)))), (r_3 2, .inl (cy_2, 60, .inl ((fun _ => 0)))), (r_3 3, .inl (cy_2, 60, .inl ((fun _ => 0)))), (r_3 4, .inl (cy_2, 60, .inl ((fun _ => 0)))), (q_5, .inl (ka_8, 5, .inr (.inr (.inr (.inr (fun i => if i < 5 then some (r_7 i) else none)))))), (r_7 0, .inl (cy_6, 300, .inl ((fun _ => 0)))), (r_7 1, .inl (cy_6, 300, .inl ((fun _ => 0)))), (r_7 2, .inl (cy_6, 300, .inl ((fun _ => 0)))), (r_7 3, .inl (cy_6, 300, .inl ((fun _ => 0)))), (r_7 4, .inl (cy_6, 300, .inl ((fun _ => 0))))] := hD
  have hK : va_K (dC, dI) vwCl [(ka_4, (.array .int)), (ka_8, (.array .int))] s := hK
  refine W.widen (k := 12) (n := 1810) (by decide +kernel) (by decide +kernel) ?_
  refine va_putF (D := (dC, dI)) (ci := 0) (v := .ref q_5) (ty := .array (.array .int)) (C := RX0) (T := TX0) (N := 10) hx hb hts hinX0 tyX0 tyX0_ok nmX0 hown hK hP hD hS 0 rfl rfl 1 (by decide) (hts (.fieldLink RX0 16 "CensusDesk$Book" "personFacts" "[[I") (List.mem_of_getElem? (i := 7) rfl)) (fun _ h9 => h9) rfl hin rfl (by decide +kernel) rfl rfl (Nat.le_of_ble_eq_true rfl) dX0_init_24 (fun H locs hP hD hS => ?_)
  have hP : va_P (dC, dI) vwCl [(h0, .inr (0, [.ref q_1, .ref q_5, .null, .null, .int 0, .int 0, .int 0, .int 0, .int 0, .int 0])), (q_1, .inl (ka_4, 5, .inr (.inr (.inr (.inr (fun i => if i < 5 then some (r_3 i) else none)))))), (r_3 0, .inl (cy_2, 60, .inl ((fun _ => 0)))), (r_3 1, .inl (cy_2, 60, .inl ((fun _ => 0)))), (r_3 2, .inl (cy_2, 60, .inl ((fun _ => 0)))), (r_3 3, .inl (cy_2, 60, .inl ((fun _ => 0)))), (r_3 4, .inl (cy_2, 60, .inl ((fun _ => 0)))), (q_5, .inl (ka_8, 5, .inr (.inr (.inr (.inr (fun i => if i < 5 then some (r_7 i) else none)))))), (r_7 0, .inl (cy_6, 300, .inl ((fun _ => 0)))), (r_7 1, .inl (cy_6, 300, .inl ((fun _ => 0)))), (r_7 2, .inl (cy_6, 300, .inl ((fun _ => 0)))), (r_7 3, .inl (cy_6, 300, .inl ((fun _ => 0)))), (r_7 4, .inl (cy_6, 300, .inl ((fun _ => 0))))] H := hP
  have hD : va_D A [(h0, .inr (0, [.ref q_1, .ref q_5, .null, .null, .int 0, .int 0, .int 0, .int 0, .int 0, .int 0])), (q_1, .inl (ka_4, 5, .inr (.inr (.inr (.inr (fun i => if i < 5 then some (r_3 i) else none)))))), (r_3 0, .inl (cy_2, 60, .inl ((fun _ => 0)))), (r_3 1, .inl (cy_2, 60, .inl ((fun _ => 0)))), (r_3 2, .inl (cy_2, 60, .inl ((fun _ => 0)))), (r_3 3, .inl (cy_2, 60, .inl ((fun _ => 0)))), (r_3 4, .inl (cy_2, 60, .inl ((fun _ => 0)))), (q_5, .inl (ka_8, 5, .inr (.inr (.inr (.inr (fun i => if i < 5 then some (r_7 i) else none)))))), (r_7 0, .inl (cy_6, 300, .inl ((fun _ => 0)))), (r_7 1, .inl (cy_6, 300, .inl ((fun _ => 0)))), (r_7 2, .inl (cy_6, 300, .inl ((fun _ => 0)))), (r_7 3, .inl (cy_6, 300, .inl ((fun _ => 0)))), (r_7 4, .inl (cy_6, 300, .inl ((fun _ => 0))))] := hD
  refine lv_aload_n hx hb dX0_init_27 rfl (lv_at hl 0 rfl) ?_
  refine lv_sipush (v := 9000) hx hb dX0_init_28 (by decide) ?_
  refine va_newa (atype := .byte) (a0 := (9000, .inl (fun _ => 0))) (ty := .byte) (N' := 9000) hx hb (hts (.arrayClass .byte) (List.mem_of_getElem? (i := 8) rfl)) rfl hK hP hD hS hA (fun c9 => k_cellB c9 9000) (by decide +kernel) (by decide +kernel) (by decide +kernel) (by decide +kernel) (by decide +kernel) dX0_init_31 (fun q_9 k_10 H hK hP hD hS => ?_)
  have hP : va_P (dC, dI) vwCl [(h0, .inr (0, [.ref q_1, .ref q_5, .null, .null, .int 0, .int 0, .int 0, .int 0, .int 0, .int 0])), (q_1, .inl (ka_4, 5, .inr (.inr (.inr (.inr (fun i => if i < 5 then some (r_3 i) else none)))))), (r_3 0, .inl (cy_2, 60, .inl ((fun _ => 0)))), (r_3 1, .inl (cy_2, 60, .inl ((fun _ => 0)))), (r_3 2, .inl (cy_2, 60, .inl ((fun _ => 0)))), (r_3 3, .inl (cy_2, 60, .inl ((fun _ => 0)))), (r_3 4, .inl (cy_2, 60, .inl ((fun _ => 0)))), (q_5, .inl (ka_8, 5, .inr (.inr (.inr (.inr (fun i => if i < 5 then some (r_7 i) else none)))))), (r_7 0, .inl (cy_6, 300, .inl ((fun _ => 0)))), (r_7 1, .inl (cy_6, 300, .inl ((fun _ => 0)))), (r_7 2, .inl (cy_6, 300, .inl ((fun _ => 0)))), (r_7 3, .inl (cy_6, 300, .inl ((fun _ => 0)))), (r_7 4, .inl (cy_6, 300, .inl ((fun _ => 0)))), (q_9, .inl (k_10, 9000, .inl ((fun _ => 0))))] H := hP
  have hD : va_D A [(h0, .inr (0, [.ref q_1, .ref q_5, .null, .null, .int 0, .int 0, .int 0, .int 0, .int 0, .int 0])), (q_1, .inl (ka_4, 5, .inr (.inr (.inr (.inr (fun i => if i < 5 then some (r_3 i) else none)))))), (r_3 0, .inl (cy_2, 60, .inl ((fun _ => 0)))), (r_3 1, .inl (cy_2, 60, .inl ((fun _ => 0)))), (r_3 2, .inl (cy_2, 60, .inl ((fun _ => 0)))), (r_3 3, .inl (cy_2, 60, .inl ((fun _ => 0)))), (r_3 4, .inl (cy_2, 60, .inl ((fun _ => 0)))), (q_5, .inl (ka_8, 5, .inr (.inr (.inr (.inr (fun i => if i < 5 then some (r_7 i) else none)))))), (r_7 0, .inl (cy_6, 300, .inl ((fun _ => 0)))), (r_7 1, .inl (cy_6, 300, .inl ((fun _ => 0)))), (r_7 2, .inl (cy_6, 300, .inl ((fun _ => 0)))), (r_7 3, .inl (cy_6, 300, .inl ((fun _ => 0)))), (r_7 4, .inl (cy_6, 300, .inl ((fun _ => 0)))), (q_9, .inl (k_10, 9000, .inl ((fun _ => 0))))] := hD
  have hK : va_K (dC, dI) vwCl [(ka_4, (.array .int)), (ka_8, (.array .int)), (k_10, .byte)] s := hK
  refine W.widen (k := 13) (n := 10810) (by decide +kernel) (by decide +kernel) ?_
  refine va_putF (D := (dC, dI)) (ci := 0) (v := .ref q_9) (ty := .array .byte) (C := RX0) (T := TX0) (N := 10) hx hb hts hinX0 tyX0 tyX0_ok nmX0 hown hK hP hD hS 0 rfl rfl 2 (by decide) (hts (.fieldLink RX0 21 "CensusDesk$Book" "names" "[B") (List.mem_of_getElem? (i := 9) rfl)) (fun _ h9 => h9) rfl hin rfl (by decide +kernel) rfl rfl (Nat.le_of_ble_eq_true rfl) dX0_init_33 (fun H locs hP hD hS => ?_)
  have hP : va_P (dC, dI) vwCl [(h0, .inr (0, [.ref q_1, .ref q_5, .ref q_9, .null, .int 0, .int 0, .int 0, .int 0, .int 0, .int 0])), (q_1, .inl (ka_4, 5, .inr (.inr (.inr (.inr (fun i => if i < 5 then some (r_3 i) else none)))))), (r_3 0, .inl (cy_2, 60, .inl ((fun _ => 0)))), (r_3 1, .inl (cy_2, 60, .inl ((fun _ => 0)))), (r_3 2, .inl (cy_2, 60, .inl ((fun _ => 0)))), (r_3 3, .inl (cy_2, 60, .inl ((fun _ => 0)))), (r_3 4, .inl (cy_2, 60, .inl ((fun _ => 0)))), (q_5, .inl (ka_8, 5, .inr (.inr (.inr (.inr (fun i => if i < 5 then some (r_7 i) else none)))))), (r_7 0, .inl (cy_6, 300, .inl ((fun _ => 0)))), (r_7 1, .inl (cy_6, 300, .inl ((fun _ => 0)))), (r_7 2, .inl (cy_6, 300, .inl ((fun _ => 0)))), (r_7 3, .inl (cy_6, 300, .inl ((fun _ => 0)))), (r_7 4, .inl (cy_6, 300, .inl ((fun _ => 0)))), (q_9, .inl (k_10, 9000, .inl ((fun _ => 0))))] H := hP
  have hD : va_D A [(h0, .inr (0, [.ref q_1, .ref q_5, .ref q_9, .null, .int 0, .int 0, .int 0, .int 0, .int 0, .int 0])), (q_1, .inl (ka_4, 5, .inr (.inr (.inr (.inr (fun i => if i < 5 then some (r_3 i) else none)))))), (r_3 0, .inl (cy_2, 60, .inl ((fun _ => 0)))), (r_3 1, .inl (cy_2, 60, .inl ((fun _ => 0)))), (r_3 2, .inl (cy_2, 60, .inl ((fun _ => 0)))), (r_3 3, .inl (cy_2, 60, .inl ((fun _ => 0)))), (r_3 4, .inl (cy_2, 60, .inl ((fun _ => 0)))), (q_5, .inl (ka_8, 5, .inr (.inr (.inr (.inr (fun i => if i < 5 then some (r_7 i) else none)))))), (r_7 0, .inl (cy_6, 300, .inl ((fun _ => 0)))), (r_7 1, .inl (cy_6, 300, .inl ((fun _ => 0)))), (r_7 2, .inl (cy_6, 300, .inl ((fun _ => 0)))), (r_7 3, .inl (cy_6, 300, .inl ((fun _ => 0)))), (r_7 4, .inl (cy_6, 300, .inl ((fun _ => 0)))), (q_9, .inl (k_10, 9000, .inl ((fun _ => 0))))] := hD
  refine lv_aload_n hx hb dX0_init_36 rfl (lv_at hl 0 rfl) ?_
  refine lv_bipush (v := 16) hx hb dX0_init_37 (by decide) ?_
  refine va_newa (atype := .int) (a0 := (16, .inl (fun _ => 0))) (ty := .int) (N' := 16) hx hb (hts (.arrayClass .int) (List.mem_of_getElem? (i := 5) rfl)) rfl hK hP hD hS hA (fun c9 => k_cellI c9 16) (by decide +kernel) (by decide +kernel) (by decide +kernel) (by decide +kernel) (by decide +kernel) dX0_init_39 (fun q_11 k_12 H hK hP hD hS => ?_)
  have hP : va_P (dC, dI) vwCl [(h0, .inr (0, [.ref q_1, .ref q_5, .ref q_9, .null, .int 0, .int 0, .int 0, .int 0, .int 0, .int 0])), (q_1, .inl (ka_4, 5, .inr (.inr (.inr (.inr (fun i => if i < 5 then some (r_3 i) else none)))))), (r_3 0, .inl (cy_2, 60, .inl ((fun _ => 0)))), (r_3 1, .inl (cy_2, 60, .inl ((fun _ => 0)))), (r_3 2, .inl (cy_2, 60, .inl ((fun _ => 0)))), (r_3 3, .inl (cy_2, 60, .inl ((fun _ => 0)))), (r_3 4, .inl (cy_2, 60, .inl ((fun _ => 0)))), (q_5, .inl (ka_8, 5, .inr (.inr (.inr (.inr (fun i => if i < 5 then some (r_7 i) else none)))))), (r_7 0, .inl (cy_6, 300, .inl ((fun _ => 0)))), (r_7 1, .inl (cy_6, 300, .inl ((fun _ => 0)))), (r_7 2, .inl (cy_6, 300, .inl ((fun _ => 0)))), (r_7 3, .inl (cy_6, 300, .inl ((fun _ => 0)))), (r_7 4, .inl (cy_6, 300, .inl ((fun _ => 0)))), (q_9, .inl (k_10, 9000, .inl ((fun _ => 0)))), (q_11, .inl (k_12, 16, .inl ((fun _ => 0))))] H := hP
  have hD : va_D A [(h0, .inr (0, [.ref q_1, .ref q_5, .ref q_9, .null, .int 0, .int 0, .int 0, .int 0, .int 0, .int 0])), (q_1, .inl (ka_4, 5, .inr (.inr (.inr (.inr (fun i => if i < 5 then some (r_3 i) else none)))))), (r_3 0, .inl (cy_2, 60, .inl ((fun _ => 0)))), (r_3 1, .inl (cy_2, 60, .inl ((fun _ => 0)))), (r_3 2, .inl (cy_2, 60, .inl ((fun _ => 0)))), (r_3 3, .inl (cy_2, 60, .inl ((fun _ => 0)))), (r_3 4, .inl (cy_2, 60, .inl ((fun _ => 0)))), (q_5, .inl (ka_8, 5, .inr (.inr (.inr (.inr (fun i => if i < 5 then some (r_7 i) else none)))))), (r_7 0, .inl (cy_6, 300, .inl ((fun _ => 0)))), (r_7 1, .inl (cy_6, 300, .inl ((fun _ => 0)))), (r_7 2, .inl (cy_6, 300, .inl ((fun _ => 0)))), (r_7 3, .inl (cy_6, 300, .inl ((fun _ => 0)))), (r_7 4, .inl (cy_6, 300, .inl ((fun _ => 0)))), (q_9, .inl (k_10, 9000, .inl ((fun _ => 0)))), (q_11, .inl (k_12, 16, .inl ((fun _ => 0))))] := hD
  have hK : va_K (dC, dI) vwCl [(ka_4, (.array .int)), (ka_8, (.array .int)), (k_10, .byte), (k_12, .int)] s := hK
  refine W.widen (k := 14) (n := 10826) (by decide +kernel) (by decide +kernel) ?_
  have ecy_2 : cy_2 = k_12 := Option.some.inj (hcy_2.symm.trans (hK.2 3 _ rfl).2)
  rw [ecy_2] at hP hD
  have ecy_6 : cy_6 = k_12 := Option.some.inj (hcy_6.symm.trans (hK.2 3 _ rfl).2)
  rw [ecy_6] at hP hD
  have hP : va_P (dC, dI) vwCl [(h0, .inr (0, [.ref q_1, .ref q_5, .ref q_9, .null, .int 0, .int 0, .int 0, .int 0, .int 0, .int 0])), (q_1, .inl (ka_4, 5, .inr (.inr (.inr (.inr (fun i => if i < 5 then some (r_3 i) else none)))))), (r_3 0, .inl (k_12, 60, .inl ((fun _ => 0)))), (r_3 1, .inl (k_12, 60, .inl ((fun _ => 0)))), (r_3 2, .inl (k_12, 60, .inl ((fun _ => 0)))), (r_3 3, .inl (k_12, 60, .inl ((fun _ => 0)))), (r_3 4, .inl (k_12, 60, .inl ((fun _ => 0)))), (q_5, .inl (ka_8, 5, .inr (.inr (.inr (.inr (fun i => if i < 5 then some (r_7 i) else none)))))), (r_7 0, .inl (k_12, 300, .inl ((fun _ => 0)))), (r_7 1, .inl (k_12, 300, .inl ((fun _ => 0)))), (r_7 2, .inl (k_12, 300, .inl ((fun _ => 0)))), (r_7 3, .inl (k_12, 300, .inl ((fun _ => 0)))), (r_7 4, .inl (k_12, 300, .inl ((fun _ => 0)))), (q_9, .inl (k_10, 9000, .inl ((fun _ => 0)))), (q_11, .inl (k_12, 16, .inl ((fun _ => 0))))] H := hP
  have hD : va_D A [(h0, .inr (0, [.ref q_1, .ref q_5, .ref q_9, .null, .int 0, .int 0, .int 0, .int 0, .int 0, .int 0])), (q_1, .inl (ka_4, 5, .inr (.inr (.inr (.inr (fun i => if i < 5 then some (r_3 i) else none)))))), (r_3 0, .inl (k_12, 60, .inl ((fun _ => 0)))), (r_3 1, .inl (k_12, 60, .inl ((fun _ => 0)))), (r_3 2, .inl (k_12, 60, .inl ((fun _ => 0)))), (r_3 3, .inl (k_12, 60, .inl ((fun _ => 0)))), (r_3 4, .inl (k_12, 60, .inl ((fun _ => 0)))), (q_5, .inl (ka_8, 5, .inr (.inr (.inr (.inr (fun i => if i < 5 then some (r_7 i) else none)))))), (r_7 0, .inl (k_12, 300, .inl ((fun _ => 0)))), (r_7 1, .inl (k_12, 300, .inl ((fun _ => 0)))), (r_7 2, .inl (k_12, 300, .inl ((fun _ => 0)))), (r_7 3, .inl (k_12, 300, .inl ((fun _ => 0)))), (r_7 4, .inl (k_12, 300, .inl ((fun _ => 0)))), (q_9, .inl (k_10, 9000, .inl ((fun _ => 0)))), (q_11, .inl (k_12, 16, .inl ((fun _ => 0))))] := hD
  refine va_putF (D := (dC, dI)) (ci := 0) (v := .ref q_11) (ty := .array .int) (C := RX0) (T := TX0) (N := 10) hx hb hts hinX0 tyX0 tyX0_ok nmX0 hown hK hP hD hS 0 rfl rfl 3 (by decide) (hts (.fieldLink RX0 25 "CensusDesk$Book" "sought" "[I") (List.mem_of_getElem? (i := 10) rfl)) (fun _ h9 => h9) rfl hin rfl (by decide +kernel) rfl rfl (Nat.le_of_ble_eq_true rfl) dX0_init_41 (fun H locs hP hD hS => ?_)
  have hP : va_P (dC, dI) vwCl [(h0, .inr (0, [.ref q_1, .ref q_5, .ref q_9, .ref q_11, .int 0, .int 0, .int 0, .int 0, .int 0, .int 0])), (q_1, .inl (ka_4, 5, .inr (.inr (.inr (.inr (fun i => if i < 5 then some (r_3 i) else none)))))), (r_3 0, .inl (k_12, 60, .inl ((fun _ => 0)))), (r_3 1, .inl (k_12, 60, .inl ((fun _ => 0)))), (r_3 2, .inl (k_12, 60, .inl ((fun _ => 0)))), (r_3 3, .inl (k_12, 60, .inl ((fun _ => 0)))), (r_3 4, .inl (k_12, 60, .inl ((fun _ => 0)))), (q_5, .inl (ka_8, 5, .inr (.inr (.inr (.inr (fun i => if i < 5 then some (r_7 i) else none)))))), (r_7 0, .inl (k_12, 300, .inl ((fun _ => 0)))), (r_7 1, .inl (k_12, 300, .inl ((fun _ => 0)))), (r_7 2, .inl (k_12, 300, .inl ((fun _ => 0)))), (r_7 3, .inl (k_12, 300, .inl ((fun _ => 0)))), (r_7 4, .inl (k_12, 300, .inl ((fun _ => 0)))), (q_9, .inl (k_10, 9000, .inl ((fun _ => 0)))), (q_11, .inl (k_12, 16, .inl ((fun _ => 0))))] H := hP
  have hD : va_D A [(h0, .inr (0, [.ref q_1, .ref q_5, .ref q_9, .ref q_11, .int 0, .int 0, .int 0, .int 0, .int 0, .int 0])), (q_1, .inl (ka_4, 5, .inr (.inr (.inr (.inr (fun i => if i < 5 then some (r_3 i) else none)))))), (r_3 0, .inl (k_12, 60, .inl ((fun _ => 0)))), (r_3 1, .inl (k_12, 60, .inl ((fun _ => 0)))), (r_3 2, .inl (k_12, 60, .inl ((fun _ => 0)))), (r_3 3, .inl (k_12, 60, .inl ((fun _ => 0)))), (r_3 4, .inl (k_12, 60, .inl ((fun _ => 0)))), (q_5, .inl (ka_8, 5, .inr (.inr (.inr (.inr (fun i => if i < 5 then some (r_7 i) else none)))))), (r_7 0, .inl (k_12, 300, .inl ((fun _ => 0)))), (r_7 1, .inl (k_12, 300, .inl ((fun _ => 0)))), (r_7 2, .inl (k_12, 300, .inl ((fun _ => 0)))), (r_7 3, .inl (k_12, 300, .inl ((fun _ => 0)))), (r_7 4, .inl (k_12, 300, .inl ((fun _ => 0)))), (q_9, .inl (k_10, 9000, .inl ((fun _ => 0)))), (q_11, .inl (k_12, 16, .inl ((fun _ => 0))))] := hD
  have hP9 := hP.sub (ws' := [(h0, .inr (0, [.ref q_1, .ref q_5, .ref q_9, .ref q_11, .int 0, .int 0, .int 0, .int 0, .int 0, .int 0])), (q_1, .inl (ka_4, 5, .inr (.inr (.inr (.inr (fun i => if i < 5 then some (r_3 i) else none)))))), (r_3 0, .inl (k_12, 60, .inl ((fun _ => 0)))), (r_3 1, .inl (k_12, 60, .inl ((fun _ => 0)))), (r_3 2, .inl (k_12, 60, .inl ((fun _ => 0)))), (r_3 3, .inl (k_12, 60, .inl ((fun _ => 0)))), (r_3 4, .inl (k_12, 60, .inl ((fun _ => 0)))), (q_5, .inl (ka_8, 5, .inr (.inr (.inr (.inr (fun i => if i < 5 then some (r_7 i) else none)))))), (r_7 0, .inl (k_12, 300, .inl ((fun _ => 0)))), (r_7 1, .inl (k_12, 300, .inl ((fun _ => 0)))), (r_7 2, .inl (k_12, 300, .inl ((fun _ => 0)))), (r_7 3, .inl (k_12, 300, .inl ((fun _ => 0)))), (r_7 4, .inl (k_12, 300, .inl ((fun _ => 0)))), (q_9, .inl (k_10, 9000, .inl ((fun _ => 0)))), (q_11, .inl (k_12, 16, .inl ((fun _ => 0))))]) [0, 1, 2, 3, 4, 5, 6, 7, 8, 9, 10, 11, 12, 13, 14] rfl
  have hD9 := hD.sub (ws' := [(h0, .inr (0, [.ref q_1, .ref q_5, .ref q_9, .ref q_11, .int 0, .int 0, .int 0, .int 0, .int 0, .int 0])), (q_1, .inl (ka_4, 5, .inr (.inr (.inr (.inr (fun i => if i < 5 then some (r_3 i) else none)))))), (r_3 0, .inl (k_12, 60, .inl ((fun _ => 0)))), (r_3 1, .inl (k_12, 60, .inl ((fun _ => 0)))), (r_3 2, .inl (k_12, 60, .inl ((fun _ => 0)))), (r_3 3, .inl (k_12, 60, .inl ((fun _ => 0)))), (r_3 4, .inl (k_12, 60, .inl ((fun _ => 0)))), (q_5, .inl (ka_8, 5, .inr (.inr (.inr (.inr (fun i => if i < 5 then some (r_7 i) else none)))))), (r_7 0, .inl (k_12, 300, .inl ((fun _ => 0)))), (r_7 1, .inl (k_12, 300, .inl ((fun _ => 0)))), (r_7 2, .inl (k_12, 300, .inl ((fun _ => 0)))), (r_7 3, .inl (k_12, 300, .inl ((fun _ => 0)))), (r_7 4, .inl (k_12, 300, .inl ((fun _ => 0)))), (q_9, .inl (k_10, 9000, .inl ((fun _ => 0)))), (q_11, .inl (k_12, 16, .inl ((fun _ => 0))))]) [0, 1, 2, 3, 4, 5, 6, 7, 8, 9, 10, 11, 12, 13, 14] (by decide) rfl
  have hK9 := hK.sub (tys' := [(ka_4, (.array .int)), (k_12, .int), (k_12, .int), (k_12, .int), (k_12, .int), (k_12, .int), (ka_8, (.array .int)), (k_12, .int), (k_12, .int), (k_12, .int), (k_12, .int), (k_12, .int), (k_10, .byte), (k_12, .int)]) [0, 3, 3, 3, 3, 3, 1, 3, 3, 3, 3, 3, 2, 3] rfl
  exact W.vret hx hb hr (fun t ht hW => ⟨⟨(), rfl, trivial, q_1, ka_4, r_3, q_5, ka_8, r_7, q_9, k_10, q_11, k_12, ⟨by rw [ht]; exact hP9, va_K.moved hW.alike hK9, hD9⟩⟩, hS.F ht⟩) hS.2.2 dX0_init_44
