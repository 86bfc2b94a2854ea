/-! pure rows -/
theorem k_cellB (c : ClassId) (N : Nat) : vp_cell c (N, .inl (fun _ => 0)) = arrV c N (fun _ => defaultValue .byte) := rfl
theorem k_cellI (c : ClassId) (N : Nat) : vp_cell c (N, .inl (fun _ => 0)) = arrV c N (fun _ => defaultValue .int) := rfl
theorem k_inner (c : ClassId) (N : Nat) : Jvm.Free.Multi.innerC c N (defaultValue .int) = vp_cell c (N, .inl (fun _ => 0)) := arrV_new c N _
theorem k_vin {x M : Int32} {n : Nat} (h0 : ¬ x < 1) (h1 : x ≤ M) (hM : M.toInt < n) : vp_in x n := by
  rw [vp_in_iff]
  have a : ¬ x.toInt < (1 : Int32).toInt := fun h => h0 (Int32.lt_iff_toInt_lt.mpr h)
  have b := Int32.le_iff_toInt_le.mp h1
  have e : (1 : Int32).toInt = 1 := by decide
  rw [e] at a
  omega
theorem k_cl {x M : Int32} {n : Nat} (h0 : ¬ x < 1) (h1 : x ≤ M) (hM : M.toInt < n) : 1 ≤ x.toNatClampNeg ∧ x.toNatClampNeg < n := by
  have a : ¬ x.toInt < (1 : Int32).toInt := fun h => h0 (Int32.lt_iff_toInt_lt.mpr h)
  have b := Int32.le_iff_toInt_le.mp h1
  have e : (1 : Int32).toInt = 1 := by decide
  rw [e] at a
  have c : x.toNatClampNeg = x.toInt.toNat := rfl
  rw [c]
  omega
theorem k_m1 {x : Int32} (h : x < -1) : x < 0 := by
  have a := Int32.lt_iff_toInt_lt.mp h
  have e : (-1 : Int32).toInt = -1 := by decide
  have e0 : (0 : Int32).toInt = 0 := by decide
  rw [e] at a
  exact Int32.lt_iff_toInt_lt.mpr (by rw [e0]; omega)
theorem k_nlt {x : Int32} (h : ¬ x < 0) : 0 ≤ x := Int32.not_lt.mp h
def gofL : List Int32 := [0, 24, 22, 22, 23, 23, 25, 25, 25, 26, 26, 26, 26, 26, 27, 27, 27, 27, 27, 28, 28, 28, 25, 25, 29, 29, 29, 29, 29, 0]
def gof (j : Nat) : Int32 := gofL.getD j 0
/-- the static row of groups, as the Statement gives it -/
def kSt (g : Nat) (A : Nat → Prop) (U : State) : Prop := va_Z RX5 "GROUP_OF" "[I" (.ref g) A U U.heap ∧ va_T .int g 30 (fun j => .int (gof j)) A U U.heap
theorem kSt.moved {g : Nat} {A : Nat → Prop} {u U : State} (hvm : u.vm.Alike U.vm) (hh : U.heap = u.heap) (h : kSt g A u) : kSt g A U := by
  unfold kSt
  rw [hh]
  exact ⟨va_Z.moved hvm h.1, va_T.moved hvm h.2⟩
theorem kPreVT {dC : Nat → ClassId} {dI : Nat → Nat → Nat} {tys : List (ClassId × FieldType)} {ws : va_W} {s : State} {H : Heap} {A : Nat → Prop} {C : String} {b : Addr} {As : List Value} {g : Nat} (hP : va_P (dC, dI) vwCl ws H) (hK : va_K (dC, dI) vwCl tys s) (hD : va_D A ws) (hN : Nst s) (hr : ∃ cellB : Cell, H[b]? = some cellB ∧ cellB.vm.isStatics = false ∧ s.vm.findClass C = some cellB.cls)
    (hZ : va_Z RX5 "GROUP_OF" "[I" (.ref g) (va_A ws H.size) s H) (hT : va_T .int g 30 (fun j => .int (gof j)) (va_A ws H.size) s H) : PreV s H C b (va_Pc (.ref b :: As) (fun U => kPre dC dI tys ws H.size U ∧ kSt g (va_A ws H.size) U)) As := by
  refine ⟨fun a U g' mk q => ?_, hr, fun U hU hW => ⟨rfl, kPre_in hP hK hD hN U hU hW, ?_⟩⟩
  · obtain ⟨q0, q1, q2⟩ := q
    exact ⟨q0, (kPre_blind (av := .ref b :: As) a U g' mk ⟨q0, q1⟩).2, q2.moved (Vm.Alike.refl U.vm) rfl⟩
  · unfold kSt
    rw [hU]
    exact ⟨va_Z.moved hW.alike hZ, va_T.moved hW.alike hT⟩
def fRoom (x : Int32) : Int32 := if 4000 < x then 0 else 1
def fEnd (n : Int32) : Int32 := if n < 0 then -1 else if n ≤ 0 then n else -1
def fRule (k w a : Int32) : Int32 := if k < 1 then -3 else if k ≤ 29 then (if w < -1 then -3 else if w ≤ 4 then (if a < -1 then -3 else if a ≤ 999999 then -1 else -3) else -3) else -3
def fMany (k : Int32) : Int32 := if k < 1 then -1 else if k ≤ 29 then 0 else -1
set_option maxHeartbeats 1000000 in
set_option maxRecDepth 100000 in
/-- Tape(): an empty tape -/
theorem c_X7_init (l : Launch) (dC : Nat → ClassId) (dI : Nat → Nat → Nat) (h0 : Nat) (sz : Nat)  : Met l yX7_init wsX7_init ({ frames := 1, cells := 1, slots := 4000, locals := 24 }) (va_Pc [.ref h0] (kPre dC dI [] [(h0, .inr (7, [.null, .int 0]))] sz)) (va_Qv (fun (_ : Unit) => True) (fun (_ : Unit) (t : State) => ∃ (qb : Nat) (cB : ClassId), kB dC dI (va_A [(h0, .inr (7, [.null, .int 0]))] sz) [(cB, .byte)] [(h0, .inr (7, [.ref qb, .int 0])), (qb, .inl (cB, 4000, .inl ((fun _ => 0))))] t) (va_A [(h0, .inr (7, [.null, .int 0]))] sz)) 1 4000 (va_A [(h0, .inr (7, [.null, .int 0]))] sz) := by
  refine Met.ofW (cc := cX7_init) (maxL := 1) (ret := none) (by decide) rfl ?_
  intro p e s m args below meth c s₁ B hml hv
  obtain ⟨rfl, hsz, hP, hK, hD0, hN⟩ := hv
  have hx := B.exec
  have hb := B.bytes
  have hr := B.returns
  have hts := atoms_spec (ws := wsX7_init) B.pre
  have hown : s.vm.findClass RX7 = some m.cls := findClass_of_methodNamed B.named
  have hlocks := B.notSynchronized
  have hin : meth.name = "<init>" := (name_of_methodNamed B.named B.method).1
  have hAO := hN.2.2
  subst hsz
  have hD := hD0.self (sz := s.heap.size)
  generalize hAe : va_A [(h0, .inr (7, [.null, .int 0]))] s.heap.size = A at hD ⊢
  have hA : ∀ q : Nat, s.heap.size ≤ q → A q := fun q h => by rw [← hAe]; exact Or.inr h
  have hS : va_S A s.heap s.heap [] := va_S.rf
  have hP : va_P (dC, dI) vwCl [(h0, .inr (7, [.null, .int 0]))] s.heap := hP
  have hinX7 : ∀ w ∈ wsX70, w ∈ wsX7_init := fun _ h => List.mem_cons_of_mem _ (List.mem_append_right _ h)
  have hl := lv_entry ([.ref h0]) (n := 1) (Nat.le_of_ble_eq_true rfl)
  rw [lg_entry_eq]
  generalize (lg_sl ([.ref h0]) ++ List.replicate (1 - (lg_sl ([.ref h0])).length) Slot.unset).toArray = ls at hl ⊢
  have hl : lv_has ls 1 [(0, .ref h0)] := hl
  refine lv_aload_n hx hb dX7_init_0 rfl (lv_at hl 0 rfl) ?_
  refine W.objInit hx hb hown (hts (.methodLink RX7 3 objectInit) (List.mem_of_getElem? (i := 1) rfl)) (hts (.instanceMethod objectInit) (List.mem_of_getElem? (i := 2) rfl)) (hts (.code objectInit ⟨#[0xb1]⟩ 1 none) (List.mem_of_getElem? (i := 3) rfl)) rfl (by rw [hml]; exact hl.1) rfl dX7_init_1 (Nat.le_of_ble_eq_true rfl) (Nat.le_of_ble_eq_true rfl) ?_
  refine W.eq (g2 := F0 m 4 ls []) rfl ?_
  refine lv_aload_n hx hb dX7_init_4 rfl (lv_at hl 0 rfl) ?_
  refine lv_sipush (v := 4000) hx hb dX7_init_5 (by decide) ?_
  refine va_newa (atype := .byte) (a0 := (4000, .inl (fun _ => 0))) (ty := .byte) (N' := 4000) hx hb (hts (.arrayClass .byte) (List.mem_of_getElem? (i := 4) rfl)) rfl hK hP hD hS hA (fun c9 => k_cellB c9 4000) (by decide +kernel) (by decide +kernel) (by decide +kernel) (by decide +kernel) (by decide +kernel) dX7_init_8 (fun q_1 k_2 H hK hP hD hS => ?_)
  have hP : va_P (dC, dI) vwCl [(h0, .inr (7, [.null, .int 0])), (q_1, .inl (k_2, 4000, .inl ((fun _ => 0))))] H := hP
  have hD : va_D A [(h0, .inr (7, [.null, .int 0])), (q_1, .inl (k_2, 4000, .inl ((fun _ => 0))))] := hD
  have hK : va_K (dC, dI) vwCl [(k_2, .byte)] s := hK
  refine W.widen (k := 1) (n := 4000) (by decide +kernel) (by decide +kernel) ?_
  refine va_putF (D := (dC, dI)) (ci := 7) (v := .ref q_1) (ty := .array .byte) (C := RX7) (T := TX7) (N := 2) hx hb hts hinX7 tyX7 tyX7_ok nmX7 hown hK hP hD hS 0 rfl rfl 0 (by decide) (hts (.fieldLink RX7 11 "CensusDesk$Tape" "bytes" "[B") (List.mem_of_getElem? (i := 5) rfl)) (fun _ h9 => h9) rfl hin rfl (by decide +kernel) rfl rfl (Nat.le_of_ble_eq_true rfl) dX7_init_10 (fun H locs hP hD hS => ?_)
  have hP : va_P (dC, dI) vwCl [(h0, .inr (7, [.ref q_1, .int 0])), (q_1, .inl (k_2, 4000, .inl ((fun _ => 0))))] H := hP
  have hD : va_D A [(h0, .inr (7, [.ref q_1, .int 0])), (q_1, .inl (k_2, 4000, .inl ((fun _ => 0))))] := hD
  have hP9 := hP.sub (ws' := [(h0, .inr (7, [.ref q_1, .int 0])), (q_1, .inl (k_2, 4000, .inl ((fun _ => 0))))]) [0, 1] rfl
  have hD9 := hD.sub (ws' := [(h0, .inr (7, [.ref q_1, .int 0])), (q_1, .inl (k_2, 4000, .inl ((fun _ => 0))))]) [0, 1] (by decide) rfl
  have hK9 := hK.sub (tys' := [(k_2, .byte)]) [0] rfl
  exact W.vret hx hb hr (fun t ht hW => ⟨⟨(), rfl, trivial, q_1, k_2, ⟨by rw [ht]; exact hP9, va_K.moved hW.alike hK9, hD9⟩⟩, hS.F ht⟩) hS.2.2 dX7_init_13
