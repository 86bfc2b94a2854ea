theorem nsF_in : ∀ w ∈ nsF.map (fun q => Cond.fieldLinkNest q.1 q.2.1 q.2.2.1 q.2.2.2.1 q.2.2.2.2 "CensusDesk"), w ∈ lw_tbl := k_places [79, 80, 81, 118, 142, 144, 146, 148, 150, 152, 189, 192, 194, 196, 221, 236, 238, 240, 243, 246, 248, 250, 252, 253, 255, 256, 258, 259, 297, 299, 301, 303, 305] (by decide +kernel)
theorem nsM_in : ∀ w ∈ nsM.map (fun q => Cond.methodLinkNest q.1 q.2.1 q.2.2 "CensusDesk"), w ∈ lw_tbl := k_places [73, 107, 132, 182, 214, 231] (by decide +kernel)
theorem ao_in : Cond.arrayOver (.array .int) ∈ lw_tbl := List.mem_of_getElem? (i := 112) (by decide +kernel)
set_option maxRecDepth 20000 in
theorem k_stat1 {s : State} {b : Nat} (hts : ∀ w ∈ lw_tbl, w.before #[Value.ref b] s = true) (hgv : (Jvm.Cond.and given_1 narrow_1).before #[Value.ref b] s = true) : ∃ g : Nat, va_Z RX5 "GROUP_OF" "[I" (.ref g) (fun q : Nat => s.heap.size ≤ q) s s.heap ∧ va_T .int g 30 (fun j => .int (gof j)) (fun q : Nat => s.heap.size ≤ q) s s.heap := by
  have hs := flat_of_before _ hgv
  have hAA : ∀ a : Nat, a < s.heap.size → ¬ (fun q : Nat => s.heap.size ≤ q) a := fun a h => Nat.not_le.mpr h
  have hlen : (Term.length (.static "CensusDesk$Rules" "GROUP_OF" "[I")).eval #[Value.ref b] s none [] s = some (.int (Int32.ofNat 30)) := va_eqt (hs (.eq (.length (.static "CensusDesk$Rules" "GROUP_OF" "[I")) (.int 30)) (by decide +kernel))
  have hel : ∀ j : Nat, j < 30 → (Term.elem (.static "CensusDesk$Rules" "GROUP_OF" "[I") (.int (Int32.ofNat j))).eval #[Value.ref b] s none [] s = some (.int (gof j))
    | 0, _ => va_eqt (hs (.eq (.elem (.static "CensusDesk$Rules" "GROUP_OF" "[I") (.int 0)) (.int 0)) (by decide +kernel))
    | 1, _ => va_eqt (hs (.eq (.elem (.static "CensusDesk$Rules" "GROUP_OF" "[I") (.int 1)) (.int 24)) (by decide +kernel))
    | 2, _ => va_eqt (hs (.eq (.elem (.static "CensusDesk$Rules" "GROUP_OF" "[I") (.int 2)) (.int 22)) (by decide +kernel))
    | 3, _ => va_eqt (hs (.eq (.elem (.static "CensusDesk$Rules" "GROUP_OF" "[I") (.int 3)) (.int 22)) (by decide +kernel))
    | 4, _ => va_eqt (hs (.eq (.elem (.static "CensusDesk$Rules" "GROUP_OF" "[I") (.int 4)) (.int 23)) (by decide +kernel))
    | 5, _ => va_eqt (hs (.eq (.elem (.static "CensusDesk$Rules" "GROUP_OF" "[I") (.int 5)) (.int 23)) (by decide +kernel))
    | 6, _ => va_eqt (hs (.eq (.elem (.static "CensusDesk$Rules" "GROUP_OF" "[I") (.int 6)) (.int 25)) (by decide +kernel))
    | 7, _ => va_eqt (hs (.eq (.elem (.static "CensusDesk$Rules" "GROUP_OF" "[I") (.int 7)) (.int 25)) (by decide +kernel))
    | 8, _ => va_eqt (hs (.eq (.elem (.static "CensusDesk$Rules" "GROUP_OF" "[I") (.int 8)) (.int 25)) (by decide +kernel))
    | 9, _ => va_eqt (hs (.eq (.elem (.static "CensusDesk$Rules" "GROUP_OF" "[I") (.int 9)) (.int 26)) (by decide +kernel))
    | 10, _ => va_eqt (hs (.eq (.elem (.static "CensusDesk$Rules" "GROUP_OF" "[I") (.int 10)) (.int 26)) (by decide +kernel))
    | 11, _ => va_eqt (hs (.eq (.elem (.static "CensusDesk$Rules" "GROUP_OF" "[I") (.int 11)) (.int 26)) (by decide +kernel))
    | 12, _ => va_eqt (hs (.eq (.elem (.static "CensusDesk$Rules" "GROUP_OF" "[I") (.int 12)) (.int 26)) (by decide +kernel))
    | 13, _ => va_eqt (hs (.eq (.elem (.static "CensusDesk$Rules" "GROUP_OF" "[I") (.int 13)) (.int 26)) (by decide +kernel))
    | 14, _ => va_eqt (hs (.eq (.elem (.static "CensusDesk$Rules" "GROUP_OF" "[I") (.int 14)) (.int 27)) (by decide +kernel))
    | 15, _ => va_eqt (hs (.eq (.elem (.static "CensusDesk$Rules" "GROUP_OF" "[I") (.int 15)) (.int 27)) (by decide +kernel))
    | 16, _ => va_eqt (hs (.eq (.elem (.static "CensusDesk$Rules" "GROUP_OF" "[I") (.int 16)) (.int 27)) (by decide +kernel))
    | 17, _ => va_eqt (hs (.eq (.elem (.static "CensusDesk$Rules" "GROUP_OF" "[I") (.int 17)) (.int 27)) (by decide +kernel))
    | 18, _ => va_eqt (hs (.eq (.elem (.static "CensusDesk$Rules" "GROUP_OF" "[I") (.int 18)) (.int 27)) (by decide +kernel))
    | 19, _ => va_eqt (hs (.eq (.elem (.static "CensusDesk$Rules" "GROUP_OF" "[I") (.int 19)) (.int 28)) (by decide +kernel))
    | 20, _ => va_eqt (hs (.eq (.elem (.static "CensusDesk$Rules" "GROUP_OF" "[I") (.int 20)) (.int 28)) (by decide +kernel))
    | 21, _ => va_eqt (hs (.eq (.elem (.static "CensusDesk$Rules" "GROUP_OF" "[I") (.int 21)) (.int 28)) (by decide +kernel))
    | 22, _ => va_eqt (hs (.eq (.elem (.static "CensusDesk$Rules" "GROUP_OF" "[I") (.int 22)) (.int 25)) (by decide +kernel))
    | 23, _ => va_eqt (hs (.eq (.elem (.static "CensusDesk$Rules" "GROUP_OF" "[I") (.int 23)) (.int 25)) (by decide +kernel))
    | 24, _ => va_eqt (hs (.eq (.elem (.static "CensusDesk$Rules" "GROUP_OF" "[I") (.int 24)) (.int 29)) (by decide +kernel))
    | 25, _ => va_eqt (hs (.eq (.elem (.static "CensusDesk$Rules" "GROUP_OF" "[I") (.int 25)) (.int 29)) (by decide +kernel))
    | 26, _ => va_eqt (hs (.eq (.elem (.static "CensusDesk$Rules" "GROUP_OF" "[I") (.int 26)) (.int 29)) (by decide +kernel))
    | 27, _ => va_eqt (hs (.eq (.elem (.static "CensusDesk$Rules" "GROUP_OF" "[I") (.int 27)) (.int 29)) (by decide +kernel))
    | 28, _ => va_eqt (hs (.eq (.elem (.static "CensusDesk$Rules" "GROUP_OF" "[I") (.int 28)) (.int 29)) (by decide +kernel))
    | 29, _ => va_eqt (hs (.eq (.elem (.static "CensusDesk$Rules" "GROUP_OF" "[I") (.int 29)) (.int 0)) (by decide +kernel))
    | (j + 30), h => absurd h (by omega)
  obtain ⟨g, hg, hT⟩ := va_Tof (A := fun q : Nat => s.heap.size ≤ q) (by decide) (hs (.arrayOf (.static "CensusDesk$Rules" "GROUP_OF" "[I") .int) (by decide +kernel)) hlen hel hAA
  exact ⟨g, va_Zof (hts (.laysStatic RX5 "GROUP_OF" "[I") (List.mem_of_getElem? (i := 462) (by decide +kernel))) (hts (.initialized RX5) (List.mem_of_getElem? (i := 54) (by decide +kernel))) hg hAA, hT⟩
set_option maxRecDepth 20000 in
theorem k_stat2 {s : State} {b : Nat} (hts : ∀ w ∈ lw_tbl, w.before #[Value.ref b] s = true) (hgv : (Jvm.Cond.and given_1 narrow_1).before #[Value.ref b] s = true) : ∃ g : Nat, va_Z RX1 "LAYER_OF" "[I" (.ref g) (fun q : Nat => s.heap.size ≤ q) s s.heap ∧ va_T .int g 22 (fun j => .int (lay j)) (fun q : Nat => s.heap.size ≤ q) s s.heap := by
  have hs := flat_of_before _ hgv
  have hAA : ∀ a : Nat, a < s.heap.size → ¬ (fun q : Nat => s.heap.size ≤ q) a := fun a h => Nat.not_le.mpr h
  have hlen : (Term.length (.static "CensusDesk$Failures" "LAYER_OF" "[I")).eval #[Value.ref b] s none [] s = some (.int (Int32.ofNat 22)) := va_eqt (hs (.eq (.length (.static "CensusDesk$Failures" "LAYER_OF" "[I")) (.int 22)) (by decide +kernel))
  have hel : ∀ j : Nat, j < 22 → (Term.elem (.static "CensusDesk$Failures" "LAYER_OF" "[I") (.int (Int32.ofNat j))).eval #[Value.ref b] s none [] s = some (.int (lay j))
    | 0, _ => va_eqt (hs (.eq (.elem (.static "CensusDesk$Failures" "LAYER_OF" "[I") (.int 0)) (.int 0)) (by decide +kernel))
    | 1, _ => va_eqt (hs (.eq (.elem (.static "CensusDesk$Failures" "LAYER_OF" "[I") (.int 1)) (.int 0)) (by decide +kernel))
    | 2, _ => va_eqt (hs (.eq (.elem (.static "CensusDesk$Failures" "LAYER_OF" "[I") (.int 2)) (.int 1)) (by decide +kernel))
    | 3, _ => va_eqt (hs (.eq (.elem (.static "CensusDesk$Failures" "LAYER_OF" "[I") (.int 3)) (.int 1)) (by decide +kernel))
    | 4, _ => va_eqt (hs (.eq (.elem (.static "CensusDesk$Failures" "LAYER_OF" "[I") (.int 4)) (.int 1)) (by decide +kernel))
    | 5, _ => va_eqt (hs (.eq (.elem (.static "CensusDesk$Failures" "LAYER_OF" "[I") (.int 5)) (.int 1)) (by decide +kernel))
    | 6, _ => va_eqt (hs (.eq (.elem (.static "CensusDesk$Failures" "LAYER_OF" "[I") (.int 6)) (.int 1)) (by decide +kernel))
    | 7, _ => va_eqt (hs (.eq (.elem (.static "CensusDesk$Failures" "LAYER_OF" "[I") (.int 7)) (.int 1)) (by decide +kernel))
    | 8, _ => va_eqt (hs (.eq (.elem (.static "CensusDesk$Failures" "LAYER_OF" "[I") (.int 8)) (.int 1)) (by decide +kernel))
    | 9, _ => va_eqt (hs (.eq (.elem (.static "CensusDesk$Failures" "LAYER_OF" "[I") (.int 9)) (.int 2)) (by decide +kernel))
    | 10, _ => va_eqt (hs (.eq (.elem (.static "CensusDesk$Failures" "LAYER_OF" "[I") (.int 10)) (.int 2)) (by decide +kernel))
    | 11, _ => va_eqt (hs (.eq (.elem (.static "CensusDesk$Failures" "LAYER_OF" "[I") (.int 11)) (.int 2)) (by decide +kernel))
    | 12, _ => va_eqt (hs (.eq (.elem (.static "CensusDesk$Failures" "LAYER_OF" "[I") (.int 12)) (.int 2)) (by decide +kernel))
    | 13, _ => va_eqt (hs (.eq (.elem (.static "CensusDesk$Failures" "LAYER_OF" "[I") (.int 13)) (.int 2)) (by decide +kernel))
    | 14, _ => va_eqt (hs (.eq (.elem (.static "CensusDesk$Failures" "LAYER_OF" "[I") (.int 14)) (.int 3)) (by decide +kernel))
    | 15, _ => va_eqt (hs (.eq (.elem (.static "CensusDesk$Failures" "LAYER_OF" "[I") (.int 15)) (.int 3)) (by decide +kernel))
    | 16, _ => va_eqt (hs (.eq (.elem (.static "CensusDesk$Failures" "LAYER_OF" "[I") (.int 16)) (.int 3)) (by decide +kernel))
    | 17, _ => va_eqt (hs (.eq (.elem (.static "CensusDesk$Failures" "LAYER_OF" "[I") (.int 17)) (.int 3)) (by decide +kernel))
    | 18, _ => va_eqt (hs (.eq (.elem (.static "CensusDesk$Failures" "LAYER_OF" "[I") (.int 18)) (.int 3)) (by decide +kernel))
    | 19, _ => va_eqt (hs (.eq (.elem (.static "CensusDesk$Failures" "LAYER_OF" "[I") (.int 19)) (.int 4)) (by decide +kernel))
    | 20, _ => va_eqt (hs (.eq (.elem (.static "CensusDesk$Failures" "LAYER_OF" "[I") (.int 20)) (.int 4)) (by decide +kernel))
    | 21, _ => va_eqt (hs (.eq (.elem (.static "CensusDesk$Failures" "LAYER_OF" "[I") (.int 21)) (.int 4)) (by decide +kernel))
    | (j + 22), h => absurd h (by omega)
  obtain ⟨g, hg, hT⟩ := va_Tof (A := fun q : Nat => s.heap.size ≤ q) (by decide) (hs (.arrayOf (.static "CensusDesk$Failures" "LAYER_OF" "[I") .int) (by decide +kernel)) hlen hel hAA
  exact ⟨g, va_Zof (hts (.laysStatic RX1 "LAYER_OF" "[I") (List.mem_of_getElem? (i := 476) (by decide +kernel))) (hts (.initialized RX1) (List.mem_of_getElem? (i := 56) (by decide +kernel))) hg hAA, hT⟩
def aL (L : List Nat) : Nat → Nat := fun k => L.getD k 0
theorem cInj_of {A : Nat → Prop} {a : Nat → Nat} {κ : Nat → ClassId} {u : S4} (h : va_D A (cw a κ u)) : cInj a := by
  intro i j hi hj e
  have hx := List.getElem?_eq_getElem (l := cw a κ u) (i := i) hi
  have hy := List.getElem?_eq_getElem (l := cw a κ u) (i := j) hj
  exact h.1 i j _ _ hx hy (by rw [(cw_at hx).2, (cw_at hy).2]; exact e)
theorem mInj_of {A : Nat → Prop} {a : Nat → Nat} {κ : Nat → ClassId} {u : S4} (h : va_D A (mw a κ u)) : mInj a := by
  intro i j hi hj e
  have hx := List.getElem?_eq_getElem (l := mw a κ u) (i := i) hi
  have hy := List.getElem?_eq_getElem (l := mw a κ u) (i := j) hj
  exact h.1 i j _ _ hx hy (by rw [(mw_at hx).2, (mw_at hy).2]; exact e)
theorem cA_of {A : Nat → Prop} {a : Nat → Nat} {κ : Nat → ClassId} {u : S4} (h : va_D A (cw a κ u)) : ∀ q, cA a q → A q := by
  rintro q ⟨k, hk, rfl⟩
  have hx := List.getElem?_eq_getElem (l := cw a κ u) (i := k) hk
  have := h.2 k _ hx
  rw [(cw_at hx).2] at this
  exact this
theorem mA_of {A : Nat → Prop} {a : Nat → Nat} {κ : Nat → ClassId} {u : S4} (h : va_D A (mw a κ u)) : ∀ q, mA a q → A q := by
  rintro q ⟨k, hk, rfl⟩
  have hx := List.getElem?_eq_getElem (l := mw a κ u) (i := k) hk
  have := h.2 k _ hx
  rw [(mw_at hx).2] at this
  exact this
theorem dis_of {A : Nat → Prop} {a b : Nat → Nat} {κ μ : Nat → ClassId} {u w : S4} (h : va_D A (cw a κ u ++ mw b μ w)) : ∀ q, cA a q → ¬ mA b q := by
  rintro q ⟨i, hi, rfl⟩ ⟨j, hj, e⟩
  have hx := List.getElem?_eq_getElem (l := cw a κ u) (i := i) hi
  have hy := List.getElem?_eq_getElem (l := mw b μ w) (i := j) hj
  have li : i < (cw a κ u).length := hi
  have e1 : (cw a κ u ++ mw b μ w)[i]? = some _ := (List.getElem?_append_left li).trans hx
  have e2 : (cw a κ u ++ mw b μ w)[(cw a κ u).length + j]? = some ((mw b μ w)[j]'hj) := by
    rw [List.getElem?_append_right (Nat.le_add_right _ _), Nat.add_sub_cancel_left]
    exact hy
  have := h.1 i ((cw a κ u).length + j) _ _ e1 e2 (by rw [(cw_at hx).2, (mw_at hy).2]; exact e)
  omega
/-! THE CLAIM OUT OF ONE WALK OF THE LAW'S BODY. Your part is whole_start (and what it stands on); all else here is the same for every law, but numbers. -/
def R_law : String := "CensusDeskLaw"
def lw_P (b : Addr) (xs : List Int32) (args : Array Value) (s : State) : Prop := args = #[.ref b] ∧ s.IntsAt b xs ∧ xs.length ≤ 3072 ∧ (Jvm.Cond.and given_1 narrow_1).before args s = true
def lw_Q (_ : Array Value) (s : State) (o : Outcome) (t : State) : Prop := o = .returned (some (.int 1)) ∧ Framed s o t [] 600000 7302249
def lw_Z (below : List Frame) (a : Array Value) (s : State) : State → Prop := fun t => ∃ o, t.status = .running ∧ Ended t below o ∧ lw_Q a s o t
/-- the law's own end, with 1 on the stack, nothing written that was there before, its room as the claim has it -/
theorem lw_ret {p : Program} {l : Launch} {e : Env} {s : State} {m : MethodId} {below : List Frame} {meth : Method} {c : Code} {b : Nat} (hx : p.tables.exec = Jvm.exec) (hb : c.code = code) (hr : meth.sig.returnType = ret) (hlocks : meth.locks = false) {pc : Nat} {H : Heap} {ls : Array Slot} (hdg : decode code pc = .ok (.ireturn, 1)) : W p l e room_1 s m #[Value.ref b] below meth c H [] 600000 7302249 (lw_Z below #[Value.ref b] s) (F0 m pc ls [.int 1]) := by
  intro T hT X
  obtain ⟨fs, hret, hrun, hended, hW, hframe⟩ := X.leave (v := some (.int 1)) (hlocks := hlocks) (fun h => by rw [hr] at h; cases h)
  have hmeth' : T.vm.method? m = some meth := X.method'
  refine ⟨T.setFrames fs, ?_, .returned (some (.int 1)), hrun, hended, rfl, ⟨_, rfl⟩, hW, hframe⟩
  jvm_step X.here [X.here.top, hx, hb, hdg, hmeth', hr, ret, narrow_b1]
  (try refine ⟨rfl, ?_⟩); (try refine ⟨rfl, ?_⟩)
  first | (intro acts; rw [hret _ acts rfl rfl rfl]) | rw [hret _ _ rfl rfl rfl]
  exact Steps.refl _
/-- what holds at the law's entry: the machine, the code, the tables' words (any of lw_tbl by 'hts w (by decide +kernel)'), the script of L ints xs at the cell b, what the Statement gives of the start (any of its parts by flat_of_before) -/
def lw_At (p : Program) (s : State) (m : MethodId) (meth : Method) (c : Code) (b L : Nat) (xs : Nat → Int32) : Prop :=
  p.tables.exec = Jvm.exec ∧ c.code = code ∧ meth.sig.returnType = ret ∧ c.maxLocals = 4 ∧ s.vm.findClass R_law = some m.cls ∧ (∀ w ∈ lw_tbl, w.before #[Value.ref b] s = true) ∧ va_X b L xs s s.heap ∧ b < s.heap.size ∧ meth.locks = false ∧ (Jvm.Cond.and given_1 narrow_1).before #[Value.ref b] s = true
set_option maxHeartbeats 8000000 in
set_option maxRecDepth 100000 in
theorem law_loop {p : Program} {e : Env} {s : State} {m : MethodId} {below : List Frame} {meth : Method} {c : Code} (l : Launch) {bs L : Nat} {xs : Nat → Int32} (hL : L ≤ 3072) (C0 : lw_At p s m meth c bs L xs) {dC : Nat → ClassId} {dI : Nat → Nat → Nat} {a b : Nat → Nat} {κ μ : Nat → ClassId} {g1 g2 cells slots : Nat} (hcl : cells ≤ 600000) (hsl : slots ≤ 7302249) (hKc : va_K (dC, dI) vwCl (ctys κ) s) (hKm : va_K (dC, dI) vwCl (mtys μ) s) (hIc : cInj a) (hIm : mInj b) (hAc : ∀ q, cA a q → s.heap.size ≤ q) (hAm : ∀ q, mA b q → s.heap.size ≤ q) (hdis : ∀ q, cA a q → ¬ mA b q) (hSt : cSt g1 g2 (fun q => s.heap.size ≤ q) s) (hN : Nst s) : ∀ (n : Nat) (i : Int32) (σ : Nat → Int32) (φ : Nat → Nat → Int32) (γ : Nat → Int32) (ψ : Nat → Nat → Int32) (τ : Nat → Int32) (θ : Nat → Nat → Int32) (ξ : Nat → Int32) (ζ : Nat → Nat → Int32) (H : Heap) (locs : List Loc) (ls : Array Slot), 0 ≤ i.toInt ∧ i.toInt ≤ 4000 → (4000 - i.toInt).toNat < n → CI σ φ → MI τ θ → va_P (dC, dI) vwCl (cw a κ (σ, φ, γ, ψ)) H → va_P (dC, dI) vwCl (mw b μ (τ, θ, ξ, ζ)) H → va_S (fun q => s.heap.size ≤ q) s.heap H locs → lv_has ls 4 [(0, .ref bs), (1, .ref (a 0)), (2, .ref (b 0)), (3, .int i)] → W p l e room_1 s m #[Value.ref bs] below meth c H locs cells slots (lw_Z below #[Value.ref bs] s) (F0 m 18 ls []) := by
  obtain ⟨hx, hb, hr, hml, hown, hts0, hX, hbl, hlocks, hgv⟩ := C0
  have hts : ∀ w ∈ wsL_law, w.before #[Value.ref bs] s = true := fun w h => hts0 w (wsL_law_in w h)
  have hbA : ¬ (fun q : Nat => s.heap.size ≤ q) bs := Nat.not_le.mpr hbl
  intro n
  induction n with
  | zero =>
    intro i σ φ γ ψ τ θ ξ ζ H locs ls hi hm
    exact absurd hm (Nat.not_lt_zero _)
  | succ n ih =>
    intro i σ φ γ ψ τ θ ξ ζ H locs ls hi hm hC hM hPc hPm hS hl
    refine lv_iload_n hx hb dL_law_18 rfl (lv_at hl 3 rfl) ?_
    refine lv_aload_n hx hb dL_law_19 rfl (lv_at hl 0 rfl) ?_
    refine va_slen hx hb hX hbl hbA hS dL_law_20 ?_
    refine lv_topi (fun z_1 ez_1 => ?_)
    have tz_1 : (Int32.toInt z_1) = (L : Int) := by rw [ez_1]; exact nI_toInt (by omega)
    refine lv_bipush (v := 6) hx hb dL_law_21 (by decide) ?_
    refine lv_isub hx hb dL_law_23 ?_
    refine lv_topi (fun z_2 ez_2 => ?_)
    have tz_2 : (Int32.toInt z_2) = (Int32.toInt z_1) - 6 := aI_sub rfl L_6 ez_2 ⟨by have := rng z_1; omega, by have := rng z_1; omega⟩
    refine lv_icmp_gt (tgt := 593) hx hb dL_law_24 (by decide) (fun c_3 => ?_) (fun c_3 => ?_)
    · have kc_3 := bI_lt rfl rfl c_3
      refine lv_iconst (v := 1) hx hb dL_law_593 (by decide) ?_
      refine va_forget (fun q hq => hS.2.2 q hq) ?_
      refine W.widen (k := 600000) (n := 7302249) hcl hsl ?_
      exact lw_ret hx hb hr hlocks dL_law_594
    · have kc_3 := bI_nlt rfl rfl c_3
      refine lv_aload_n hx hb dL_law_27 rfl (lv_at hl 0 rfl) ?_
      refine lv_iload_n hx hb dL_law_28 rfl (lv_at hl 3 rfl) ?_
      refine va_sld hx hb hX hbl hbA hS (i := i) (vin rfl ⟨by omega, by omega⟩) dL_law_29 ?_
      refine lv_topi (fun z_4 ez_4 => ?_)
      refine lv_bipush (v := 31) hx hb dL_law_30 (by decide) ?_
      refine lv_iand hx hb dL_law_32 ?_
      refine lv_topi (fun z_5 ez_5 => ?_)
      rcases (show ((Int32.toInt z_5) < 0 ∨ 16 < (Int32.toInt z_5)) ∨ (Int32.toInt z_5) = 0 ∨ (Int32.toInt z_5) = 1 ∨ (Int32.toInt z_5) = 2 ∨ (Int32.toInt z_5) = 3 ∨ (Int32.toInt z_5) = 4 ∨ (Int32.toInt z_5) = 5 ∨ (Int32.toInt z_5) = 6 ∨ (Int32.toInt z_5) = 7 ∨ (Int32.toInt z_5) = 8 ∨ (Int32.toInt z_5) = 9 ∨ (Int32.toInt z_5) = 10 ∨ (Int32.toInt z_5) = 11 ∨ (Int32.toInt z_5) = 12 ∨ (Int32.toInt z_5) = 13 ∨ (Int32.toInt z_5) = 14 ∨ (Int32.toInt z_5) = 15 ∨ (Int32.toInt z_5) = 16 from by omega) with sw_6 | sw_6 | sw_6 | sw_6 | sw_6 | sw_6 | sw_6 | sw_6 | sw_6 | sw_6 | sw_6 | sw_6 | sw_6 | sw_6 | sw_6 | sw_6 | sw_6 | sw_6
      · refine lv_tableOut (tgt := 587) hx hb dL_law_33 sw_6 (by decide) ?_
        obtain ⟨i_7, ei_7⟩ : ∃ z : Int32, z = i + 6 := ⟨_, rfl⟩
        refine lv_iinc (v := i_7) (lv' := [(3, .int i_7), (0, .ref bs), (1, .ref (a 0)), (2, .ref (b 0))]) hx hb dL_law_587 hl (k := 3) rfl (by rw [ei_7]; rfl) (by decide) rfl ?_
        clear hl; intro ls hl
        have ti_7 : (Int32.toInt i_7) = (Int32.toInt i) + 6 := aI_add rfl L_6 ei_7 ⟨by have := rng i; have := rng z_2; omega, by have := rng i; have := rng z_2; omega⟩
        refine lv_goto (tgt := 18) hx hb dL_law_590 (by decide) ?_
        exact ih i_7 σ φ γ ψ τ θ ξ ζ _ _ _ ⟨by omega, by omega⟩ (by omega) hC hM hPc hPm hS (lv_sub hl [1, 2, 3, 0] rfl)
      · refine lv_tableIn (off := 83) (tgt := 116) hx hb dL_law_33 (by omega) (by omega) (by rw [sw_6]; rfl) (by decide) ?_
        refine lv_aload_n hx hb dL_law_116 rfl (lv_at hl 1 rfl) ?_
        refine lv_aload_n hx hb dL_law_117 rfl (lv_at hl 0 rfl) ?_
        refine lv_iload_n hx hb dL_law_118 rfl (lv_at hl 3 rfl) ?_
        refine lv_iconst (v := 1) hx hb dL_law_119 (by decide) ?_
        refine lv_iadd hx hb dL_law_120 ?_
        refine lv_topi (fun z_8 ez_8 => ?_)
        have tz_8 : (Int32.toInt z_8) = (Int32.toInt i) + 1 := aI_add rfl L_1 ez_8 ⟨by have := rng i; omega, by have := rng i; omega⟩
        refine va_sld hx hb hX hbl hbA hS (i := z_8) (vin rfl ⟨by omega, by omega⟩) dL_law_121 ?_
        refine lv_topi (fun z_9 ez_9 => ?_)
        refine lv_aload_n hx hb dL_law_122 rfl (lv_at hl 0 rfl) ?_
        refine lv_iload_n hx hb dL_law_123 rfl (lv_at hl 3 rfl) ?_
        refine lv_iconst (v := 2) hx hb dL_law_124 (by decide) ?_
        refine lv_iadd hx hb dL_law_125 ?_
        refine lv_topi (fun z_10 ez_10 => ?_)
        have tz_10 : (Int32.toInt z_10) = (Int32.toInt i) + 2 := aI_add rfl L_2 ez_10 ⟨by have := rng i; omega, by have := rng i; omega⟩
        refine va_sld hx hb hX hbl hbA hS (i := z_10) (vin rfl ⟨by omega, by omega⟩) dL_law_126 ?_
        refine lv_topi (fun z_11 ez_11 => ?_)
        refine lv_aload_n hx hb dL_law_127 rfl (lv_at hl 0 rfl) ?_
        refine lv_iload_n hx hb dL_law_128 rfl (lv_at hl 3 rfl) ?_
        refine lv_iconst (v := 3) hx hb dL_law_129 (by decide) ?_
        refine lv_iadd hx hb dL_law_130 ?_
        refine lv_topi (fun z_12 ez_12 => ?_)
        have tz_12 : (Int32.toInt z_12) = (Int32.toInt i) + 3 := aI_add rfl L_3 ez_12 ⟨by have := rng i; omega, by have := rng i; omega⟩
        refine va_sld hx hb hX hbl hbA hS (i := z_12) (vin rfl ⟨by omega, by omega⟩) dL_law_131 ?_
        refine lv_topi (fun z_13 ez_13 => ?_)
        refine lv_aload_n hx hb dL_law_132 rfl (lv_at hl 0 rfl) ?_
        refine lv_iload_n hx hb dL_law_133 rfl (lv_at hl 3 rfl) ?_
        refine lv_iconst (v := 4) hx hb dL_law_134 (by decide) ?_
        refine lv_iadd hx hb dL_law_135 ?_
        refine lv_topi (fun z_14 ez_14 => ?_)
        have tz_14 : (Int32.toInt z_14) = (Int32.toInt i) + 4 := aI_add rfl L_4 ez_14 ⟨by have := rng i; omega, by have := rng i; omega⟩
        refine va_sld hx hb hX hbl hbA hS (i := z_14) (vin rfl ⟨by omega, by omega⟩) dL_law_136 ?_
        refine lv_topi (fun z_15 ez_15 => ?_)
        refine lv_aload_n hx hb dL_law_137 rfl (lv_at hl 0 rfl) ?_
        refine lv_iload_n hx hb dL_law_138 rfl (lv_at hl 3 rfl) ?_
        refine lv_iconst (v := 5) hx hb dL_law_139 (by decide) ?_
        refine lv_iadd hx hb dL_law_140 ?_
        refine lv_topi (fun z_16 ez_16 => ?_)
        have tz_16 : (Int32.toInt z_16) = (Int32.toInt i) + 5 := aI_add rfl L_5 ez_16 ⟨by have := rng i; omega, by have := rng i; omega⟩
        refine va_sld hx hb hX hbl hbA hS (i := z_16) (vin rfl ⟨by omega, by omega⟩) dL_law_141 ?_
        refine lv_topi (fun z_17 ez_17 => ?_)
        refine lawC_i (va_runV (As := [.int z_9, .int z_11, .int z_13, .int z_15, .int z_17]) (rest := []) ⟨hx, hb, hml, hown, hts⟩ (c_X8_feed l dC dI a κ σ φ γ ψ g1 g2 z_9 z_11 z_13 z_15 z_17 hC.2.2.2.2.2.1 hC.2.2.2.2.2.2.2.2.2.2.1) (cwV 5 hts gL_law_X8_feed rfl rfl rfl ⟨rfl, hd_X8_feed⟩ ⟨Nat.le_of_ble_eq_true rfl, Nat.le_of_ble_eq_true rfl⟩) (lawPreC hPc hKc hIc hN hSt hAc hS (va_recv hKc hPc (ci := 8) (q0 := 0) rfl rfl)) rfl rfl hl.1 rfl (lv_room (Nat.le_of_ble_eq_true rfl)) dL_law_142 ⟨hcl, hsl⟩) hS hAc hPm hdis ?_
        clear hPc hPm hS; intro r_18 S_18 F_18 G_18 P_18 H locs hw hPc hPm hS
        obtain ⟨s0_18, f0_18, rfl, rfl, ql_18, qri_18⟩ := hw
        have hc_18 : CI (up σ 0 s0_18) (up φ 0 f0_18) := ⟨hC.1, hC.2.1, hC.2.2.1, hC.2.2.2.1, hC.2.2.2.2.1, ql_18, hC.2.2.2.2.2.2.1, hC.2.2.2.2.2.2.2.1, hC.2.2.2.2.2.2.2.2.1, hC.2.2.2.2.2.2.2.2.2.1, qri_18, hC.2.2.2.2.2.2.2.2.2.2.2⟩
        clear qri_18 ql_18
        refine lv_pop hx hb dL_law_145 rfl ?_
        refine lv_aload_n hx hb dL_law_146 rfl (lv_at hl 2 rfl) ?_
        refine lv_aload_n hx hb dL_law_147 rfl (lv_at hl 0 rfl) ?_
        refine lv_iload_n hx hb dL_law_148 rfl (lv_at hl 3 rfl) ?_
        refine lv_iconst (v := 1) hx hb dL_law_149 (by decide) ?_
        refine lv_iadd hx hb dL_law_150 ?_
        refine lv_topi (fun z_19 ez_19 => ?_)
        have tz_19 : (Int32.toInt z_19) = (Int32.toInt i) + 1 := aI_add rfl L_1 ez_19 ⟨by have := rng i; omega, by have := rng i; omega⟩
        refine va_sld hx hb hX hbl hbA hS (i := z_19) (vin rfl ⟨by omega, by omega⟩) dL_law_151 ?_
        refine lv_topi (fun z_20 ez_20 => ?_)
        refine lv_aload_n hx hb dL_law_152 rfl (lv_at hl 0 rfl) ?_
        refine lv_iload_n hx hb dL_law_153 rfl (lv_at hl 3 rfl) ?_
        refine lv_iconst (v := 2) hx hb dL_law_154 (by decide) ?_
        refine lv_iadd hx hb dL_law_155 ?_
        refine lv_topi (fun z_21 ez_21 => ?_)
        have tz_21 : (Int32.toInt z_21) = (Int32.toInt i) + 2 := aI_add rfl L_2 ez_21 ⟨by have := rng i; omega, by have := rng i; omega⟩
        refine va_sld hx hb hX hbl hbA hS (i := z_21) (vin rfl ⟨by omega, by omega⟩) dL_law_156 ?_
        refine lv_topi (fun z_22 ez_22 => ?_)
        refine lv_aload_n hx hb dL_law_157 rfl (lv_at hl 0 rfl) ?_
        refine lv_iload_n hx hb dL_law_158 rfl (lv_at hl 3 rfl) ?_
        refine lv_iconst (v := 3) hx hb dL_law_159 (by decide) ?_
        refine lv_iadd hx hb dL_law_160 ?_
        refine lv_topi (fun z_23 ez_23 => ?_)
        have tz_23 : (Int32.toInt z_23) = (Int32.toInt i) + 3 := aI_add rfl L_3 ez_23 ⟨by have := rng i; omega, by have := rng i; omega⟩
        refine va_sld hx hb hX hbl hbA hS (i := z_23) (vin rfl ⟨by omega, by omega⟩) dL_law_161 ?_
        refine lv_topi (fun z_24 ez_24 => ?_)
        refine lv_aload_n hx hb dL_law_162 rfl (lv_at hl 0 rfl) ?_
        refine lv_iload_n hx hb dL_law_163 rfl (lv_at hl 3 rfl) ?_
        refine lv_iconst (v := 4) hx hb dL_law_164 (by decide) ?_
        refine lv_iadd hx hb dL_law_165 ?_
        refine lv_topi (fun z_25 ez_25 => ?_)
        have tz_25 : (Int32.toInt z_25) = (Int32.toInt i) + 4 := aI_add rfl L_4 ez_25 ⟨by have := rng i; omega, by have := rng i; omega⟩
        refine va_sld hx hb hX hbl hbA hS (i := z_25) (vin rfl ⟨by omega, by omega⟩) dL_law_166 ?_
        refine lv_topi (fun z_26 ez_26 => ?_)
        refine lv_aload_n hx hb dL_law_167 rfl (lv_at hl 0 rfl) ?_
        refine lv_iload_n hx hb dL_law_168 rfl (lv_at hl 3 rfl) ?_
        refine lv_iconst (v := 5) hx hb dL_law_169 (by decide) ?_
        refine lv_iadd hx hb dL_law_170 ?_
        refine lv_topi (fun z_27 ez_27 => ?_)
        have tz_27 : (Int32.toInt z_27) = (Int32.toInt i) + 5 := aI_add rfl L_5 ez_27 ⟨by have := rng i; omega, by have := rng i; omega⟩
        refine va_sld hx hb hX hbl hbA hS (i := z_27) (vin rfl ⟨by omega, by omega⟩) dL_law_171 ?_
        refine lv_topi (fun z_28 ez_28 => ?_)
        refine lawM_i (va_runV (As := [.int z_20, .int z_22, .int z_24, .int z_26, .int z_28]) (rest := []) ⟨hx, hb, hml, hown, hts⟩ (c_X9_feed l dC dI b μ τ θ ξ ζ z_20 z_22 z_24 z_26 z_28 hM.2.2.2.2.2.2.2.2.1 hM.2.2.2.2.2.2.2.2.2.2.2.2.2.2.2.2.2) (cwV 5 hts gL_law_X9_feed rfl rfl rfl ⟨rfl, hd_X9_feed⟩ ⟨Nat.le_of_ble_eq_true rfl, Nat.le_of_ble_eq_true rfl⟩) (lawPreM hPm hKm hIm hN (va_recv hKm hPm (ci := 9) (q0 := 0) rfl rfl)) rfl rfl hl.1 rfl (lv_room (Nat.le_of_ble_eq_true rfl)) dL_law_172 ⟨hcl, hsl⟩) hS hAm hPc hdis ?_
        clear hPc hPm hS; intro r_29 S_29 F_29 G_29 P_29 H locs hw hPm hPc hS
        obtain ⟨s0_29, f0_29, rfl, rfl, qfd_29, qr_29⟩ := hw
        have hm_29 : MI (up τ 0 s0_29) (up θ 0 f0_29) := ⟨hM.1, hM.2.1, hM.2.2.1, hM.2.2.2.1, hM.2.2.2.2.1, hM.2.2.2.2.2.1, hM.2.2.2.2.2.2.1, hM.2.2.2.2.2.2.2.1, qfd_29, hM.2.2.2.2.2.2.2.2.2.1, hM.2.2.2.2.2.2.2.2.2.2.1, hM.2.2.2.2.2.2.2.2.2.2.2.1, hM.2.2.2.2.2.2.2.2.2.2.2.2.1, hM.2.2.2.2.2.2.2.2.2.2.2.2.2.1, hM.2.2.2.2.2.2.2.2.2.2.2.2.2.2.1, hM.2.2.2.2.2.2.2.2.2.2.2.2.2.2.2.1, hM.2.2.2.2.2.2.2.2.2.2.2.2.2.2.2.2.1, qr_29⟩
        clear qr_29 qfd_29
        refine lv_pop hx hb dL_law_175 rfl ?_
        refine lv_goto (tgt := 587) hx hb dL_law_176 (by decide) ?_
        obtain ⟨i_30, ei_30⟩ : ∃ z : Int32, z = i + 6 := ⟨_, rfl⟩
        refine lv_iinc (v := i_30) (lv' := [(3, .int i_30), (0, .ref bs), (1, .ref (a 0)), (2, .ref (b 0))]) hx hb dL_law_587 hl (k := 3) rfl (by rw [ei_30]; rfl) (by decide) rfl ?_
        clear hl; intro ls hl
        have ti_30 : (Int32.toInt i_30) = (Int32.toInt i) + 6 := aI_add rfl L_6 ei_30 ⟨by have := rng i; have := rng z_2; omega, by have := rng i; have := rng z_2; omega⟩
        refine lv_goto (tgt := 18) hx hb dL_law_590 (by decide) ?_
        exact ih i_30 (up σ 0 s0_18) (up φ 0 f0_18) G_18 P_18 (up τ 0 s0_29) (up θ 0 f0_29) G_29 P_29 _ _ _ ⟨by omega, by omega⟩ (by omega) hc_18 hm_29 hPc hPm hS (lv_sub hl [1, 2, 3, 0] rfl)
      · refine lv_tableIn (off := 146) (tgt := 179) hx hb dL_law_33 (by omega) (by omega) (by rw [sw_6]; rfl) (by decide) ?_
        refine lv_aload_n hx hb dL_law_179 rfl (lv_at hl 1 rfl) ?_
        refine lv_aload_n hx hb dL_law_180 rfl (lv_at hl 0 rfl) ?_
        refine lv_iload_n hx hb dL_law_181 rfl (lv_at hl 3 rfl) ?_
        refine lv_iconst (v := 1) hx hb dL_law_182 (by decide) ?_
        refine lv_iadd hx hb dL_law_183 ?_
        refine lv_topi (fun z_31 ez_31 => ?_)
        have tz_31 : (Int32.toInt z_31) = (Int32.toInt i) + 1 := aI_add rfl L_1 ez_31 ⟨by have := rng i; omega, by have := rng i; omega⟩
        refine va_sld hx hb hX hbl hbA hS (i := z_31) (vin rfl ⟨by omega, by omega⟩) dL_law_184 ?_
        refine lv_topi (fun z_32 ez_32 => ?_)
        refine lawC_i (va_runV (As := [.int z_32]) (rest := []) ⟨hx, hb, hml, hown, hts⟩ (c_X8_end l dC dI a κ σ φ γ ψ g1 g2 z_32 hC.2.2.2.2.2.1 hC.2.2.2.2.2.2.2.2.2.2.1) (cwV 1 hts gL_law_X8_end rfl rfl rfl ⟨rfl, hd_X8_end⟩ ⟨Nat.le_of_ble_eq_true rfl, Nat.le_of_ble_eq_true rfl⟩) (lawPreC hPc hKc hIc hN hSt hAc hS (va_recv hKc hPc (ci := 8) (q0 := 0) rfl rfl)) rfl rfl hl.1 rfl (lv_room (Nat.le_of_ble_eq_true rfl)) dL_law_185 ⟨hcl, hsl⟩) hS hAc hPm hdis ?_
        clear hPc hPm hS; intro r_33 S_33 F_33 G_33 P_33 H locs hw hPc hPm hS
        obtain ⟨s0_33, rfl, rfl, ql_33, qri_33⟩ := hw
        have hc_33 : CI (up σ 0 s0_33) φ := ⟨hC.1, hC.2.1, hC.2.2.1, hC.2.2.2.1, hC.2.2.2.2.1, ql_33, hC.2.2.2.2.2.2.1, hC.2.2.2.2.2.2.2.1, hC.2.2.2.2.2.2.2.2.1, hC.2.2.2.2.2.2.2.2.2.1, qri_33, hC.2.2.2.2.2.2.2.2.2.2.2⟩
        clear qri_33 ql_33
        refine lv_pop hx hb dL_law_188 rfl ?_
        refine lv_aload_n hx hb dL_law_189 rfl (lv_at hl 2 rfl) ?_
        refine lv_aload_n hx hb dL_law_190 rfl (lv_at hl 0 rfl) ?_
        refine lv_iload_n hx hb dL_law_191 rfl (lv_at hl 3 rfl) ?_
        refine lv_iconst (v := 1) hx hb dL_law_192 (by decide) ?_
        refine lv_iadd hx hb dL_law_193 ?_
        refine lv_topi (fun z_34 ez_34 => ?_)
        have tz_34 : (Int32.toInt z_34) = (Int32.toInt i) + 1 := aI_add rfl L_1 ez_34 ⟨by have := rng i; omega, by have := rng i; omega⟩
        refine va_sld hx hb hX hbl hbA hS (i := z_34) (vin rfl ⟨by omega, by omega⟩) dL_law_194 ?_
        refine lv_topi (fun z_35 ez_35 => ?_)
        refine lawM_i (va_runV (As := [.int z_35]) (rest := []) ⟨hx, hb, hml, hown, hts⟩ (c_X9_end l dC dI b μ τ θ ξ ζ z_35 hM.2.2.2.2.2.2.2.2.1 hM.2.2.2.2.2.2.2.2.2.2.2.2.2.2.2.2.2) (cwV 1 hts gL_law_X9_end rfl rfl rfl ⟨rfl, hd_X9_end⟩ ⟨Nat.le_of_ble_eq_true rfl, Nat.le_of_ble_eq_true rfl⟩) (lawPreM hPm hKm hIm hN (va_recv hKm hPm (ci := 9) (q0 := 0) rfl rfl)) rfl rfl hl.1 rfl (lv_room (Nat.le_of_ble_eq_true rfl)) dL_law_195 ⟨hcl, hsl⟩) hS hAm hPc hdis ?_
        clear hPc hPm hS; intro r_36 S_36 F_36 G_36 P_36 H locs hw hPm hPc hS
        obtain ⟨s0_36, rfl, rfl, qfd_36, qr_36⟩ := hw
        have hm_36 : MI (up τ 0 s0_36) θ := ⟨hM.1, hM.2.1, hM.2.2.1, hM.2.2.2.1, hM.2.2.2.2.1, hM.2.2.2.2.2.1, hM.2.2.2.2.2.2.1, hM.2.2.2.2.2.2.2.1, qfd_36, hM.2.2.2.2.2.2.2.2.2.1, hM.2.2.2.2.2.2.2.2.2.2.1, hM.2.2.2.2.2.2.2.2.2.2.2.1, hM.2.2.2.2.2.2.2.2.2.2.2.2.1, hM.2.2.2.2.2.2.2.2.2.2.2.2.2.1, hM.2.2.2.2.2.2.2.2.2.2.2.2.2.2.1, hM.2.2.2.2.2.2.2.2.2.2.2.2.2.2.2.1, hM.2.2.2.2.2.2.2.2.2.2.2.2.2.2.2.2.1, qr_36⟩
        clear qr_36 qfd_36
        refine lv_pop hx hb dL_law_198 rfl ?_
        refine lv_goto (tgt := 587) hx hb dL_law_199 (by decide) ?_
        obtain ⟨i_37, ei_37⟩ : ∃ z : Int32, z = i + 6 := ⟨_, rfl⟩
        refine lv_iinc (v := i_37) (lv' := [(3, .int i_37), (0, .ref bs), (1, .ref (a 0)), (2, .ref (b 0))]) hx hb dL_law_587 hl (k := 3) rfl (by rw [ei_37]; rfl) (by decide) rfl ?_
        clear hl; intro ls hl
        have ti_37 : (Int32.toInt i_37) = (Int32.toInt i) + 6 := aI_add rfl L_6 ei_37 ⟨by have := rng i; have := rng z_2; omega, by have := rng i; have := rng z_2; omega⟩
        refine lv_goto (tgt := 18) hx hb dL_law_590 (by decide) ?_
        exact ih i_37 (up σ 0 s0_33) φ G_33 P_33 (up τ 0 s0_36) θ G_36 P_36 _ _ _ ⟨by omega, by omega⟩ (by omega) hc_33 hm_36 hPc hPm hS (lv_sub hl [1, 2, 3, 0] rfl)
      · refine lv_tableIn (off := 169) (tgt := 202) hx hb dL_law_33 (by omega) (by omega) (by rw [sw_6]; rfl) (by decide) ?_
        refine lv_aload_n hx hb dL_law_202 rfl (lv_at hl 1 rfl) ?_
        refine lv_aload_n hx hb dL_law_203 rfl (lv_at hl 0 rfl) ?_
        refine lv_iload_n hx hb dL_law_204 rfl (lv_at hl 3 rfl) ?_
        refine lv_iconst (v := 1) hx hb dL_law_205 (by decide) ?_
        refine lv_iadd hx hb dL_law_206 ?_
        refine lv_topi (fun z_38 ez_38 => ?_)
        have tz_38 : (Int32.toInt z_38) = (Int32.toInt i) + 1 := aI_add rfl L_1 ez_38 ⟨by have := rng i; omega, by have := rng i; omega⟩
        refine va_sld hx hb hX hbl hbA hS (i := z_38) (vin rfl ⟨by omega, by omega⟩) dL_law_207 ?_
        refine lv_topi (fun z_39 ez_39 => ?_)
        refine lv_aload_n hx hb dL_law_208 rfl (lv_at hl 0 rfl) ?_
        refine lv_iload_n hx hb dL_law_209 rfl (lv_at hl 3 rfl) ?_
        refine lv_iconst (v := 2) hx hb dL_law_210 (by decide) ?_
        refine lv_iadd hx hb dL_law_211 ?_
        refine lv_topi (fun z_40 ez_40 => ?_)
        have tz_40 : (Int32.toInt z_40) = (Int32.toInt i) + 2 := aI_add rfl L_2 ez_40 ⟨by have := rng i; omega, by have := rng i; omega⟩
        refine va_sld hx hb hX hbl hbA hS (i := z_40) (vin rfl ⟨by omega, by omega⟩) dL_law_212 ?_
        refine lv_topi (fun z_41 ez_41 => ?_)
        refine lv_aload_n hx hb dL_law_213 rfl (lv_at hl 0 rfl) ?_
        refine lv_iload_n hx hb dL_law_214 rfl (lv_at hl 3 rfl) ?_
        refine lv_iconst (v := 3) hx hb dL_law_215 (by decide) ?_
        refine lv_iadd hx hb dL_law_216 ?_
        refine lv_topi (fun z_42 ez_42 => ?_)
        have tz_42 : (Int32.toInt z_42) = (Int32.toInt i) + 3 := aI_add rfl L_3 ez_42 ⟨by have := rng i; omega, by have := rng i; omega⟩
        refine va_sld hx hb hX hbl hbA hS (i := z_42) (vin rfl ⟨by omega, by omega⟩) dL_law_217 ?_
        refine lv_topi (fun z_43 ez_43 => ?_)
        refine lawC_i (va_runV (As := [.int z_39, .int z_41, .int z_43]) (rest := []) ⟨hx, hb, hml, hown, hts⟩ (c_X8_rule l dC dI a κ σ φ γ ψ g1 g2 z_39 z_41 z_43 ) (cwV 3 hts gL_law_X8_rule rfl rfl rfl ⟨rfl, hd_X8_rule⟩ ⟨Nat.le_of_ble_eq_true rfl, Nat.le_of_ble_eq_true rfl⟩) (lawPreC hPc hKc hIc hN hSt hAc hS (va_recv hKc hPc (ci := 8) (q0 := 0) rfl rfl)) rfl rfl hl.1 rfl (lv_room (Nat.le_of_ble_eq_true rfl)) dL_law_218 ⟨hcl, hsl⟩) hS hAc hPm hdis ?_
        clear hPc hPm hS; intro r_44 S_44 F_44 G_44 P_44 H locs hw hPc hPm hS
        obtain ⟨rfl, rfl, -⟩ := hw
        refine lv_pop hx hb dL_law_221 rfl ?_
        refine lv_aload_n hx hb dL_law_222 rfl (lv_at hl 2 rfl) ?_
        refine lv_aload_n hx hb dL_law_223 rfl (lv_at hl 0 rfl) ?_
        refine lv_iload_n hx hb dL_law_224 rfl (lv_at hl 3 rfl) ?_
        refine lv_iconst (v := 1) hx hb dL_law_225 (by decide) ?_
        refine lv_iadd hx hb dL_law_226 ?_
        refine lv_topi (fun z_45 ez_45 => ?_)
        have tz_45 : (Int32.toInt z_45) = (Int32.toInt i) + 1 := aI_add rfl L_1 ez_45 ⟨by have := rng i; omega, by have := rng i; omega⟩
        refine va_sld hx hb hX hbl hbA hS (i := z_45) (vin rfl ⟨by omega, by omega⟩) dL_law_227 ?_
        refine lv_topi (fun z_46 ez_46 => ?_)
        refine lv_aload_n hx hb dL_law_228 rfl (lv_at hl 0 rfl) ?_
        refine lv_iload_n hx hb dL_law_229 rfl (lv_at hl 3 rfl) ?_
        refine lv_iconst (v := 2) hx hb dL_law_230 (by decide) ?_
        refine lv_iadd hx hb dL_law_231 ?_
        refine lv_topi (fun z_47 ez_47 => ?_)
        have tz_47 : (Int32.toInt z_47) = (Int32.toInt i) + 2 := aI_add rfl L_2 ez_47 ⟨by have := rng i; omega, by have := rng i; omega⟩
        refine va_sld hx hb hX hbl hbA hS (i := z_47) (vin rfl ⟨by omega, by omega⟩) dL_law_232 ?_
        refine lv_topi (fun z_48 ez_48 => ?_)
        refine lv_aload_n hx hb dL_law_233 rfl (lv_at hl 0 rfl) ?_
        refine lv_iload_n hx hb dL_law_234 rfl (lv_at hl 3 rfl) ?_
        refine lv_iconst (v := 3) hx hb dL_law_235 (by decide) ?_
        refine lv_iadd hx hb dL_law_236 ?_
        refine lv_topi (fun z_49 ez_49 => ?_)
        have tz_49 : (Int32.toInt z_49) = (Int32.toInt i) + 3 := aI_add rfl L_3 ez_49 ⟨by have := rng i; omega, by have := rng i; omega⟩
        refine va_sld hx hb hX hbl hbA hS (i := z_49) (vin rfl ⟨by omega, by omega⟩) dL_law_237 ?_
        refine lv_topi (fun z_50 ez_50 => ?_)
        refine lawM_i (va_runV (As := [.int z_46, .int z_48, .int z_50]) (rest := []) ⟨hx, hb, hml, hown, hts⟩ (c_X9_rule l dC dI b μ τ θ ξ ζ z_46 z_48 z_50 ) (cwV 3 hts gL_law_X9_rule rfl rfl rfl ⟨rfl, hd_X9_rule⟩ ⟨Nat.le_of_ble_eq_true rfl, Nat.le_of_ble_eq_true rfl⟩) (lawPreM hPm hKm hIm hN (va_recv hKm hPm (ci := 9) (q0 := 0) rfl rfl)) rfl rfl hl.1 rfl (lv_room (Nat.le_of_ble_eq_true rfl)) dL_law_238 ⟨hcl, hsl⟩) hS hAm hPc hdis ?_
        clear hPc hPm hS; intro r_51 S_51 F_51 G_51 P_51 H locs hw hPm hPc hS
        obtain ⟨rfl, rfl, -⟩ := hw
        refine lv_pop hx hb dL_law_241 rfl ?_
        refine lv_goto (tgt := 587) hx hb dL_law_242 (by decide) ?_
        obtain ⟨i_52, ei_52⟩ : ∃ z : Int32, z = i + 6 := ⟨_, rfl⟩
        refine lv_iinc (v := i_52) (lv' := [(3, .int i_52), (0, .ref bs), (1, .ref (a 0)), (2, .ref (b 0))]) hx hb dL_law_587 hl (k := 3) rfl (by rw [ei_52]; rfl) (by decide) rfl ?_
        clear hl; intro ls hl
        have ti_52 : (Int32.toInt i_52) = (Int32.toInt i) + 6 := aI_add rfl L_6 ei_52 ⟨by have := rng i; have := rng z_2; omega, by have := rng i; have := rng z_2; omega⟩
        refine lv_goto (tgt := 18) hx hb dL_law_590 (by decide) ?_
        exact ih i_52 σ φ G_44 P_44 τ θ G_51 P_51 _ _ _ ⟨by omega, by omega⟩ (by omega) hC hM hPc hPm hS (lv_sub hl [1, 2, 3, 0] rfl)
      · refine lv_tableIn (off := 212) (tgt := 245) hx hb dL_law_33 (by omega) (by omega) (by rw [sw_6]; rfl) (by decide) ?_
        refine lv_aload_n hx hb dL_law_245 rfl (lv_at hl 1 rfl) ?_
        refine lawC_i (va_runV (As := []) (rest := []) ⟨hx, hb, hml, hown, hts⟩ (c_X8_receive l dC dI a κ σ φ γ ψ g1 g2  hC.1 hC.2.1 hC.2.2.1 hC.2.2.2.1 hC.2.2.2.2.1 hC.2.2.2.2.2.1 hC.2.2.2.2.2.2.1 hC.2.2.2.2.2.2.2.1 hC.2.2.2.2.2.2.2.2.1 hC.2.2.2.2.2.2.2.2.2.1 hC.2.2.2.2.2.2.2.2.2.2.1 hC.2.2.2.2.2.2.2.2.2.2.2) (cwV 0 hts gL_law_X8_receive rfl rfl rfl ⟨rfl, hd_X8_receive⟩ ⟨Nat.le_of_ble_eq_true rfl, Nat.le_of_ble_eq_true rfl⟩) (lawPreC hPc hKc hIc hN hSt hAc hS (va_recv hKc hPc (ci := 8) (q0 := 0) rfl rfl)) rfl rfl hl.1 rfl (lv_room (Nat.le_of_ble_eq_true rfl)) dL_law_246 ⟨hcl, hsl⟩) hS hAc hPm hdis ?_
        clear hPc hPm hS; intro r_53 S_53 F_53 G_53 P_53 H locs hw hPc hPm hS
        obtain ⟨s19_53, s20_53, s21_53, s22_53, s23_53, s11_53, s12_53, s13_53, s14_53, s15_53, s1_53, s2_53, s3_53, s4_53, s5_53, s6_53, f1_53, f2_53, s7_53, s8_53, s9_53, s10_53, f3_53, f4_53, f5_53, f6_53, f7_53, s16_53, s17_53, s18_53, f8_53, rfl, rfl, pf1_53, pf2_53, pf3_53, pf4_53, pf6_53, qlen_53, qp_53, qb_53, qbs_53, qac_53, qri_53, qbh_53⟩ := hw
        have hc_53 : CI (up (up (up (up (up (up (up (up (up (up (up (up (up (up (up (up (up (up (up (up (up (up (up σ 19 s19_53) 20 s20_53) 21 s21_53) 22 s22_53) 23 s23_53) 11 s11_53) 12 s12_53) 13 s13_53) 14 s14_53) 15 s15_53) 1 s1_53) 2 s2_53) 3 s3_53) 4 s4_53) 5 s5_53) 6 s6_53) 7 s7_53) 8 s8_53) 9 s9_53) 10 s10_53) 16 s16_53) 17 s17_53) 18 s18_53) (up (up (up (up (up (up (up (up φ 1 f1_53) 2 f2_53) 3 f3_53) 4 f4_53) 5 f5_53) 6 f6_53) 7 f7_53) 8 f8_53) := ⟨pf1_53, pf2_53, pf3_53, pf4_53, pf6_53, qlen_53, qp_53, qb_53, qbs_53, qac_53, qri_53, qbh_53⟩
        clear qbh_53 qri_53 qac_53 qbs_53 qb_53 qp_53 qlen_53 pf6_53 pf4_53 pf3_53 pf2_53 pf1_53
        refine lv_pop hx hb dL_law_249 rfl ?_
        refine lv_aload_n hx hb dL_law_250 rfl (lv_at hl 2 rfl) ?_
        refine lawM_i (va_runV (As := []) (rest := []) ⟨hx, hb, hml, hown, hts⟩ (c_X9_receive l dC dI b μ τ θ ξ ζ  hM.1 hM.2.1 hM.2.2.1 hM.2.2.2.1 hM.2.2.2.2.1 hM.2.2.2.2.2.1 hM.2.2.2.2.2.2.1 hM.2.2.2.2.2.2.2.1 hM.2.2.2.2.2.2.2.2.1 hM.2.2.2.2.2.2.2.2.2.1 hM.2.2.2.2.2.2.2.2.2.2.1 hM.2.2.2.2.2.2.2.2.2.2.2.1 hM.2.2.2.2.2.2.2.2.2.2.2.2.1 hM.2.2.2.2.2.2.2.2.2.2.2.2.2.1 hM.2.2.2.2.2.2.2.2.2.2.2.2.2.2.1 hM.2.2.2.2.2.2.2.2.2.2.2.2.2.2.2.1 hM.2.2.2.2.2.2.2.2.2.2.2.2.2.2.2.2.1 hM.2.2.2.2.2.2.2.2.2.2.2.2.2.2.2.2.2) (cwV 0 hts gL_law_X9_receive rfl rfl rfl ⟨rfl, hd_X9_receive⟩ ⟨Nat.le_of_ble_eq_true rfl, Nat.le_of_ble_eq_true rfl⟩) (lawPreM hPm hKm hIm hN (va_recv hKm hPm (ci := 9) (q0 := 0) rfl rfl)) rfl rfl hl.1 rfl (lv_room (Nat.le_of_ble_eq_true rfl)) dL_law_251 ⟨hcl, hsl⟩) hS hAm hPc hdis ?_
        clear hPc hPm hS; intro r_54 S_54 F_54 G_54 P_54 H locs hw hPm hPc hS
        obtain ⟨s15_54, s2_54, s1_54, s10_54, f6_54, s3_54, s4_54, s5_54, s6_54, s7_54, s8_54, s9_54, s11_54, s12_54, f7_54, f3_54, f4_54, f5_54, f1_54, f2_54, s13_54, s14_54, f8_54, f9_54, f10_54, f11_54, s16_54, s17_54, s18_54, rfl, rfl, pf3_54, pf4_54, pf5_54, pf1_54, pf2_54, pf8_54, pf9_54, pf11_54, qk_54, qm_54, qh_54, qf_54, qc_54, qA_54, qS_54, qac_54, qr_54⟩ := hw
        have hm_54 : MI (up (up (up (up (up (up (up (up (up (up (up (up (up (up (up (up (up (up τ 15 s15_54) 2 s2_54) 1 s1_54) 10 s10_54) 3 s3_54) 4 s4_54) 5 s5_54) 6 s6_54) 7 s7_54) 8 s8_54) 9 s9_54) 11 s11_54) 12 s12_54) 13 s13_54) 14 s14_54) 16 s16_54) 17 s17_54) 18 s18_54) (up (up (up (up (up (up (up (up (up (up (up θ 6 f6_54) 7 f7_54) 3 f3_54) 4 f4_54) 5 f5_54) 1 f1_54) 2 f2_54) 8 f8_54) 9 f9_54) 10 f10_54) 11 f11_54) := ⟨pf3_54, pf4_54, pf5_54, pf1_54, pf2_54, pf8_54, pf9_54, pf11_54, hM.2.2.2.2.2.2.2.2.1, qk_54, qm_54, qh_54, qf_54, qc_54, qA_54, qS_54, qac_54, qr_54⟩
        clear qr_54 qac_54 qS_54 qA_54 qc_54 qf_54 qh_54 qm_54 qk_54 pf11_54 pf9_54 pf8_54 pf2_54 pf1_54 pf5_54 pf4_54 pf3_54
        refine lv_pop hx hb dL_law_254 rfl ?_
        refine lv_goto (tgt := 587) hx hb dL_law_255 (by decide) ?_
        obtain ⟨i_55, ei_55⟩ : ∃ z : Int32, z = i + 6 := ⟨_, rfl⟩
        refine lv_iinc (v := i_55) (lv' := [(3, .int i_55), (0, .ref bs), (1, .ref (a 0)), (2, .ref (b 0))]) hx hb dL_law_587 hl (k := 3) rfl (by rw [ei_55]; rfl) (by decide) rfl ?_
        clear hl; intro ls hl
        have ti_55 : (Int32.toInt i_55) = (Int32.toInt i) + 6 := aI_add rfl L_6 ei_55 ⟨by have := rng i; have := rng z_2; omega, by have := rng i; have := rng z_2; omega⟩
        refine lv_goto (tgt := 18) hx hb dL_law_590 (by decide) ?_
        exact ih i_55 (up (up (up (up (up (up (up (up (up (up (up (up (up (up (up (up (up (up (up (up (up (up (up σ 19 s19_53) 20 s20_53) 21 s21_53) 22 s22_53) 23 s23_53) 11 s11_53) 12 s12_53) 13 s13_53) 14 s14_53) 15 s15_53) 1 s1_53) 2 s2_53) 3 s3_53) 4 s4_53) 5 s5_53) 6 s6_53) 7 s7_53) 8 s8_53) 9 s9_53) 10 s10_53) 16 s16_53) 17 s17_53) 18 s18_53) (up (up (up (up (up (up (up (up φ 1 f1_53) 2 f2_53) 3 f3_53) 4 f4_53) 5 f5_53) 6 f6_53) 7 f7_53) 8 f8_53) G_53 P_53 (up (up (up (up (up (up (up (up (up (up (up (up (up (up (up (up (up (up τ 15 s15_54) 2 s2_54) 1 s1_54) 10 s10_54) 3 s3_54) 4 s4_54) 5 s5_54) 6 s6_54) 7 s7_54) 8 s8_54) 9 s9_54) 11 s11_54) 12 s12_54) 13 s13_54) 14 s14_54) 16 s16_54) 17 s17_54) 18 s18_54) (up (up (up (up (up (up (up (up (up (up (up θ 6 f6_54) 7 f7_54) 3 f3_54) 4 f4_54) 5 f5_54) 1 f1_54) 2 f2_54) 8 f8_54) 9 f9_54) 10 f10_54) 11 f11_54) G_54 P_54 _ _ _ ⟨by omega, by omega⟩ (by omega) hc_53 hm_54 hPc hPm hS (lv_sub hl [1, 2, 3, 0] rfl)
      · refine lv_tableIn (off := 225) (tgt := 258) hx hb dL_law_33 (by omega) (by omega) (by rw [sw_6]; rfl) (by decide) ?_
        refine lv_aload_n hx hb dL_law_258 rfl (lv_at hl 1 rfl) ?_
        refine lawC_i (va_runV (As := []) (rest := []) ⟨hx, hb, hml, hown, hts⟩ (c_X8_resume l dC dI a κ σ φ γ ψ g1 g2  hC.1 hC.2.1 hC.2.2.1 hC.2.2.2.1 hC.2.2.2.2.1 hC.2.2.2.2.2.1 hC.2.2.2.2.2.2.1 hC.2.2.2.2.2.2.2.1 hC.2.2.2.2.2.2.2.2.1 hC.2.2.2.2.2.2.2.2.2.1 hC.2.2.2.2.2.2.2.2.2.2.1 hC.2.2.2.2.2.2.2.2.2.2.2) (cwV 0 hts gL_law_X8_resume rfl rfl rfl ⟨rfl, hd_X8_resume⟩ ⟨Nat.le_of_ble_eq_true rfl, Nat.le_of_ble_eq_true rfl⟩) (lawPreC hPc hKc hIc hN hSt hAc hS (va_recv hKc hPc (ci := 8) (q0 := 0) rfl rfl)) rfl rfl hl.1 rfl (lv_room (Nat.le_of_ble_eq_true rfl)) dL_law_259 ⟨hcl, hsl⟩) hS hAc hPm hdis ?_
        clear hPc hPm hS; intro r_56 S_56 F_56 G_56 P_56 H locs hw hPc hPm hS
        obtain ⟨s19_56, s20_56, s21_56, s22_56, s23_56, s11_56, s12_56, s13_56, s14_56, s15_56, s1_56, s2_56, s3_56, s4_56, s5_56, s6_56, f1_56, f2_56, s7_56, s8_56, s9_56, s10_56, f3_56, f4_56, f5_56, f6_56, f7_56, s16_56, s17_56, s18_56, f8_56, rfl, rfl, pf1_56, pf2_56, pf3_56, pf4_56, pf6_56, qlen_56, qp_56, qb_56, qbs_56, qac_56, qri_56, qbh_56⟩ := hw
        have hc_56 : CI (up (up (up (up (up (up (up (up (up (up (up (up (up (up (up (up (up (up (up (up (up (up (up σ 19 s19_56) 20 s20_56) 21 s21_56) 22 s22_56) 23 s23_56) 11 s11_56) 12 s12_56) 13 s13_56) 14 s14_56) 15 s15_56) 1 s1_56) 2 s2_56) 3 s3_56) 4 s4_56) 5 s5_56) 6 s6_56) 7 s7_56) 8 s8_56) 9 s9_56) 10 s10_56) 16 s16_56) 17 s17_56) 18 s18_56) (up (up (up (up (up (up (up (up φ 1 f1_56) 2 f2_56) 3 f3_56) 4 f4_56) 5 f5_56) 6 f6_56) 7 f7_56) 8 f8_56) := ⟨pf1_56, pf2_56, pf3_56, pf4_56, pf6_56, qlen_56, qp_56, qb_56, qbs_56, qac_56, qri_56, qbh_56⟩
        clear qbh_56 qri_56 qac_56 qbs_56 qb_56 qp_56 qlen_56 pf6_56 pf4_56 pf3_56 pf2_56 pf1_56
        refine lv_pop hx hb dL_law_262 rfl ?_
        refine lv_aload_n hx hb dL_law_263 rfl (lv_at hl 2 rfl) ?_
        refine lawM_i (va_runV (As := []) (rest := []) ⟨hx, hb, hml, hown, hts⟩ (c_X9_resume l dC dI b μ τ θ ξ ζ  hM.1 hM.2.1 hM.2.2.1 hM.2.2.2.1 hM.2.2.2.2.1 hM.2.2.2.2.2.1 hM.2.2.2.2.2.2.1 hM.2.2.2.2.2.2.2.1 hM.2.2.2.2.2.2.2.2.1 hM.2.2.2.2.2.2.2.2.2.1 hM.2.2.2.2.2.2.2.2.2.2.1 hM.2.2.2.2.2.2.2.2.2.2.2.1 hM.2.2.2.2.2.2.2.2.2.2.2.2.1 hM.2.2.2.2.2.2.2.2.2.2.2.2.2.1 hM.2.2.2.2.2.2.2.2.2.2.2.2.2.2.1 hM.2.2.2.2.2.2.2.2.2.2.2.2.2.2.2.1 hM.2.2.2.2.2.2.2.2.2.2.2.2.2.2.2.2.1 hM.2.2.2.2.2.2.2.2.2.2.2.2.2.2.2.2.2) (cwV 0 hts gL_law_X9_resume rfl rfl rfl ⟨rfl, hd_X9_resume⟩ ⟨Nat.le_of_ble_eq_true rfl, Nat.le_of_ble_eq_true rfl⟩) (lawPreM hPm hKm hIm hN (va_recv hKm hPm (ci := 9) (q0 := 0) rfl rfl)) rfl rfl hl.1 rfl (lv_room (Nat.le_of_ble_eq_true rfl)) dL_law_264 ⟨hcl, hsl⟩) hS hAm hPc hdis ?_
        clear hPc hPm hS; intro r_57 S_57 F_57 G_57 P_57 H locs hw hPm hPc hS
        obtain ⟨s2_57, s1_57, s10_57, f6_57, s3_57, s4_57, s5_57, s6_57, s7_57, s8_57, s9_57, s11_57, s12_57, f7_57, f3_57, f4_57, f5_57, f1_57, f2_57, s13_57, s14_57, f8_57, f9_57, f10_57, f11_57, s16_57, s17_57, s18_57, rfl, rfl, pf3_57, pf4_57, pf5_57, pf1_57, pf2_57, pf8_57, pf9_57, pf11_57, qk_57, qm_57, qh_57, qf_57, qc_57, qA_57, qS_57, qac_57, qr_57⟩ := hw
        have hm_57 : MI (up (up (up (up (up (up (up (up (up (up (up (up (up (up (up (up (up τ 2 s2_57) 1 s1_57) 10 s10_57) 3 s3_57) 4 s4_57) 5 s5_57) 6 s6_57) 7 s7_57) 8 s8_57) 9 s9_57) 11 s11_57) 12 s12_57) 13 s13_57) 14 s14_57) 16 s16_57) 17 s17_57) 18 s18_57) (up (up (up (up (up (up (up (up (up (up (up θ 6 f6_57) 7 f7_57) 3 f3_57) 4 f4_57) 5 f5_57) 1 f1_57) 2 f2_57) 8 f8_57) 9 f9_57) 10 f10_57) 11 f11_57) := ⟨pf3_57, pf4_57, pf5_57, pf1_57, pf2_57, pf8_57, pf9_57, pf11_57, hM.2.2.2.2.2.2.2.2.1, qk_57, qm_57, qh_57, qf_57, qc_57, qA_57, qS_57, qac_57, qr_57⟩
        clear qr_57 qac_57 qS_57 qA_57 qc_57 qf_57 qh_57 qm_57 qk_57 pf11_57 pf9_57 pf8_57 pf2_57 pf1_57 pf5_57 pf4_57 pf3_57
        refine lv_pop hx hb dL_law_267 rfl ?_
        refine lv_goto (tgt := 587) hx hb dL_law_268 (by decide) ?_
        obtain ⟨i_58, ei_58⟩ : ∃ z : Int32, z = i + 6 := ⟨_, rfl⟩
        refine lv_iinc (v := i_58) (lv' := [(3, .int i_58), (0, .ref bs), (1, .ref (a 0)), (2, .ref (b 0))]) hx hb dL_law_587 hl (k := 3) rfl (by rw [ei_58]; rfl) (by decide) rfl ?_
        clear hl; intro ls hl
        have ti_58 : (Int32.toInt i_58) = (Int32.toInt i) + 6 := aI_add rfl L_6 ei_58 ⟨by have := rng i; have := rng z_2; omega, by have := rng i; have := rng z_2; omega⟩
        refine lv_goto (tgt := 18) hx hb dL_law_590 (by decide) ?_
        exact ih i_58 (up (up (up (up (up (up (up (up (up (up (up (up (up (up (up (up (up (up (up (up (up (up (up σ 19 s19_56) 20 s20_56) 21 s21_56) 22 s22_56) 23 s23_56) 11 s11_56) 12 s12_56) 13 s13_56) 14 s14_56) 15 s15_56) 1 s1_56) 2 s2_56) 3 s3_56) 4 s4_56) 5 s5_56) 6 s6_56) 7 s7_56) 8 s8_56) 9 s9_56) 10 s10_56) 16 s16_56) 17 s17_56) 18 s18_56) (up (up (up (up (up (up (up (up φ 1 f1_56) 2 f2_56) 3 f3_56) 4 f4_56) 5 f5_56) 6 f6_56) 7 f7_56) 8 f8_56) G_56 P_56 (up (up (up (up (up (up (up (up (up (up (up (up (up (up (up (up (up τ 2 s2_57) 1 s1_57) 10 s10_57) 3 s3_57) 4 s4_57) 5 s5_57) 6 s6_57) 7 s7_57) 8 s8_57) 9 s9_57) 11 s11_57) 12 s12_57) 13 s13_57) 14 s14_57) 16 s16_57) 17 s17_57) 18 s18_57) (up (up (up (up (up (up (up (up (up (up (up θ 6 f6_57) 7 f7_57) 3 f3_57) 4 f4_57) 5 f5_57) 1 f1_57) 2 f2_57) 8 f8_57) 9 f9_57) 10 f10_57) 11 f11_57) G_57 P_57 _ _ _ ⟨by omega, by omega⟩ (by omega) hc_56 hm_57 hPc hPm hS (lv_sub hl [1, 2, 3, 0] rfl)
      · refine lv_tableIn (off := 238) (tgt := 271) hx hb dL_law_33 (by omega) (by omega) (by rw [sw_6]; rfl) (by decide) ?_
        refine lv_aload_n hx hb dL_law_271 rfl (lv_at hl 1 rfl) ?_
        refine lawC_i (va_runV (As := []) (rest := []) ⟨hx, hb, hml, hown, hts⟩ (c_X8_drop l dC dI a κ σ φ γ ψ g1 g2  hC.2.2.2.2.2.2.2.2.2.1 hC.2.2.2.2.2.2.2.2.2.2.1 hC.2.2.2.2.2.2.2.2.2.2.2) (cwV 0 hts gL_law_X8_drop rfl rfl rfl ⟨rfl, hd_X8_drop⟩ ⟨Nat.le_of_ble_eq_true rfl, Nat.le_of_ble_eq_true rfl⟩) (lawPreC hPc hKc hIc hN hSt hAc hS (va_recv hKc hPc (ci := 8) (q0 := 0) rfl rfl)) rfl rfl hl.1 rfl (lv_room (Nat.le_of_ble_eq_true rfl)) dL_law_272 ⟨hcl, hsl⟩) hS hAc hPm hdis ?_
        clear hPc hPm hS; intro r_59 S_59 F_59 G_59 P_59 H locs hw hPc hPm hS
        obtain ⟨s19_59, s22_59, rfl, rfl, qac_59, qri_59, qbh_59⟩ := hw
        have hc_59 : CI (up (up σ 19 s19_59) 22 s22_59) φ := ⟨hC.1, hC.2.1, hC.2.2.1, hC.2.2.2.1, hC.2.2.2.2.1, hC.2.2.2.2.2.1, hC.2.2.2.2.2.2.1, hC.2.2.2.2.2.2.2.1, hC.2.2.2.2.2.2.2.2.1, qac_59, qri_59, qbh_59⟩
        clear qbh_59 qri_59 qac_59
        refine lv_pop hx hb dL_law_275 rfl ?_
        refine lv_aload_n hx hb dL_law_276 rfl (lv_at hl 2 rfl) ?_
        refine lawM_i (va_runV (As := []) (rest := []) ⟨hx, hb, hml, hown, hts⟩ (c_X9_drop l dC dI b μ τ θ ξ ζ  hM.2.2.2.2.2.2.2.2.2.2.2.2.2.2.2.2.1 hM.2.2.2.2.2.2.2.2.2.2.2.2.2.2.2.2.2) (cwV 0 hts gL_law_X9_drop rfl rfl rfl ⟨rfl, hd_X9_drop⟩ ⟨Nat.le_of_ble_eq_true rfl, Nat.le_of_ble_eq_true rfl⟩) (lawPreM hPm hKm hIm hN (va_recv hKm hPm (ci := 9) (q0 := 0) rfl rfl)) rfl rfl hl.1 rfl (lv_room (Nat.le_of_ble_eq_true rfl)) dL_law_277 ⟨hcl, hsl⟩) hS hAm hPc hdis ?_
        clear hPc hPm hS; intro r_60 S_60 F_60 G_60 P_60 H locs hw hPm hPc hS
        obtain ⟨s2_60, s17_60, rfl, rfl, qac_60, qr_60⟩ := hw
        have hm_60 : MI (up (up τ 2 s2_60) 17 s17_60) θ := ⟨hM.1, hM.2.1, hM.2.2.1, hM.2.2.2.1, hM.2.2.2.2.1, hM.2.2.2.2.2.1, hM.2.2.2.2.2.2.1, hM.2.2.2.2.2.2.2.1, hM.2.2.2.2.2.2.2.2.1, hM.2.2.2.2.2.2.2.2.2.1, hM.2.2.2.2.2.2.2.2.2.2.1, hM.2.2.2.2.2.2.2.2.2.2.2.1, hM.2.2.2.2.2.2.2.2.2.2.2.2.1, hM.2.2.2.2.2.2.2.2.2.2.2.2.2.1, hM.2.2.2.2.2.2.2.2.2.2.2.2.2.2.1, hM.2.2.2.2.2.2.2.2.2.2.2.2.2.2.2.1, qac_60, qr_60⟩
        clear qr_60 qac_60
        refine lv_pop hx hb dL_law_280 rfl ?_
        refine lv_goto (tgt := 587) hx hb dL_law_281 (by decide) ?_
        obtain ⟨i_61, ei_61⟩ : ∃ z : Int32, z = i + 6 := ⟨_, rfl⟩
        refine lv_iinc (v := i_61) (lv' := [(3, .int i_61), (0, .ref bs), (1, .ref (a 0)), (2, .ref (b 0))]) hx hb dL_law_587 hl (k := 3) rfl (by rw [ei_61]; rfl) (by decide) rfl ?_
        clear hl; intro ls hl
        have ti_61 : (Int32.toInt i_61) = (Int32.toInt i) + 6 := aI_add rfl L_6 ei_61 ⟨by have := rng i; have := rng z_2; omega, by have := rng i; have := rng z_2; omega⟩
        refine lv_goto (tgt := 18) hx hb dL_law_590 (by decide) ?_
        exact ih i_61 (up (up σ 19 s19_59) 22 s22_59) φ G_59 P_59 (up (up τ 2 s2_60) 17 s17_60) θ G_60 P_60 _ _ _ ⟨by omega, by omega⟩ (by omega) hc_59 hm_60 hPc hPm hS (lv_sub hl [1, 2, 3, 0] rfl)
      · refine lv_tableIn (off := 251) (tgt := 284) hx hb dL_law_33 (by omega) (by omega) (by rw [sw_6]; rfl) (by decide) ?_
        refine lv_aload_n hx hb dL_law_284 rfl (lv_at hl 1 rfl) ?_
        refine lawC_i (va_runV (As := []) (rest := []) ⟨hx, hb, hml, hown, hts⟩ (c_X8_failures l dC dI a κ σ φ γ ψ g1 g2  ) (cwV 0 hts gL_law_X8_failures rfl rfl rfl ⟨rfl, hd_X8_failures⟩ ⟨Nat.le_of_ble_eq_true rfl, Nat.le_of_ble_eq_true rfl⟩) (lawPreC hPc hKc hIc hN hSt hAc hS (va_recv hKc hPc (ci := 8) (q0 := 0) rfl rfl)) rfl rfl hl.1 rfl (lv_room (Nat.le_of_ble_eq_true rfl)) dL_law_285 ⟨hcl, hsl⟩) hS hAc hPm hdis ?_
        clear hPc hPm hS; intro r_62 S_62 F_62 G_62 P_62 H locs hw hPc hPm hS
        obtain ⟨rfl, rfl, -⟩ := hw
        refine lv_pop hx hb dL_law_288 rfl ?_
        refine lv_aload_n hx hb dL_law_289 rfl (lv_at hl 2 rfl) ?_
        refine lawM_i (va_runV (As := []) (rest := []) ⟨hx, hb, hml, hown, hts⟩ (c_X9_failures l dC dI b μ τ θ ξ ζ  ) (cwV 0 hts gL_law_X9_failures rfl rfl rfl ⟨rfl, hd_X9_failures⟩ ⟨Nat.le_of_ble_eq_true rfl, Nat.le_of_ble_eq_true rfl⟩) (lawPreM hPm hKm hIm hN (va_recv hKm hPm (ci := 9) (q0 := 0) rfl rfl)) rfl rfl hl.1 rfl (lv_room (Nat.le_of_ble_eq_true rfl)) dL_law_290 ⟨hcl, hsl⟩) hS hAm hPc hdis ?_
        clear hPc hPm hS; intro r_63 S_63 F_63 G_63 P_63 H locs hw hPm hPc hS
        obtain ⟨rfl, rfl, -⟩ := hw
        refine lv_pop hx hb dL_law_293 rfl ?_
        refine lv_goto (tgt := 587) hx hb dL_law_294 (by decide) ?_
        obtain ⟨i_64, ei_64⟩ : ∃ z : Int32, z = i + 6 := ⟨_, rfl⟩
        refine lv_iinc (v := i_64) (lv' := [(3, .int i_64), (0, .ref bs), (1, .ref (a 0)), (2, .ref (b 0))]) hx hb dL_law_587 hl (k := 3) rfl (by rw [ei_64]; rfl) (by decide) rfl ?_
        clear hl; intro ls hl
        have ti_64 : (Int32.toInt i_64) = (Int32.toInt i) + 6 := aI_add rfl L_6 ei_64 ⟨by have := rng i; have := rng z_2; omega, by have := rng i; have := rng z_2; omega⟩
        refine lv_goto (tgt := 18) hx hb dL_law_590 (by decide) ?_
        exact ih i_64 σ φ G_62 P_62 τ θ G_63 P_63 _ _ _ ⟨by omega, by omega⟩ (by omega) hC hM hPc hPm hS (lv_sub hl [1, 2, 3, 0] rfl)
      · refine lv_tableIn (off := 264) (tgt := 297) hx hb dL_law_33 (by omega) (by omega) (by rw [sw_6]; rfl) (by decide) ?_
        refine lv_aload_n hx hb dL_law_297 rfl (lv_at hl 1 rfl) ?_
        refine lv_aload_n hx hb dL_law_298 rfl (lv_at hl 0 rfl) ?_
        refine lv_iload_n hx hb dL_law_299 rfl (lv_at hl 3 rfl) ?_
        refine lv_iconst (v := 1) hx hb dL_law_300 (by decide) ?_
        refine lv_iadd hx hb dL_law_301 ?_
        refine lv_topi (fun z_65 ez_65 => ?_)
        have tz_65 : (Int32.toInt z_65) = (Int32.toInt i) + 1 := aI_add rfl L_1 ez_65 ⟨by have := rng i; omega, by have := rng i; omega⟩
        refine va_sld hx hb hX hbl hbA hS (i := z_65) (vin rfl ⟨by omega, by omega⟩) dL_law_302 ?_
        refine lv_topi (fun z_66 ez_66 => ?_)
        refine lv_aload_n hx hb dL_law_303 rfl (lv_at hl 0 rfl) ?_
        refine lv_iload_n hx hb dL_law_304 rfl (lv_at hl 3 rfl) ?_
        refine lv_iconst (v := 2) hx hb dL_law_305 (by decide) ?_
        refine lv_iadd hx hb dL_law_306 ?_
        refine lv_topi (fun z_67 ez_67 => ?_)
        have tz_67 : (Int32.toInt z_67) = (Int32.toInt i) + 2 := aI_add rfl L_2 ez_67 ⟨by have := rng i; omega, by have := rng i; omega⟩
        refine va_sld hx hb hX hbl hbA hS (i := z_67) (vin rfl ⟨by omega, by omega⟩) dL_law_307 ?_
        refine lv_topi (fun z_68 ez_68 => ?_)
        refine lawC_i (va_runV (As := [.int z_66, .int z_68]) (rest := []) ⟨hx, hb, hml, hown, hts⟩ (c_X8_failure l dC dI a κ σ φ γ ψ g1 g2 z_66 z_68 ) (cwV 2 hts gL_law_X8_failure rfl rfl rfl ⟨rfl, hd_X8_failure⟩ ⟨Nat.le_of_ble_eq_true rfl, Nat.le_of_ble_eq_true rfl⟩) (lawPreC hPc hKc hIc hN hSt hAc hS (va_recv hKc hPc (ci := 8) (q0 := 0) rfl rfl)) rfl rfl hl.1 rfl (lv_room (Nat.le_of_ble_eq_true rfl)) dL_law_308 ⟨hcl, hsl⟩) hS hAc hPm hdis ?_
        clear hPc hPm hS; intro r_69 S_69 F_69 G_69 P_69 H locs hw hPc hPm hS
        obtain ⟨rfl, rfl, -⟩ := hw
        refine lv_pop hx hb dL_law_311 rfl ?_
        refine lv_aload_n hx hb dL_law_312 rfl (lv_at hl 2 rfl) ?_
        refine lv_aload_n hx hb dL_law_313 rfl (lv_at hl 0 rfl) ?_
        refine lv_iload_n hx hb dL_law_314 rfl (lv_at hl 3 rfl) ?_
        refine lv_iconst (v := 1) hx hb dL_law_315 (by decide) ?_
        refine lv_iadd hx hb dL_law_316 ?_
        refine lv_topi (fun z_70 ez_70 => ?_)
        have tz_70 : (Int32.toInt z_70) = (Int32.toInt i) + 1 := aI_add rfl L_1 ez_70 ⟨by have := rng i; omega, by have := rng i; omega⟩
        refine va_sld hx hb hX hbl hbA hS (i := z_70) (vin rfl ⟨by omega, by omega⟩) dL_law_317 ?_
        refine lv_topi (fun z_71 ez_71 => ?_)
        refine lv_aload_n hx hb dL_law_318 rfl (lv_at hl 0 rfl) ?_
        refine lv_iload_n hx hb dL_law_319 rfl (lv_at hl 3 rfl) ?_
        refine lv_iconst (v := 2) hx hb dL_law_320 (by decide) ?_
        refine lv_iadd hx hb dL_law_321 ?_
        refine lv_topi (fun z_72 ez_72 => ?_)
        have tz_72 : (Int32.toInt z_72) = (Int32.toInt i) + 2 := aI_add rfl L_2 ez_72 ⟨by have := rng i; omega, by have := rng i; omega⟩
        refine va_sld hx hb hX hbl hbA hS (i := z_72) (vin rfl ⟨by omega, by omega⟩) dL_law_322 ?_
        refine lv_topi (fun z_73 ez_73 => ?_)
        refine lawM_i (va_runV (As := [.int z_71, .int z_73]) (rest := []) ⟨hx, hb, hml, hown, hts⟩ (c_X9_failure l dC dI b μ τ θ ξ ζ z_71 z_73 ) (cwV 2 hts gL_law_X9_failure rfl rfl rfl ⟨rfl, hd_X9_failure⟩ ⟨Nat.le_of_ble_eq_true rfl, Nat.le_of_ble_eq_true rfl⟩) (lawPreM hPm hKm hIm hN (va_recv hKm hPm (ci := 9) (q0 := 0) rfl rfl)) rfl rfl hl.1 rfl (lv_room (Nat.le_of_ble_eq_true rfl)) dL_law_323 ⟨hcl, hsl⟩) hS hAm hPc hdis ?_
        clear hPc hPm hS; intro r_74 S_74 F_74 G_74 P_74 H locs hw hPm hPc hS
        obtain ⟨rfl, rfl, -⟩ := hw
        refine lv_pop hx hb dL_law_326 rfl ?_
        refine lv_goto (tgt := 587) hx hb dL_law_327 (by decide) ?_
        obtain ⟨i_75, ei_75⟩ : ∃ z : Int32, z = i + 6 := ⟨_, rfl⟩
        refine lv_iinc (v := i_75) (lv' := [(3, .int i_75), (0, .ref bs), (1, .ref (a 0)), (2, .ref (b 0))]) hx hb dL_law_587 hl (k := 3) rfl (by rw [ei_75]; rfl) (by decide) rfl ?_
        clear hl; intro ls hl
        have ti_75 : (Int32.toInt i_75) = (Int32.toInt i) + 6 := aI_add rfl L_6 ei_75 ⟨by have := rng i; have := rng z_2; omega, by have := rng i; have := rng z_2; omega⟩
        refine lv_goto (tgt := 18) hx hb dL_law_590 (by decide) ?_
        exact ih i_75 σ φ G_69 P_69 τ θ G_74 P_74 _ _ _ ⟨by omega, by omega⟩ (by omega) hC hM hPc hPm hS (lv_sub hl [1, 2, 3, 0] rfl)
      · refine lv_tableIn (off := 297) (tgt := 330) hx hb dL_law_33 (by omega) (by omega) (by rw [sw_6]; rfl) (by decide) ?_
        refine lv_aload_n hx hb dL_law_330 rfl (lv_at hl 1 rfl) ?_
        refine lv_aload_n hx hb dL_law_331 rfl (lv_at hl 0 rfl) ?_
        refine lv_iload_n hx hb dL_law_332 rfl (lv_at hl 3 rfl) ?_
        refine lv_iconst (v := 1) hx hb dL_law_333 (by decide) ?_
        refine lv_iadd hx hb dL_law_334 ?_
        refine lv_topi (fun z_76 ez_76 => ?_)
        have tz_76 : (Int32.toInt z_76) = (Int32.toInt i) + 1 := aI_add rfl L_1 ez_76 ⟨by have := rng i; omega, by have := rng i; omega⟩
        refine va_sld hx hb hX hbl hbA hS (i := z_76) (vin rfl ⟨by omega, by omega⟩) dL_law_335 ?_
        refine lv_topi (fun z_77 ez_77 => ?_)
        refine lawC_i (va_runV (As := [.int z_77]) (rest := []) ⟨hx, hb, hml, hown, hts⟩ (c_X8_many l dC dI a κ σ φ γ ψ g1 g2 z_77 ) (cwV 1 hts gL_law_X8_many rfl rfl rfl ⟨rfl, hd_X8_many⟩ ⟨Nat.le_of_ble_eq_true rfl, Nat.le_of_ble_eq_true rfl⟩) (lawPreC hPc hKc hIc hN hSt hAc hS (va_recv hKc hPc (ci := 8) (q0 := 0) rfl rfl)) rfl rfl hl.1 rfl (lv_room (Nat.le_of_ble_eq_true rfl)) dL_law_336 ⟨hcl, hsl⟩) hS hAc hPm hdis ?_
        clear hPc hPm hS; intro r_78 S_78 F_78 G_78 P_78 H locs hw hPc hPm hS
        obtain ⟨rfl, rfl, -⟩ := hw
        refine lv_pop hx hb dL_law_339 rfl ?_
        refine lv_aload_n hx hb dL_law_340 rfl (lv_at hl 2 rfl) ?_
        refine lv_aload_n hx hb dL_law_341 rfl (lv_at hl 0 rfl) ?_
        refine lv_iload_n hx hb dL_law_342 rfl (lv_at hl 3 rfl) ?_
        refine lv_iconst (v := 1) hx hb dL_law_343 (by decide) ?_
        refine lv_iadd hx hb dL_law_344 ?_
        refine lv_topi (fun z_79 ez_79 => ?_)
        have tz_79 : (Int32.toInt z_79) = (Int32.toInt i) + 1 := aI_add rfl L_1 ez_79 ⟨by have := rng i; omega, by have := rng i; omega⟩
        refine va_sld hx hb hX hbl hbA hS (i := z_79) (vin rfl ⟨by omega, by omega⟩) dL_law_345 ?_
        refine lv_topi (fun z_80 ez_80 => ?_)
        refine lawM_i (va_runV (As := [.int z_80]) (rest := []) ⟨hx, hb, hml, hown, hts⟩ (c_X9_many l dC dI b μ τ θ ξ ζ z_80 ) (cwV 1 hts gL_law_X9_many rfl rfl rfl ⟨rfl, hd_X9_many⟩ ⟨Nat.le_of_ble_eq_true rfl, Nat.le_of_ble_eq_true rfl⟩) (lawPreM hPm hKm hIm hN (va_recv hKm hPm (ci := 9) (q0 := 0) rfl rfl)) rfl rfl hl.1 rfl (lv_room (Nat.le_of_ble_eq_true rfl)) dL_law_346 ⟨hcl, hsl⟩) hS hAm hPc hdis ?_
        clear hPc hPm hS; intro r_81 S_81 F_81 G_81 P_81 H locs hw hPm hPc hS
        obtain ⟨rfl, rfl, -⟩ := hw
        refine lv_pop hx hb dL_law_349 rfl ?_
        refine lv_goto (tgt := 587) hx hb dL_law_350 (by decide) ?_
        obtain ⟨i_82, ei_82⟩ : ∃ z : Int32, z = i + 6 := ⟨_, rfl⟩
        refine lv_iinc (v := i_82) (lv' := [(3, .int i_82), (0, .ref bs), (1, .ref (a 0)), (2, .ref (b 0))]) hx hb dL_law_587 hl (k := 3) rfl (by rw [ei_82]; rfl) (by decide) rfl ?_
        clear hl; intro ls hl
        have ti_82 : (Int32.toInt i_82) = (Int32.toInt i) + 6 := aI_add rfl L_6 ei_82 ⟨by have := rng i; have := rng z_2; omega, by have := rng i; have := rng z_2; omega⟩
        refine lv_goto (tgt := 18) hx hb dL_law_590 (by decide) ?_
        exact ih i_82 σ φ G_78 P_78 τ θ G_81 P_81 _ _ _ ⟨by omega, by omega⟩ (by omega) hC hM hPc hPm hS (lv_sub hl [1, 2, 3, 0] rfl)
      · refine lv_tableIn (off := 320) (tgt := 353) hx hb dL_law_33 (by omega) (by omega) (by rw [sw_6]; rfl) (by decide) ?_
        refine lv_aload_n hx hb dL_law_353 rfl (lv_at hl 1 rfl) ?_
        refine lv_aload_n hx hb dL_law_354 rfl (lv_at hl 0 rfl) ?_
        refine lv_iload_n hx hb dL_law_355 rfl (lv_at hl 3 rfl) ?_
        refine lv_iconst (v := 1) hx hb dL_law_356 (by decide) ?_
        refine lv_iadd hx hb dL_law_357 ?_
        refine lv_topi (fun z_83 ez_83 => ?_)
        have tz_83 : (Int32.toInt z_83) = (Int32.toInt i) + 1 := aI_add rfl L_1 ez_83 ⟨by have := rng i; omega, by have := rng i; omega⟩
        refine va_sld hx hb hX hbl hbA hS (i := z_83) (vin rfl ⟨by omega, by omega⟩) dL_law_358 ?_
        refine lv_topi (fun z_84 ez_84 => ?_)
        refine lawC_i (va_runV (As := [.int z_84]) (rest := []) ⟨hx, hb, hml, hown, hts⟩ (c_X8_depth l dC dI a κ σ φ γ ψ g1 g2 z_84 ) (cwV 1 hts gL_law_X8_depth rfl rfl rfl ⟨rfl, hd_X8_depth⟩ ⟨Nat.le_of_ble_eq_true rfl, Nat.le_of_ble_eq_true rfl⟩) (lawPreC hPc hKc hIc hN hSt hAc hS (va_recv hKc hPc (ci := 8) (q0 := 0) rfl rfl)) rfl rfl hl.1 rfl (lv_room (Nat.le_of_ble_eq_true rfl)) dL_law_359 ⟨hcl, hsl⟩) hS hAc hPm hdis ?_
        clear hPc hPm hS; intro r_85 S_85 F_85 G_85 P_85 H locs hw hPc hPm hS
        obtain ⟨rfl, rfl, -⟩ := hw
        refine lv_pop hx hb dL_law_362 rfl ?_
        refine lv_aload_n hx hb dL_law_363 rfl (lv_at hl 2 rfl) ?_
        refine lv_aload_n hx hb dL_law_364 rfl (lv_at hl 0 rfl) ?_
        refine lv_iload_n hx hb dL_law_365 rfl (lv_at hl 3 rfl) ?_
        refine lv_iconst (v := 1) hx hb dL_law_366 (by decide) ?_
        refine lv_iadd hx hb dL_law_367 ?_
        refine lv_topi (fun z_86 ez_86 => ?_)
        have tz_86 : (Int32.toInt z_86) = (Int32.toInt i) + 1 := aI_add rfl L_1 ez_86 ⟨by have := rng i; omega, by have := rng i; omega⟩
        refine va_sld hx hb hX hbl hbA hS (i := z_86) (vin rfl ⟨by omega, by omega⟩) dL_law_368 ?_
        refine lv_topi (fun z_87 ez_87 => ?_)
        refine lawM_i (va_runV (As := [.int z_87]) (rest := []) ⟨hx, hb, hml, hown, hts⟩ (c_X9_depth l dC dI b μ τ θ ξ ζ z_87 hM.2.2.2.2.2.2.2.2.2.2.2.2.2.1) (cwV 1 hts gL_law_X9_depth rfl rfl rfl ⟨rfl, hd_X9_depth⟩ ⟨Nat.le_of_ble_eq_true rfl, Nat.le_of_ble_eq_true rfl⟩) (lawPreM hPm hKm hIm hN (va_recv hKm hPm (ci := 9) (q0 := 0) rfl rfl)) rfl rfl hl.1 rfl (lv_room (Nat.le_of_ble_eq_true rfl)) dL_law_369 ⟨hcl, hsl⟩) hS hAm hPc hdis ?_
        clear hPc hPm hS; intro r_88 S_88 F_88 G_88 P_88 H locs hw hPm hPc hS
        obtain ⟨rfl, rfl, -⟩ := hw
        refine lv_pop hx hb dL_law_372 rfl ?_
        refine lv_goto (tgt := 587) hx hb dL_law_373 (by decide) ?_
        obtain ⟨i_89, ei_89⟩ : ∃ z : Int32, z = i + 6 := ⟨_, rfl⟩
        refine lv_iinc (v := i_89) (lv' := [(3, .int i_89), (0, .ref bs), (1, .ref (a 0)), (2, .ref (b 0))]) hx hb dL_law_587 hl (k := 3) rfl (by rw [ei_89]; rfl) (by decide) rfl ?_
        clear hl; intro ls hl
        have ti_89 : (Int32.toInt i_89) = (Int32.toInt i) + 6 := aI_add rfl L_6 ei_89 ⟨by have := rng i; have := rng z_2; omega, by have := rng i; have := rng z_2; omega⟩
        refine lv_goto (tgt := 18) hx hb dL_law_590 (by decide) ?_
        exact ih i_89 σ φ G_85 P_85 τ θ G_88 P_88 _ _ _ ⟨by omega, by omega⟩ (by omega) hC hM hPc hPm hS (lv_sub hl [1, 2, 3, 0] rfl)
      · refine lv_tableIn (off := 343) (tgt := 376) hx hb dL_law_33 (by omega) (by omega) (by rw [sw_6]; rfl) (by decide) ?_
        refine lv_aload_n hx hb dL_law_376 rfl (lv_at hl 1 rfl) ?_
        refine lv_aload_n hx hb dL_law_377 rfl (lv_at hl 0 rfl) ?_
        refine lv_iload_n hx hb dL_law_378 rfl (lv_at hl 3 rfl) ?_
        refine lv_iconst (v := 1) hx hb dL_law_379 (by decide) ?_
        refine lv_iadd hx hb dL_law_380 ?_
        refine lv_topi (fun z_90 ez_90 => ?_)
        have tz_90 : (Int32.toInt z_90) = (Int32.toInt i) + 1 := aI_add rfl L_1 ez_90 ⟨by have := rng i; omega, by have := rng i; omega⟩
        refine va_sld hx hb hX hbl hbA hS (i := z_90) (vin rfl ⟨by omega, by omega⟩) dL_law_381 ?_
        refine lv_topi (fun z_91 ez_91 => ?_)
        refine lawC_i (va_runV (As := [.int z_91]) (rest := []) ⟨hx, hb, hml, hown, hts⟩ (c_X8_sheet l dC dI a κ σ φ γ ψ g1 g2 z_91 ) (cwV 1 hts gL_law_X8_sheet rfl rfl rfl ⟨rfl, hd_X8_sheet⟩ ⟨Nat.le_of_ble_eq_true rfl, Nat.le_of_ble_eq_true rfl⟩) (lawPreC hPc hKc hIc hN hSt hAc hS (va_recv hKc hPc (ci := 8) (q0 := 0) rfl rfl)) rfl rfl hl.1 rfl (lv_room (Nat.le_of_ble_eq_true rfl)) dL_law_382 ⟨hcl, hsl⟩) hS hAc hPm hdis ?_
        clear hPc hPm hS; intro r_92 S_92 F_92 G_92 P_92 H locs hw hPc hPm hS
        obtain ⟨rfl, rfl, -⟩ := hw
        refine lv_pop hx hb dL_law_385 rfl ?_
        refine lv_aload_n hx hb dL_law_386 rfl (lv_at hl 2 rfl) ?_
        refine lv_aload_n hx hb dL_law_387 rfl (lv_at hl 0 rfl) ?_
        refine lv_iload_n hx hb dL_law_388 rfl (lv_at hl 3 rfl) ?_
        refine lv_iconst (v := 1) hx hb dL_law_389 (by decide) ?_
        refine lv_iadd hx hb dL_law_390 ?_
        refine lv_topi (fun z_93 ez_93 => ?_)
        have tz_93 : (Int32.toInt z_93) = (Int32.toInt i) + 1 := aI_add rfl L_1 ez_93 ⟨by have := rng i; omega, by have := rng i; omega⟩
        refine va_sld hx hb hX hbl hbA hS (i := z_93) (vin rfl ⟨by omega, by omega⟩) dL_law_391 ?_
        refine lv_topi (fun z_94 ez_94 => ?_)
        refine lawM_i (va_runV (As := [.int z_94]) (rest := []) ⟨hx, hb, hml, hown, hts⟩ (c_X9_sheet l dC dI b μ τ θ ξ ζ z_94 hM.2.2.2.2.1 hM.2.2.2.2.2.2.2.2.2.2.2.1) (cwV 1 hts gL_law_X9_sheet rfl rfl rfl ⟨rfl, hd_X9_sheet⟩ ⟨Nat.le_of_ble_eq_true rfl, Nat.le_of_ble_eq_true rfl⟩) (lawPreM hPm hKm hIm hN (va_recv hKm hPm (ci := 9) (q0 := 0) rfl rfl)) rfl rfl hl.1 rfl (lv_room (Nat.le_of_ble_eq_true rfl)) dL_law_392 ⟨hcl, hsl⟩) hS hAm hPc hdis ?_
        clear hPc hPm hS; intro r_95 S_95 F_95 G_95 P_95 H locs hw hPm hPc hS
        obtain ⟨rfl, rfl, -⟩ := hw
        refine lv_pop hx hb dL_law_395 rfl ?_
        refine lv_goto (tgt := 587) hx hb dL_law_396 (by decide) ?_
        obtain ⟨i_96, ei_96⟩ : ∃ z : Int32, z = i + 6 := ⟨_, rfl⟩
        refine lv_iinc (v := i_96) (lv' := [(3, .int i_96), (0, .ref bs), (1, .ref (a 0)), (2, .ref (b 0))]) hx hb dL_law_587 hl (k := 3) rfl (by rw [ei_96]; rfl) (by decide) rfl ?_
        clear hl; intro ls hl
        have ti_96 : (Int32.toInt i_96) = (Int32.toInt i) + 6 := aI_add rfl L_6 ei_96 ⟨by have := rng i; have := rng z_2; omega, by have := rng i; have := rng z_2; omega⟩
        refine lv_goto (tgt := 18) hx hb dL_law_590 (by decide) ?_
        exact ih i_96 σ φ G_92 P_92 τ θ G_95 P_95 _ _ _ ⟨by omega, by omega⟩ (by omega) hC hM hPc hPm hS (lv_sub hl [1, 2, 3, 0] rfl)
      · refine lv_tableIn (off := 366) (tgt := 399) hx hb dL_law_33 (by omega) (by omega) (by rw [sw_6]; rfl) (by decide) ?_
        refine lv_aload_n hx hb dL_law_399 rfl (lv_at hl 1 rfl) ?_
        refine lv_aload_n hx hb dL_law_400 rfl (lv_at hl 0 rfl) ?_
        refine lv_iload_n hx hb dL_law_401 rfl (lv_at hl 3 rfl) ?_
        refine lv_iconst (v := 1) hx hb dL_law_402 (by decide) ?_
        refine lv_iadd hx hb dL_law_403 ?_
        refine lv_topi (fun z_97 ez_97 => ?_)
        have tz_97 : (Int32.toInt z_97) = (Int32.toInt i) + 1 := aI_add rfl L_1 ez_97 ⟨by have := rng i; omega, by have := rng i; omega⟩
        refine va_sld hx hb hX hbl hbA hS (i := z_97) (vin rfl ⟨by omega, by omega⟩) dL_law_404 ?_
        refine lv_topi (fun z_98 ez_98 => ?_)
        refine lawC_i (va_runV (As := [.int z_98]) (rest := []) ⟨hx, hb, hml, hown, hts⟩ (c_X8_sum l dC dI a κ σ φ γ ψ g1 g2 z_98 ) (cwV 1 hts gL_law_X8_sum rfl rfl rfl ⟨rfl, hd_X8_sum⟩ ⟨Nat.le_of_ble_eq_true rfl, Nat.le_of_ble_eq_true rfl⟩) (lawPreC hPc hKc hIc hN hSt hAc hS (va_recv hKc hPc (ci := 8) (q0 := 0) rfl rfl)) rfl rfl hl.1 rfl (lv_room (Nat.le_of_ble_eq_true rfl)) dL_law_405 ⟨hcl, hsl⟩) hS hAc hPm hdis ?_
        clear hPc hPm hS; intro r_99 S_99 F_99 G_99 P_99 H locs hw hPc hPm hS
        obtain ⟨rfl, rfl, -⟩ := hw
        refine lv_pop hx hb dL_law_408 rfl ?_
        refine lv_aload_n hx hb dL_law_409 rfl (lv_at hl 2 rfl) ?_
        refine lv_aload_n hx hb dL_law_410 rfl (lv_at hl 0 rfl) ?_
        refine lv_iload_n hx hb dL_law_411 rfl (lv_at hl 3 rfl) ?_
        refine lv_iconst (v := 1) hx hb dL_law_412 (by decide) ?_
        refine lv_iadd hx hb dL_law_413 ?_
        refine lv_topi (fun z_100 ez_100 => ?_)
        have tz_100 : (Int32.toInt z_100) = (Int32.toInt i) + 1 := aI_add rfl L_1 ez_100 ⟨by have := rng i; omega, by have := rng i; omega⟩
        refine va_sld hx hb hX hbl hbA hS (i := z_100) (vin rfl ⟨by omega, by omega⟩) dL_law_414 ?_
        refine lv_topi (fun z_101 ez_101 => ?_)
        refine lawM_i (va_runV (As := [.int z_101]) (rest := []) ⟨hx, hb, hml, hown, hts⟩ (c_X9_sum l dC dI b μ τ θ ξ ζ z_101 hM.2.2.2.2.2.2.2.2.2.1) (cwV 1 hts gL_law_X9_sum rfl rfl rfl ⟨rfl, hd_X9_sum⟩ ⟨Nat.le_of_ble_eq_true rfl, Nat.le_of_ble_eq_true rfl⟩) (lawPreM hPm hKm hIm hN (va_recv hKm hPm (ci := 9) (q0 := 0) rfl rfl)) rfl rfl hl.1 rfl (lv_room (Nat.le_of_ble_eq_true rfl)) dL_law_415 ⟨hcl, hsl⟩) hS hAm hPc hdis ?_
        clear hPc hPm hS; intro r_102 S_102 F_102 G_102 P_102 H locs hw hPm hPc hS
        obtain ⟨rfl, rfl, qa_102, qb_102⟩ := hw
        refine lv_pop hx hb dL_law_418 rfl ?_
        refine lv_goto (tgt := 587) hx hb dL_law_419 (by decide) ?_
        obtain ⟨i_103, ei_103⟩ : ∃ z : Int32, z = i + 6 := ⟨_, rfl⟩
        refine lv_iinc (v := i_103) (lv' := [(3, .int i_103), (0, .ref bs), (1, .ref (a 0)), (2, .ref (b 0))]) hx hb dL_law_587 hl (k := 3) rfl (by rw [ei_103]; rfl) (by decide) rfl ?_
        clear hl; intro ls hl
        have ti_103 : (Int32.toInt i_103) = (Int32.toInt i) + 6 := aI_add rfl L_6 ei_103 ⟨by have := rng i; have := rng z_2; omega, by have := rng i; have := rng z_2; omega⟩
        refine lv_goto (tgt := 18) hx hb dL_law_590 (by decide) ?_
        exact ih i_103 σ φ G_99 P_99 τ θ G_102 P_102 _ _ _ ⟨by omega, by omega⟩ (by omega) hC hM hPc hPm hS (lv_sub hl [1, 2, 3, 0] rfl)
      · refine lv_tableIn (off := 389) (tgt := 422) hx hb dL_law_33 (by omega) (by omega) (by rw [sw_6]; rfl) (by decide) ?_
        refine lv_aload_n hx hb dL_law_422 rfl (lv_at hl 1 rfl) ?_
        refine lv_aload_n hx hb dL_law_423 rfl (lv_at hl 0 rfl) ?_
        refine lv_iload_n hx hb dL_law_424 rfl (lv_at hl 3 rfl) ?_
        refine lv_iconst (v := 1) hx hb dL_law_425 (by decide) ?_
        refine lv_iadd hx hb dL_law_426 ?_
        refine lv_topi (fun z_104 ez_104 => ?_)
        have tz_104 : (Int32.toInt z_104) = (Int32.toInt i) + 1 := aI_add rfl L_1 ez_104 ⟨by have := rng i; omega, by have := rng i; omega⟩
        refine va_sld hx hb hX hbl hbA hS (i := z_104) (vin rfl ⟨by omega, by omega⟩) dL_law_427 ?_
        refine lv_topi (fun z_105 ez_105 => ?_)
        refine lv_aload_n hx hb dL_law_428 rfl (lv_at hl 0 rfl) ?_
        refine lv_iload_n hx hb dL_law_429 rfl (lv_at hl 3 rfl) ?_
        refine lv_iconst (v := 2) hx hb dL_law_430 (by decide) ?_
        refine lv_iadd hx hb dL_law_431 ?_
        refine lv_topi (fun z_106 ez_106 => ?_)
        have tz_106 : (Int32.toInt z_106) = (Int32.toInt i) + 2 := aI_add rfl L_2 ez_106 ⟨by have := rng i; omega, by have := rng i; omega⟩
        refine va_sld hx hb hX hbl hbA hS (i := z_106) (vin rfl ⟨by omega, by omega⟩) dL_law_432 ?_
        refine lv_topi (fun z_107 ez_107 => ?_)
        refine lawC_i (va_runV (As := [.int z_105, .int z_107]) (rest := []) ⟨hx, hb, hml, hown, hts⟩ (c_X8_house l dC dI a κ σ φ γ ψ g1 g2 z_105 z_107 hC.2.2.2.2.2.2.2.1) (cwV 2 hts gL_law_X8_house rfl rfl rfl ⟨rfl, hd_X8_house⟩ ⟨Nat.le_of_ble_eq_true rfl, Nat.le_of_ble_eq_true rfl⟩) (lawPreC hPc hKc hIc hN hSt hAc hS (va_recv hKc hPc (ci := 8) (q0 := 0) rfl rfl)) rfl rfl hl.1 rfl (lv_room (Nat.le_of_ble_eq_true rfl)) dL_law_433 ⟨hcl, hsl⟩) hS hAc hPm hdis ?_
        clear hPc hPm hS; intro r_108 S_108 F_108 G_108 P_108 H locs hw hPc hPm hS
        obtain ⟨rfl, rfl, -⟩ := hw
        refine lv_pop hx hb dL_law_436 rfl ?_
        refine lv_aload_n hx hb dL_law_437 rfl (lv_at hl 2 rfl) ?_
        refine lv_aload_n hx hb dL_law_438 rfl (lv_at hl 0 rfl) ?_
        refine lv_iload_n hx hb dL_law_439 rfl (lv_at hl 3 rfl) ?_
        refine lv_iconst (v := 1) hx hb dL_law_440 (by decide) ?_
        refine lv_iadd hx hb dL_law_441 ?_
        refine lv_topi (fun z_109 ez_109 => ?_)
        have tz_109 : (Int32.toInt z_109) = (Int32.toInt i) + 1 := aI_add rfl L_1 ez_109 ⟨by have := rng i; omega, by have := rng i; omega⟩
        refine va_sld hx hb hX hbl hbA hS (i := z_109) (vin rfl ⟨by omega, by omega⟩) dL_law_442 ?_
        refine lv_topi (fun z_110 ez_110 => ?_)
        refine lv_aload_n hx hb dL_law_443 rfl (lv_at hl 0 rfl) ?_
        refine lv_iload_n hx hb dL_law_444 rfl (lv_at hl 3 rfl) ?_
        refine lv_iconst (v := 2) hx hb dL_law_445 (by decide) ?_
        refine lv_iadd hx hb dL_law_446 ?_
        refine lv_topi (fun z_111 ez_111 => ?_)
        have tz_111 : (Int32.toInt z_111) = (Int32.toInt i) + 2 := aI_add rfl L_2 ez_111 ⟨by have := rng i; omega, by have := rng i; omega⟩
        refine va_sld hx hb hX hbl hbA hS (i := z_111) (vin rfl ⟨by omega, by omega⟩) dL_law_447 ?_
        refine lv_topi (fun z_112 ez_112 => ?_)
        refine lawM_i (va_runV (As := [.int z_110, .int z_112]) (rest := []) ⟨hx, hb, hml, hown, hts⟩ (c_X9_house l dC dI b μ τ θ ξ ζ z_110 z_112 hM.2.2.2.2.2.2.2.2.2.1) (cwV 2 hts gL_law_X9_house rfl rfl rfl ⟨rfl, hd_X9_house⟩ ⟨Nat.le_of_ble_eq_true rfl, Nat.le_of_ble_eq_true rfl⟩) (lawPreM hPm hKm hIm hN (va_recv hKm hPm (ci := 9) (q0 := 0) rfl rfl)) rfl rfl hl.1 rfl (lv_room (Nat.le_of_ble_eq_true rfl)) dL_law_448 ⟨hcl, hsl⟩) hS hAm hPc hdis ?_
        clear hPc hPm hS; intro r_113 S_113 F_113 G_113 P_113 H locs hw hPm hPc hS
        obtain ⟨rfl, rfl, -⟩ := hw
        refine lv_pop hx hb dL_law_451 rfl ?_
        refine lv_goto (tgt := 587) hx hb dL_law_452 (by decide) ?_
        obtain ⟨i_114, ei_114⟩ : ∃ z : Int32, z = i + 6 := ⟨_, rfl⟩
        refine lv_iinc (v := i_114) (lv' := [(3, .int i_114), (0, .ref bs), (1, .ref (a 0)), (2, .ref (b 0))]) hx hb dL_law_587 hl (k := 3) rfl (by rw [ei_114]; rfl) (by decide) rfl ?_
        clear hl; intro ls hl
        have ti_114 : (Int32.toInt i_114) = (Int32.toInt i) + 6 := aI_add rfl L_6 ei_114 ⟨by have := rng i; have := rng z_2; omega, by have := rng i; have := rng z_2; omega⟩
        refine lv_goto (tgt := 18) hx hb dL_law_590 (by decide) ?_
        exact ih i_114 σ φ G_108 P_108 τ θ G_113 P_113 _ _ _ ⟨by omega, by omega⟩ (by omega) hC hM hPc hPm hS (lv_sub hl [1, 2, 3, 0] rfl)
      · refine lv_tableIn (off := 422) (tgt := 455) hx hb dL_law_33 (by omega) (by omega) (by rw [sw_6]; rfl) (by decide) ?_
        refine lv_aload_n hx hb dL_law_455 rfl (lv_at hl 1 rfl) ?_
        refine lv_aload_n hx hb dL_law_456 rfl (lv_at hl 0 rfl) ?_
        refine lv_iload_n hx hb dL_law_457 rfl (lv_at hl 3 rfl) ?_
        refine lv_iconst (v := 1) hx hb dL_law_458 (by decide) ?_
        refine lv_iadd hx hb dL_law_459 ?_
        refine lv_topi (fun z_115 ez_115 => ?_)
        have tz_115 : (Int32.toInt z_115) = (Int32.toInt i) + 1 := aI_add rfl L_1 ez_115 ⟨by have := rng i; omega, by have := rng i; omega⟩
        refine va_sld hx hb hX hbl hbA hS (i := z_115) (vin rfl ⟨by omega, by omega⟩) dL_law_460 ?_
        refine lv_topi (fun z_116 ez_116 => ?_)
        refine lv_aload_n hx hb dL_law_461 rfl (lv_at hl 0 rfl) ?_
        refine lv_iload_n hx hb dL_law_462 rfl (lv_at hl 3 rfl) ?_
        refine lv_iconst (v := 2) hx hb dL_law_463 (by decide) ?_
        refine lv_iadd hx hb dL_law_464 ?_
        refine lv_topi (fun z_117 ez_117 => ?_)
        have tz_117 : (Int32.toInt z_117) = (Int32.toInt i) + 2 := aI_add rfl L_2 ez_117 ⟨by have := rng i; omega, by have := rng i; omega⟩
        refine va_sld hx hb hX hbl hbA hS (i := z_117) (vin rfl ⟨by omega, by omega⟩) dL_law_465 ?_
        refine lv_topi (fun z_118 ez_118 => ?_)
        refine lawC_i (va_runV (As := [.int z_116, .int z_118]) (rest := []) ⟨hx, hb, hml, hown, hts⟩ (c_X8_person l dC dI a κ σ φ γ ψ g1 g2 z_116 z_118 hC.2.2.2.2.2.2.2.1) (cwV 2 hts gL_law_X8_person rfl rfl rfl ⟨rfl, hd_X8_person⟩ ⟨Nat.le_of_ble_eq_true rfl, Nat.le_of_ble_eq_true rfl⟩) (lawPreC hPc hKc hIc hN hSt hAc hS (va_recv hKc hPc (ci := 8) (q0 := 0) rfl rfl)) rfl rfl hl.1 rfl (lv_room (Nat.le_of_ble_eq_true rfl)) dL_law_466 ⟨hcl, hsl⟩) hS hAc hPm hdis ?_
        clear hPc hPm hS; intro r_119 S_119 F_119 G_119 P_119 H locs hw hPc hPm hS
        obtain ⟨rfl, rfl, -⟩ := hw
        refine lv_pop hx hb dL_law_469 rfl ?_
        refine lv_aload_n hx hb dL_law_470 rfl (lv_at hl 2 rfl) ?_
        refine lv_aload_n hx hb dL_law_471 rfl (lv_at hl 0 rfl) ?_
        refine lv_iload_n hx hb dL_law_472 rfl (lv_at hl 3 rfl) ?_
        refine lv_iconst (v := 1) hx hb dL_law_473 (by decide) ?_
        refine lv_iadd hx hb dL_law_474 ?_
        refine lv_topi (fun z_120 ez_120 => ?_)
        have tz_120 : (Int32.toInt z_120) = (Int32.toInt i) + 1 := aI_add rfl L_1 ez_120 ⟨by have := rng i; omega, by have := rng i; omega⟩
        refine va_sld hx hb hX hbl hbA hS (i := z_120) (vin rfl ⟨by omega, by omega⟩) dL_law_475 ?_
        refine lv_topi (fun z_121 ez_121 => ?_)
        refine lv_aload_n hx hb dL_law_476 rfl (lv_at hl 0 rfl) ?_
        refine lv_iload_n hx hb dL_law_477 rfl (lv_at hl 3 rfl) ?_
        refine lv_iconst (v := 2) hx hb dL_law_478 (by decide) ?_
        refine lv_iadd hx hb dL_law_479 ?_
        refine lv_topi (fun z_122 ez_122 => ?_)
        have tz_122 : (Int32.toInt z_122) = (Int32.toInt i) + 2 := aI_add rfl L_2 ez_122 ⟨by have := rng i; omega, by have := rng i; omega⟩
        refine va_sld hx hb hX hbl hbA hS (i := z_122) (vin rfl ⟨by omega, by omega⟩) dL_law_480 ?_
        refine lv_topi (fun z_123 ez_123 => ?_)
        refine lawM_i (va_runV (As := [.int z_121, .int z_123]) (rest := []) ⟨hx, hb, hml, hown, hts⟩ (c_X9_person l dC dI b μ τ θ ξ ζ z_121 z_123 hM.2.2.2.2.2.2.2.2.2.1) (cwV 2 hts gL_law_X9_person rfl rfl rfl ⟨rfl, hd_X9_person⟩ ⟨Nat.le_of_ble_eq_true rfl, Nat.le_of_ble_eq_true rfl⟩) (lawPreM hPm hKm hIm hN (va_recv hKm hPm (ci := 9) (q0 := 0) rfl rfl)) rfl rfl hl.1 rfl (lv_room (Nat.le_of_ble_eq_true rfl)) dL_law_481 ⟨hcl, hsl⟩) hS hAm hPc hdis ?_
        clear hPc hPm hS; intro r_124 S_124 F_124 G_124 P_124 H locs hw hPm hPc hS
        obtain ⟨rfl, rfl, -⟩ := hw
        refine lv_pop hx hb dL_law_484 rfl ?_
        refine lv_goto (tgt := 587) hx hb dL_law_485 (by decide) ?_
        obtain ⟨i_125, ei_125⟩ : ∃ z : Int32, z = i + 6 := ⟨_, rfl⟩
        refine lv_iinc (v := i_125) (lv' := [(3, .int i_125), (0, .ref bs), (1, .ref (a 0)), (2, .ref (b 0))]) hx hb dL_law_587 hl (k := 3) rfl (by rw [ei_125]; rfl) (by decide) rfl ?_
        clear hl; intro ls hl
        have ti_125 : (Int32.toInt i_125) = (Int32.toInt i) + 6 := aI_add rfl L_6 ei_125 ⟨by have := rng i; have := rng z_2; omega, by have := rng i; have := rng z_2; omega⟩
        refine lv_goto (tgt := 18) hx hb dL_law_590 (by decide) ?_
        exact ih i_125 σ φ G_119 P_119 τ θ G_124 P_124 _ _ _ ⟨by omega, by omega⟩ (by omega) hC hM hPc hPm hS (lv_sub hl [1, 2, 3, 0] rfl)
      · refine lv_tableIn (off := 455) (tgt := 488) hx hb dL_law_33 (by omega) (by omega) (by rw [sw_6]; rfl) (by decide) ?_
        refine lv_aload_n hx hb dL_law_488 rfl (lv_at hl 1 rfl) ?_
        refine lv_aload_n hx hb dL_law_489 rfl (lv_at hl 0 rfl) ?_
        refine lv_iload_n hx hb dL_law_490 rfl (lv_at hl 3 rfl) ?_
        refine lv_iconst (v := 1) hx hb dL_law_491 (by decide) ?_
        refine lv_iadd hx hb dL_law_492 ?_
        refine lv_topi (fun z_126 ez_126 => ?_)
        have tz_126 : (Int32.toInt z_126) = (Int32.toInt i) + 1 := aI_add rfl L_1 ez_126 ⟨by have := rng i; omega, by have := rng i; omega⟩
        refine va_sld hx hb hX hbl hbA hS (i := z_126) (vin rfl ⟨by omega, by omega⟩) dL_law_493 ?_
        refine lv_topi (fun z_127 ez_127 => ?_)
        refine lv_aload_n hx hb dL_law_494 rfl (lv_at hl 0 rfl) ?_
        refine lv_iload_n hx hb dL_law_495 rfl (lv_at hl 3 rfl) ?_
        refine lv_iconst (v := 2) hx hb dL_law_496 (by decide) ?_
        refine lv_iadd hx hb dL_law_497 ?_
        refine lv_topi (fun z_128 ez_128 => ?_)
        have tz_128 : (Int32.toInt z_128) = (Int32.toInt i) + 2 := aI_add rfl L_2 ez_128 ⟨by have := rng i; omega, by have := rng i; omega⟩
        refine va_sld hx hb hX hbl hbA hS (i := z_128) (vin rfl ⟨by omega, by omega⟩) dL_law_498 ?_
        refine lv_topi (fun z_129 ez_129 => ?_)
        refine lawC_i (va_runV (As := [.int z_127, .int z_129]) (rest := []) ⟨hx, hb, hml, hown, hts⟩ (c_X8_sign l dC dI a κ σ φ γ ψ g1 g2 z_127 z_129 hC.2.2.2.2.2.2.2.1) (cwV 2 hts gL_law_X8_sign rfl rfl rfl ⟨rfl, hd_X8_sign⟩ ⟨Nat.le_of_ble_eq_true rfl, Nat.le_of_ble_eq_true rfl⟩) (lawPreC hPc hKc hIc hN hSt hAc hS (va_recv hKc hPc (ci := 8) (q0 := 0) rfl rfl)) rfl rfl hl.1 rfl (lv_room (Nat.le_of_ble_eq_true rfl)) dL_law_499 ⟨hcl, hsl⟩) hS hAc hPm hdis ?_
        clear hPc hPm hS; intro r_130 S_130 F_130 G_130 P_130 H locs hw hPc hPm hS
        obtain ⟨rfl, rfl, -⟩ := hw
        refine lv_pop hx hb dL_law_502 rfl ?_
        refine lv_aload_n hx hb dL_law_503 rfl (lv_at hl 2 rfl) ?_
        refine lv_aload_n hx hb dL_law_504 rfl (lv_at hl 0 rfl) ?_
        refine lv_iload_n hx hb dL_law_505 rfl (lv_at hl 3 rfl) ?_
        refine lv_iconst (v := 1) hx hb dL_law_506 (by decide) ?_
        refine lv_iadd hx hb dL_law_507 ?_
        refine lv_topi (fun z_131 ez_131 => ?_)
        have tz_131 : (Int32.toInt z_131) = (Int32.toInt i) + 1 := aI_add rfl L_1 ez_131 ⟨by have := rng i; omega, by have := rng i; omega⟩
        refine va_sld hx hb hX hbl hbA hS (i := z_131) (vin rfl ⟨by omega, by omega⟩) dL_law_508 ?_
        refine lv_topi (fun z_132 ez_132 => ?_)
        refine lv_aload_n hx hb dL_law_509 rfl (lv_at hl 0 rfl) ?_
        refine lv_iload_n hx hb dL_law_510 rfl (lv_at hl 3 rfl) ?_
        refine lv_iconst (v := 2) hx hb dL_law_511 (by decide) ?_
        refine lv_iadd hx hb dL_law_512 ?_
        refine lv_topi (fun z_133 ez_133 => ?_)
        have tz_133 : (Int32.toInt z_133) = (Int32.toInt i) + 2 := aI_add rfl L_2 ez_133 ⟨by have := rng i; omega, by have := rng i; omega⟩
        refine va_sld hx hb hX hbl hbA hS (i := z_133) (vin rfl ⟨by omega, by omega⟩) dL_law_513 ?_
        refine lv_topi (fun z_134 ez_134 => ?_)
        refine lawM_i (va_runV (As := [.int z_132, .int z_134]) (rest := []) ⟨hx, hb, hml, hown, hts⟩ (c_X9_sign l dC dI b μ τ θ ξ ζ z_132 z_134 hM.2.2.2.2.2.2.2.1 hM.2.2.2.2.2.2.2.2.2.1) (cwV 2 hts gL_law_X9_sign rfl rfl rfl ⟨rfl, hd_X9_sign⟩ ⟨Nat.le_of_ble_eq_true rfl, Nat.le_of_ble_eq_true rfl⟩) (lawPreM hPm hKm hIm hN (va_recv hKm hPm (ci := 9) (q0 := 0) rfl rfl)) rfl rfl hl.1 rfl (lv_room (Nat.le_of_ble_eq_true rfl)) dL_law_514 ⟨hcl, hsl⟩) hS hAm hPc hdis ?_
        clear hPc hPm hS; intro r_135 S_135 F_135 G_135 P_135 H locs hw hPm hPc hS
        obtain ⟨rfl, rfl, -⟩ := hw
        refine lv_pop hx hb dL_law_517 rfl ?_
        refine lv_goto (tgt := 587) hx hb dL_law_518 (by decide) ?_
        obtain ⟨i_136, ei_136⟩ : ∃ z : Int32, z = i + 6 := ⟨_, rfl⟩
        refine lv_iinc (v := i_136) (lv' := [(3, .int i_136), (0, .ref bs), (1, .ref (a 0)), (2, .ref (b 0))]) hx hb dL_law_587 hl (k := 3) rfl (by rw [ei_136]; rfl) (by decide) rfl ?_
        clear hl; intro ls hl
        have ti_136 : (Int32.toInt i_136) = (Int32.toInt i) + 6 := aI_add rfl L_6 ei_136 ⟨by have := rng i; have := rng z_2; omega, by have := rng i; have := rng z_2; omega⟩
        refine lv_goto (tgt := 18) hx hb dL_law_590 (by decide) ?_
        exact ih i_136 σ φ G_130 P_130 τ θ G_135 P_135 _ _ _ ⟨by omega, by omega⟩ (by omega) hC hM hPc hPm hS (lv_sub hl [1, 2, 3, 0] rfl)
      · refine lv_tableIn (off := 488) (tgt := 521) hx hb dL_law_33 (by omega) (by omega) (by rw [sw_6]; rfl) (by decide) ?_
        refine lv_aload_n hx hb dL_law_521 rfl (lv_at hl 1 rfl) ?_
        refine lv_aload_n hx hb dL_law_522 rfl (lv_at hl 0 rfl) ?_
        refine lv_iload_n hx hb dL_law_523 rfl (lv_at hl 3 rfl) ?_
        refine lv_iconst (v := 1) hx hb dL_law_524 (by decide) ?_
        refine lv_iadd hx hb dL_law_525 ?_
        refine lv_topi (fun z_137 ez_137 => ?_)
        have tz_137 : (Int32.toInt z_137) = (Int32.toInt i) + 1 := aI_add rfl L_1 ez_137 ⟨by have := rng i; omega, by have := rng i; omega⟩
        refine va_sld hx hb hX hbl hbA hS (i := z_137) (vin rfl ⟨by omega, by omega⟩) dL_law_526 ?_
        refine lv_topi (fun z_138 ez_138 => ?_)
        refine lv_aload_n hx hb dL_law_527 rfl (lv_at hl 0 rfl) ?_
        refine lv_iload_n hx hb dL_law_528 rfl (lv_at hl 3 rfl) ?_
        refine lv_iconst (v := 2) hx hb dL_law_529 (by decide) ?_
        refine lv_iadd hx hb dL_law_530 ?_
        refine lv_topi (fun z_139 ez_139 => ?_)
        have tz_139 : (Int32.toInt z_139) = (Int32.toInt i) + 2 := aI_add rfl L_2 ez_139 ⟨by have := rng i; omega, by have := rng i; omega⟩
        refine va_sld hx hb hX hbl hbA hS (i := z_139) (vin rfl ⟨by omega, by omega⟩) dL_law_531 ?_
        refine lv_topi (fun z_140 ez_140 => ?_)
        refine lv_aload_n hx hb dL_law_532 rfl (lv_at hl 0 rfl) ?_
        refine lv_iload_n hx hb dL_law_533 rfl (lv_at hl 3 rfl) ?_
        refine lv_iconst (v := 3) hx hb dL_law_534 (by decide) ?_
        refine lv_iadd hx hb dL_law_535 ?_
        refine lv_topi (fun z_141 ez_141 => ?_)
        have tz_141 : (Int32.toInt z_141) = (Int32.toInt i) + 3 := aI_add rfl L_3 ez_141 ⟨by have := rng i; omega, by have := rng i; omega⟩
        refine va_sld hx hb hX hbl hbA hS (i := z_141) (vin rfl ⟨by omega, by omega⟩) dL_law_536 ?_
        refine lv_topi (fun z_142 ez_142 => ?_)
        refine lv_aload_n hx hb dL_law_537 rfl (lv_at hl 0 rfl) ?_
        refine lv_iload_n hx hb dL_law_538 rfl (lv_at hl 3 rfl) ?_
        refine lv_iconst (v := 4) hx hb dL_law_539 (by decide) ?_
        refine lv_iadd hx hb dL_law_540 ?_
        refine lv_topi (fun z_143 ez_143 => ?_)
        have tz_143 : (Int32.toInt z_143) = (Int32.toInt i) + 4 := aI_add rfl L_4 ez_143 ⟨by have := rng i; omega, by have := rng i; omega⟩
        refine va_sld hx hb hX hbl hbA hS (i := z_143) (vin rfl ⟨by omega, by omega⟩) dL_law_541 ?_
        refine lv_topi (fun z_144 ez_144 => ?_)
        refine lawC_i (va_runV (As := [.int z_138, .int z_140, .int z_142, .int z_144]) (rest := []) ⟨hx, hb, hml, hown, hts⟩ (c_X8_named l dC dI a κ σ φ γ ψ g1 g2 z_138 z_140 z_142 z_144 hC.2.2.2.2.2.2.2.1) (cwV 4 hts gL_law_X8_named rfl rfl rfl ⟨rfl, hd_X8_named⟩ ⟨Nat.le_of_ble_eq_true rfl, Nat.le_of_ble_eq_true rfl⟩) (lawPreC hPc hKc hIc hN hSt hAc hS (va_recv hKc hPc (ci := 8) (q0 := 0) rfl rfl)) rfl rfl hl.1 rfl (lv_room (Nat.le_of_ble_eq_true rfl)) dL_law_542 ⟨hcl, hsl⟩) hS hAc hPm hdis ?_
        clear hPc hPm hS; intro r_145 S_145 F_145 G_145 P_145 H locs hw hPc hPm hS
        obtain ⟨rfl, rfl, -⟩ := hw
        refine lv_pop hx hb dL_law_545 rfl ?_
        refine lv_aload_n hx hb dL_law_546 rfl (lv_at hl 2 rfl) ?_
        refine lv_aload_n hx hb dL_law_547 rfl (lv_at hl 0 rfl) ?_
        refine lv_iload_n hx hb dL_law_548 rfl (lv_at hl 3 rfl) ?_
        refine lv_iconst (v := 1) hx hb dL_law_549 (by decide) ?_
        refine lv_iadd hx hb dL_law_550 ?_
        refine lv_topi (fun z_146 ez_146 => ?_)
        have tz_146 : (Int32.toInt z_146) = (Int32.toInt i) + 1 := aI_add rfl L_1 ez_146 ⟨by have := rng i; omega, by have := rng i; omega⟩
        refine va_sld hx hb hX hbl hbA hS (i := z_146) (vin rfl ⟨by omega, by omega⟩) dL_law_551 ?_
        refine lv_topi (fun z_147 ez_147 => ?_)
        refine lv_aload_n hx hb dL_law_552 rfl (lv_at hl 0 rfl) ?_
        refine lv_iload_n hx hb dL_law_553 rfl (lv_at hl 3 rfl) ?_
        refine lv_iconst (v := 2) hx hb dL_law_554 (by decide) ?_
        refine lv_iadd hx hb dL_law_555 ?_
        refine lv_topi (fun z_148 ez_148 => ?_)
        have tz_148 : (Int32.toInt z_148) = (Int32.toInt i) + 2 := aI_add rfl L_2 ez_148 ⟨by have := rng i; omega, by have := rng i; omega⟩
        refine va_sld hx hb hX hbl hbA hS (i := z_148) (vin rfl ⟨by omega, by omega⟩) dL_law_556 ?_
        refine lv_topi (fun z_149 ez_149 => ?_)
        refine lv_aload_n hx hb dL_law_557 rfl (lv_at hl 0 rfl) ?_
        refine lv_iload_n hx hb dL_law_558 rfl (lv_at hl 3 rfl) ?_
        refine lv_iconst (v := 3) hx hb dL_law_559 (by decide) ?_
        refine lv_iadd hx hb dL_law_560 ?_
        refine lv_topi (fun z_150 ez_150 => ?_)
        have tz_150 : (Int32.toInt z_150) = (Int32.toInt i) + 3 := aI_add rfl L_3 ez_150 ⟨by have := rng i; omega, by have := rng i; omega⟩
        refine va_sld hx hb hX hbl hbA hS (i := z_150) (vin rfl ⟨by omega, by omega⟩) dL_law_561 ?_
        refine lv_topi (fun z_151 ez_151 => ?_)
        refine lv_aload_n hx hb dL_law_562 rfl (lv_at hl 0 rfl) ?_
        refine lv_iload_n hx hb dL_law_563 rfl (lv_at hl 3 rfl) ?_
        refine lv_iconst (v := 4) hx hb dL_law_564 (by decide) ?_
        refine lv_iadd hx hb dL_law_565 ?_
        refine lv_topi (fun z_152 ez_152 => ?_)
        have tz_152 : (Int32.toInt z_152) = (Int32.toInt i) + 4 := aI_add rfl L_4 ez_152 ⟨by have := rng i; omega, by have := rng i; omega⟩
        refine va_sld hx hb hX hbl hbA hS (i := z_152) (vin rfl ⟨by omega, by omega⟩) dL_law_566 ?_
        refine lv_topi (fun z_153 ez_153 => ?_)
        refine lawM_i (va_runV (As := [.int z_147, .int z_149, .int z_151, .int z_153]) (rest := []) ⟨hx, hb, hml, hown, hts⟩ (c_X9_named l dC dI b μ τ θ ξ ζ z_147 z_149 z_151 z_153 hM.2.2.2.2.2.2.2.2.2.1) (cwV 4 hts gL_law_X9_named rfl rfl rfl ⟨rfl, hd_X9_named⟩ ⟨Nat.le_of_ble_eq_true rfl, Nat.le_of_ble_eq_true rfl⟩) (lawPreM hPm hKm hIm hN (va_recv hKm hPm (ci := 9) (q0 := 0) rfl rfl)) rfl rfl hl.1 rfl (lv_room (Nat.le_of_ble_eq_true rfl)) dL_law_567 ⟨hcl, hsl⟩) hS hAm hPc hdis ?_
        clear hPc hPm hS; intro r_154 S_154 F_154 G_154 P_154 H locs hw hPm hPc hS
        obtain ⟨rfl, rfl, -⟩ := hw
        refine lv_pop hx hb dL_law_570 rfl ?_
        refine lv_goto (tgt := 587) hx hb dL_law_571 (by decide) ?_
        obtain ⟨i_155, ei_155⟩ : ∃ z : Int32, z = i + 6 := ⟨_, rfl⟩
        refine lv_iinc (v := i_155) (lv' := [(3, .int i_155), (0, .ref bs), (1, .ref (a 0)), (2, .ref (b 0))]) hx hb dL_law_587 hl (k := 3) rfl (by rw [ei_155]; rfl) (by decide) rfl ?_
        clear hl; intro ls hl
        have ti_155 : (Int32.toInt i_155) = (Int32.toInt i) + 6 := aI_add rfl L_6 ei_155 ⟨by have := rng i; have := rng z_2; omega, by have := rng i; have := rng z_2; omega⟩
        refine lv_goto (tgt := 18) hx hb dL_law_590 (by decide) ?_
        exact ih i_155 σ φ G_145 P_145 τ θ G_154 P_154 _ _ _ ⟨by omega, by omega⟩ (by omega) hC hM hPc hPm hS (lv_sub hl [1, 2, 3, 0] rfl)
      · refine lv_tableIn (off := 541) (tgt := 574) hx hb dL_law_33 (by omega) (by omega) (by rw [sw_6]; rfl) (by decide) ?_
        refine lv_aload_n hx hb dL_law_574 rfl (lv_at hl 1 rfl) ?_
        refine lawC_i (va_runV (As := []) (rest := []) ⟨hx, hb, hml, hown, hts⟩ (c_X8_audit l dC dI a κ σ φ γ ψ g1 g2  hC.2.2.2.2.1 hC.2.2.2.2.2.2.2.1 hC.2.2.2.2.2.2.2.2.1 hC.2.2.2.2.2.2.2.2.2.1) (cwV 0 hts gL_law_X8_audit rfl rfl rfl ⟨rfl, hd_X8_audit⟩ ⟨Nat.le_of_ble_eq_true rfl, Nat.le_of_ble_eq_true rfl⟩) (lawPreC hPc hKc hIc hN hSt hAc hS (va_recv hKc hPc (ci := 8) (q0 := 0) rfl rfl)) rfl rfl hl.1 rfl (lv_room (Nat.le_of_ble_eq_true rfl)) dL_law_575 ⟨hcl, hsl⟩) hS hAc hPm hdis ?_
        clear hPc hPm hS; intro r_156 S_156 F_156 G_156 P_156 H locs hw hPc hPm hS
        obtain ⟨rfl, rfl, qz_156⟩ := hw
        refine lv_aload_n hx hb dL_law_578 rfl (lv_at hl 2 rfl) ?_
        refine lawM_i (va_runV (As := []) (rest := [.int r_156]) ⟨hx, hb, hml, hown, hts⟩ (c_X9_audit l dC dI b μ τ θ ξ ζ  hM.2.2.2.2.2.2.1 hM.2.2.2.2.2.1 hM.2.2.2.2.2.2.2.2.2.1 hM.2.2.2.2.2.2.2.2.2.2.1 hM.2.2.2.2.2.2.2.2.2.2.2.2.2.2.2.2.1) (cwV 0 hts gL_law_X9_audit rfl rfl rfl ⟨rfl, hd_X9_audit⟩ ⟨Nat.le_of_ble_eq_true rfl, Nat.le_of_ble_eq_true rfl⟩) (lawPreM hPm hKm hIm hN (va_recv hKm hPm (ci := 9) (q0 := 0) rfl rfl)) rfl rfl hl.1 rfl (lv_room (Nat.le_of_ble_eq_true rfl)) dL_law_579 ⟨hcl, hsl⟩) hS hAm hPc hdis ?_
        clear hPc hPm hS; intro r_157 S_157 F_157 G_157 P_157 H locs hw hPm hPc hS
        obtain ⟨rfl, rfl, qz_157⟩ := hw
        refine lv_icmp_eq (tgt := 587) hx hb dL_law_582 (by decide) (fun c_158 => ?_) (fun c_158 => False.elim (by have kc_158 := bI_ne rfl rfl c_158; omega))
        have kc_158 := bI_eq rfl rfl c_158
        obtain ⟨i_159, ei_159⟩ : ∃ z : Int32, z = i + 6 := ⟨_, rfl⟩
        refine lv_iinc (v := i_159) (lv' := [(3, .int i_159), (0, .ref bs), (1, .ref (a 0)), (2, .ref (b 0))]) hx hb dL_law_587 hl (k := 3) rfl (by rw [ei_159]; rfl) (by decide) rfl ?_
        clear hl; intro ls hl
        have ti_159 : (Int32.toInt i_159) = (Int32.toInt i) + 6 := aI_add rfl L_6 ei_159 ⟨by have := rng i; have := rng z_2; omega, by have := rng i; have := rng z_2; omega⟩
        refine lv_goto (tgt := 18) hx hb dL_law_590 (by decide) ?_
        exact ih i_159 σ φ G_156 P_156 τ θ G_157 P_157 _ _ _ ⟨by omega, by omega⟩ (by omega) hC hM hPc hPm hS (lv_sub hl [1, 2, 3, 0] rfl)
