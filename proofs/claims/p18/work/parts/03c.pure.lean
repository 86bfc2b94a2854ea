/-! pure words of the class's state -/
def tat (len : Int32) (f : Nat → Int32) (q : Int32) : Int32 := if 0 ≤ q.toInt ∧ q.toInt < len.toInt then f (Int32.toNatClampNeg q) &&& 255 else -1
theorem tat_in {len q z y : Int32} {f : Nat → Int32} (h : 0 ≤ q.toInt ∧ q.toInt < len.toInt) (ey : y = f (Int32.toNatClampNeg q)) (ez : z = y &&& 255) : z = tat len f q := by
  rw [ez, ey]
  unfold tat
  rw [if_pos h]
theorem tat_out {len q : Int32} {f : Nat → Int32} (h : ¬ (0 ≤ q.toInt ∧ q.toInt < len.toInt)) : (-1 : Int32) = tat len f q := by
  unfold tat
  rw [if_neg h]
theorem k_look3 {x : Int} (h : x ≠ 72 ∧ x ≠ 80 ∧ x ≠ 83) : Op.lookupswitch.offset [(72, 36), (80, 38), (83, 40)] 42 x = 42 := by
  simp [Op.lookupswitch.offset, h.1, h.2.1, h.2.2, Ne.symm h.1, Ne.symm h.2.1, Ne.symm h.2.2]
def isum (f : Nat → Int32) : Nat → Int32
  | 0 => 0
  | n + 1 => isum f n + f n
def icnt (v : Int32) (f : Nat → Int32) : Nat → Int32
  | 0 => 0
  | n + 1 => icnt v f n + (if f n = v then 1 else 0)
def iage (f : Nat → Int32) : Nat → Int32
  | 0 => 0
  | n + 1 => iage f n + (if f n = -1 then 0 else f n)
theorem isum_cong {f g : Nat → Int32} : ∀ {n : Nat}, (∀ i, i < n → f i = g i) → isum f n = isum g n
  | 0, _ => rfl
  | n + 1, h => by rw [isum, isum, isum_cong (fun i hi => h i (by omega)), h n (by omega)]
theorem icnt_cong {v : Int32} {f g : Nat → Int32} : ∀ {n : Nat}, (∀ i, i < n → f i = g i) → icnt v f n = icnt v g n
  | 0, _ => rfl
  | n + 1, h => by rw [icnt, icnt, icnt_cong (fun i hi => h i (by omega)), h n (by omega)]
theorem iage_cong {f g : Nat → Int32} : ∀ {n : Nat}, (∀ i, i < n → f i = g i) → iage f n = iage g n
  | 0, _ => rfl
  | n + 1, h => by rw [iage, iage, iage_cong (fun i hi => h i (by omega)), h n (by omega)]
theorem upd_lo {f : Nat → Int32} {k n : Nat} {x : Int32} (h : n ≤ k) : ∀ i, i < n → f i = upd f k x i := fun i hi => (pk_un (by omega)).symm
/-- the sums of what is booked -/
def BS (hh ps men wom ages : Int32) (f2 p0 p1 : Nat → Int32) : Prop := isum f2 hh.toNatClampNeg = ps ∧ men = icnt 0 p0 ps.toNatClampNeg ∧ wom = icnt 1 p0 ps.toNatClampNeg ∧ ages = iage p1 ps.toNatClampNeg
/-- what was written behind it, as far as there is room -/
def BP (hh ps tk pt : Int32) (f2 : Nat → Int32) : Prop := hh.toInt + tk.toInt ≤ 60 → ps.toInt + pt.toInt ≤ 300 → isum f2 (hh + tk).toNatClampNeg = ps + pt
theorem BS.f2 {hh ps men wom ages r x : Int32} {f2 g p0 p1 : Nat → Int32} (h : BS hh ps men wom ages f2 p0 p1) (e : g = upd f2 r.toNatClampNeg x) (h0 : 0 ≤ hh.toInt) (hr : hh.toInt ≤ r.toInt) : BS hh ps men wom ages g p0 p1 := by
  obtain ⟨a, b⟩ := h
  have k1 := tn_eq h0
  have k2 := tn_eq (x := r) (by omega)
  exact ⟨by rw [← a, e]; exact (isum_cong (upd_lo (by omega))).symm, b⟩
theorem BS.p0 {hh ps men wom ages r x : Int32} {f2 g p0 p1 : Nat → Int32} (h : BS hh ps men wom ages f2 p0 p1) (e : g = upd p0 r.toNatClampNeg x) (h0 : 0 ≤ ps.toInt) (hr : ps.toInt ≤ r.toInt) : BS hh ps men wom ages f2 g p1 := by
  obtain ⟨a, b, c, d⟩ := h
  have k1 := tn_eq h0
  have k2 := tn_eq (x := r) (by omega)
  exact ⟨a, by rw [b, e]; exact icnt_cong (upd_lo (by omega)), by rw [c, e]; exact icnt_cong (upd_lo (by omega)), d⟩
theorem BS.p1 {hh ps men wom ages r x : Int32} {f2 g p0 p1 : Nat → Int32} (h : BS hh ps men wom ages f2 p0 p1) (e : g = upd p1 r.toNatClampNeg x) (h0 : 0 ≤ ps.toInt) (hr : ps.toInt ≤ r.toInt) : BS hh ps men wom ages f2 p0 g := by
  obtain ⟨a, b, c, d⟩ := h
  have k1 := tn_eq h0
  have k2 := tn_eq (x := r) (by omega)
  exact ⟨a, b, c, by rw [d, e]; exact iage_cong (upd_lo (by omega))⟩
theorem BP.vac {hh ps tk pt : Int32} {f2 : Nat → Int32} (h : 60 < hh.toInt + tk.toInt ∨ 300 < ps.toInt + pt.toInt) : BP hh ps tk pt f2 := fun h1 h2 => by omega
theorem tn_succ {x y : Int32} (h0 : 0 ≤ x.toInt) (h : y.toInt = x.toInt + 1) : y.toNatClampNeg = x.toNatClampNeg + 1 := by
  have := tn_eq h0
  have := tn_eq (x := y) (by omega)
  omega
theorem BP.step {hh ps tk pt tk2 pt2 r n : Int32} {f2 g : Nat → Int32} (h : BP hh ps tk pt f2) (er : r = hh + tk) (e : g = upd f2 r.toNatClampNeg n) (b : 0 ≤ hh.toInt ∧ hh.toInt ≤ 60 ∧ 0 ≤ tk.toInt ∧ tk.toInt ≤ 10000000 ∧ 0 ≤ n.toInt ∧ n.toInt ≤ 10000000 ∧ 0 ≤ pt.toInt ∧ pt.toInt ≤ 10000000) (e1 : tk2 = tk + 1) (e2 : pt2 = pt + n) : BP hh ps tk2 pt2 g := by
  intro h1 h2
  have t1 : tk2.toInt = tk.toInt + 1 := aI_add rfl L_1 e1 (by omega)
  have t2 : pt2.toInt = pt.toInt + n.toInt := aI_add rfl rfl e2 (by omega)
  have t3 : r.toInt = hh.toInt + tk.toInt := aI_add rfl rfl er (by omega)
  have t4 : (hh + tk2).toInt = hh.toInt + tk2.toInt := aI_add rfl rfl rfl (by omega)
  have h3 := h (by omega) (by omega)
  rw [tn_succ (x := r) (by omega) (by omega), isum, e2, ← Int32.add_assoc, ← h3, ← er, e, pk_us]
  rw [isum_cong (upd_lo (Nat.le_refl _)) (f := f2) (g := upd f2 r.toNatClampNeg n)]
theorem BP.zero {hh ps men wom ages : Int32} {f2 p0 p1 : Nat → Int32} (h : BS hh ps men wom ages f2 p0 p1) : BP hh ps 0 0 f2 := fun _ _ => by
  rw [Int32.add_zero, Int32.add_zero]
  exact h.1
/-- sexes are m, f, or missing: three counts make all -/
theorem icnt3 {f : Nat → Int32} (h : PtR (-1) 1 f) : ∀ n : Nat, icnt 0 f n + icnt 1 f n + icnt (-1) f n = Int32.ofNat n
  | 0 => by rfl
  | n + 1 => by
    have ih := icnt3 h n
    have hb := h n
    have e : Int32.ofNat (n + 1) = Int32.ofNat n + 1 := nI_succ n
    rw [e, ← ih, icnt, icnt, icnt]
    rcases (show (f n).toInt = -1 ∨ (f n).toInt = 0 ∨ (f n).toInt = 1 by omega) with q | q | q
    · have q : f n = -1 := Int32.toInt_inj.mp (q.trans L_m1.symm)
      rw [q, if_neg (by decide), if_neg (by decide), if_pos rfl, Int32.add_zero, Int32.add_zero]
      ac_rfl
    · have q : f n = 0 := Int32.toInt_inj.mp (q.trans L_0.symm)
      rw [q, if_pos rfl, if_neg (by decide), if_neg (by decide), Int32.add_zero, Int32.add_zero]
      ac_rfl
    · have q : f n = 1 := Int32.toInt_inj.mp (q.trans L_1.symm)
      rw [q, if_neg (by decide), if_pos rfl, if_neg (by decide), Int32.add_zero, Int32.add_zero]
      ac_rfl
theorem tn_of {x : Int32} (h : 0 ≤ x.toInt) : Int32.ofNat x.toNatClampNeg = x := by
  obtain ⟨j, hj, e⟩ := nI_of (x := x) (fun z => by have := bI_lt rfl L_0 z; omega)
  rw [e, nI_clamp hj]
  rfl
def AC (b r w h v : Int32) : Prop := b + r + w + (if h = 0 then 0 else 1) = v
theorem AC.of0 {b r w h v : Int32} (q : AC b r w h v) (e : h = 0) : b + r + w = v := by
  unfold AC at q
  rw [if_pos e, Int32.add_zero] at q
  exact q
theorem AC.of1 {b r w h v : Int32} (q : AC b r w h v) (e : ¬ h = 0) : b + r + w + 1 = v := by
  unfold AC at q
  rw [if_neg e] at q
  exact q
theorem AC.mk {b r w h v : Int32} (e : h = 0) (q : b + r + w = v) : AC b r w h v := by
  unfold AC
  rw [if_pos e, Int32.add_zero]
  exact q
theorem AC.mk1 {b r w v : Int32} (q : b + r + w + 1 = v) : AC b r w 1 v := by
  unfold AC
  rw [if_neg (by decide)]
  exact q
theorem AC.b {b r w h v z : Int32} (e : h = 0) (q : b + r + w + 1 = v) (ez : z = b + 1) : AC z r w h v := AC.mk e (by rw [ez, ← q]; ac_rfl)
theorem AC.r {b r w h v z : Int32} (e : h = 0) (q : b + r + w + 1 = v) (ez : z = r + 1) : AC b z w h v := AC.mk e (by rw [ez, ← q]; ac_rfl)
theorem AC.st {b r r2 w h h2 v : Int32} (hpa : b + r + w + 1 = v) (e0 : h = 0) (q : (h2 = 1 ∧ r2 = r) ∨ (h2 = h ∧ r2 = r + 1)) : AC b r2 w h2 v := by
  rcases q with ⟨e1, e2⟩ | ⟨e1, e2⟩
  · rw [e1, e2]; exact AC.mk1 hpa
  · exact AC.r (e1.trans e0) hpa e2
theorem AC.w {b r w h v z : Int32} (e : h = 0) (q : b + r + w + 1 = v) (ez : z = w + 1) : AC b r z h v := AC.mk e (by rw [ez, ← q]; ac_rfl)
theorem AC.bk {b b2 r w w2 h v x : Int32} (hpa : b + r + w + 1 = v) (e0 : h = 0) (q : (x = 3 ∧ b2 = b ∧ w2 = w + 1) ∨ (x = 0 ∧ b2 = b + 1 ∧ w2 = w)) : AC b2 r w2 h v := by
  rcases q with ⟨-, e1, e2⟩ | ⟨-, e1, e2⟩
  · rw [e1]; exact AC.w e0 hpa e2
  · rw [e2]; exact AC.b e0 hpa e1
