/-! pure words of the reference's state -/
def mat (f : Nat → Int32) (k : Int32) : Int32 := f (Int32.toNatClampNeg k) &&& 255
theorem and255 (x : Int32) : 0 ≤ (x &&& 255).toInt ∧ (x &&& 255).toInt ≤ 255 := by
  have h := vp_in_iff.mp (pk_andIn x (m := 255) 8 (by decide) (by decide))
  have e : ((2 ^ 8 : Nat) : Int) = 256 := by decide
  rw [e] at h
  omega
def zsum (f : Nat → Int32) : Nat → Int
  | 0 => 0
  | n + 1 => zsum f n + Int32.toInt (f n)
def ineg (f : Nat → Int32) : Nat → Int32
  | 0 => 0
  | n + 1 => ineg f n + (if 0 ≤ f n then 0 else 1)
def mage (f : Nat → Int32) : Nat → Int32
  | 0 => 0
  | n + 1 => mage f n + (if f n < 0 then 0 else f n)
theorem zsum_cong {f g : Nat → Int32} : ∀ {n : Nat}, (∀ i, i < n → f i = g i) → zsum f n = zsum g n
  | 0, _ => rfl
  | n + 1, h => by rw [zsum, zsum, zsum_cong (fun i hi => h i (by omega)), h n (by omega)]
theorem zsum_nn {lo hi : Int} {f : Nat → Int32} (h : PtR lo hi f) (h0 : 0 ≤ lo) : ∀ n : Nat, 0 ≤ zsum f n
  | 0 => Int.le_refl 0
  | n + 1 => by
    have a := zsum_nn h h0 n
    have b := h n
    rw [zsum]
    omega
theorem zsum_mono {lo hi : Int} {f : Nat → Int32} (h : PtR lo hi f) (h0 : 0 ≤ lo) : ∀ {m n : Nat}, m ≤ n → zsum f m ≤ zsum f n
  | m, 0, q => by rw [show m = 0 by omega]; exact Int.le_refl _
  | m, n + 1, q => by
    by_cases e : m = n + 1
    · rw [e]; exact Int.le_refl _
    · have a := zsum_mono h h0 (m := m) (n := n) (by omega)
      have b := h n
      rw [zsum]
      omega
theorem zsum_next {lo hi : Int} {f : Nat → Int32} (h : PtR lo hi f) (h0 : 0 ≤ lo) {m n : Nat} (q : m < n) : zsum f m + Int32.toInt (f m) ≤ zsum f n := by
  have a := zsum_mono h h0 (m := m + 1) (n := n) q
  rw [zsum] at a
  exact a
theorem icnt3n {f : Nat → Int32} (h : PtR (-1) 1 f) : ∀ n : Nat, icnt 0 f n + icnt 1 f n + ineg f n = Int32.ofNat n
  | 0 => by rfl
  | n + 1 => by
    have ih := icnt3n h n
    have hb := h n
    have e : Int32.ofNat (n + 1) = Int32.ofNat n + 1 := nI_succ n
    rw [e, ← ih, icnt, icnt, ineg]
    rcases (show (f n).toInt = -1 ∨ (f n).toInt = 0 ∨ (f n).toInt = 1 by omega) with q | q | q
    · have q : f n = -1 := Int32.toInt_inj.mp (q.trans L_m1.symm)
      rw [q, if_neg (by decide), if_neg (by decide), if_neg (by decide), Int32.add_zero, Int32.add_zero]
      ac_rfl
    · have q : f n = 0 := Int32.toInt_inj.mp (q.trans L_0.symm)
      rw [q, if_pos rfl, if_neg (by decide), if_pos (by decide), Int32.add_zero, Int32.add_zero]
      ac_rfl
    · have q : f n = 1 := Int32.toInt_inj.mp (q.trans L_1.symm)
      rw [q, if_neg (by decide), if_pos rfl, if_pos (by decide), Int32.add_zero, Int32.add_zero]
      ac_rfl
