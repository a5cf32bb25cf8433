/-! ===== the bytes of a body ===== -/
def onB (ac : Nat) (cv : Nat → Nat) (a : Nat) : Bool := decide (a ≠ ac) && decide (0 < cv a)
def bitsN (ac : Nat) (cv : Nat → Nat) : Nat → Nat
  | 0 => 0
  | a + 1 => bitsN ac cv a + (if onB ac cv a then 2 ^ a else 0)
theorem bitsN_lt (ac : Nat) (cv : Nat → Nat) : ∀ n, bitsN ac cv n < 2 ^ n := by
  intro n
  induction n with
  | zero => simp [bitsN]
  | succ n ih =>
    simp only [bitsN]
    rw [Nat.pow_succ]
    split <;> omega
theorem bitsN_bit (ac : Nat) (cv : Nat → Nat) : ∀ n a, a < n → bitsN ac cv n / 2 ^ a % 2 = if onB ac cv a then 1 else 0 := by
  intro n
  induction n with
  | zero => intro a h; omega
  | succ n ih =>
    intro a h
    have hlt := bitsN_lt ac cv n
    simp only [bitsN]
    by_cases e : a = n
    · subst e
      split
      · rw [Nat.add_div_right _ (Nat.two_pow_pos a), Nat.div_eq_of_lt hlt]
      · rw [Nat.add_zero, Nat.div_eq_of_lt hlt]
    · have ha : a < n := by omega
      rw [← ih a ha]
      split
      · rw [show 2 ^ n = 2 ^ a * (2 * 2 ^ (n - a - 1)) by rw [← Nat.mul_assoc, ← Nat.pow_succ, ← Nat.pow_add]; congr 1; omega, Nat.add_mul_div_left _ _ (Nat.two_pow_pos a)]
        omega
      · rw [Nat.add_zero]
theorem bit_shl : ∀ a, a < 8 → (1 : Int32) <<< (nI a &&& 31) = nI (2 ^ a) := by decide
theorem bit_shr {x a : Nat} (hx : x < 2 ^ 31) (ha : a < 8) : (nI x >>> (nI a &&& 31)) &&& 1 = nI (x / 2 ^ a % 2) := by
  have hs : ∀ n, n < 8 → ((nI n &&& 31).toBitVec.smod 32).toNat = n := by decide
  rw [pk_shrN hx _ a (hs a ha), pk_andN (n := x / 2 ^ a) (Nat.lt_of_le_of_lt (Nat.div_le_self _ _) (by omega)) (m := 1) 1 (by decide)]
theorem bit_is {ac : Nat} {cv : Nat → Nat} {a : Nat} (ha : a < 8) : (nI (bitsN ac cv 8) >>> (nI a &&& 31)) &&& 1 = 1 ↔ onB ac cv a = true := by
  rw [bit_shr (Nat.lt_of_lt_of_le (bitsN_lt ac cv 8) (by decide)) ha, bitsN_bit ac cv 8 a ha]
  cases onB ac cv a
  · simp only [Bool.false_eq_true, if_false, iff_false]; decide
  · simp only [if_true, iff_true]; decide
def encClk (ac : Nat) (cv : Nat → Nat) : Nat → List Int32
  | 0 => []
  | a + 1 => encClk ac cv a ++ (if onB ac cv a then encUf 4 (cv a) else [])
theorem encClk_le (ac : Nat) (cv : Nat → Nat) : ∀ a, (encClk ac cv a).length ≤ 5 * a := by
  intro a
  induction a with
  | zero => simp [encClk]
  | succ a ih =>
    simp only [encClk, List.length_append]
    split
    · have := encUf_le 4 (cv a); omega
    · simp only [List.length_nil]; omega
noncomputable def encOps (cn : Nat) (ft fd fo : Nat → Int32) (fk : Nat → Int64) (fv : Nat → Int32) : Nat → List Int32
  | 0 => []
  | k + 1 => encOps cn ft fd fo fk fv k ++ encOp (cn + k) (ft k) (fd k) (fo k) (fk k) (fv k)
theorem encOps_le (cn : Nat) (ft fd fo : Nat → Int32) (fk : Nat → Int64) (fv : Nat → Int32) : ∀ k, (encOps cn ft fd fo fk fv k).length ≤ 24 * k := by
  intro k
  induction k with
  | zero => simp [encOps]
  | succ k ih =>
    simp only [encOps, List.length_append]
    have := encOp_le (cn + k) (ft k) (fd k) (fo k) (fk k) (fv k)
    omega
noncomputable def encHead (ac sq cn mn : Nat) (cv : Nat → Nat) : List Int32 := [nI ac] ++ encUf 4 sq ++ encUf 4 cn ++ [nI (bitsN ac cv 8)] ++ encClk ac cv 8 ++ encUf 4 mn
noncomputable def encBody (ac sq cn mn : Nat) (cv : Nat → Nat) (ft fd fo : Nat → Int32) (fk : Nat → Int64) (fv : Nat → Int32) : List Int32 := encHead ac sq cn mn cv ++ encOps cn ft fd fo fk fv mn
theorem encHead_le (ac sq cn mn : Nat) (cv : Nat → Nat) : (encHead ac sq cn mn cv).length ≤ 57 := by
  unfold encHead
  have h1 := encUf_le 4 sq
  have h2 := encUf_le 4 cn
  have h3 := encUf_le 4 mn
  have h4 := encClk_le ac cv 8
  simp only [List.length_append, List.length_cons, List.length_nil]
  omega
theorem Hd_nil (f : Nat → Int32) : Hd [] f := fun i h => absurd h (Nat.not_lt_zero i)
/-! ===== the CHECK ===== -/
def crc1 (c : Int32) : Int32 := if c &&& 1 = 1 then (c.toUInt32 >>> ((1 : Int32).toUInt32 &&& Int32.toUInt32 31)).toInt32 ^^^ (-306674912) else (c.toUInt32 >>> ((1 : Int32).toUInt32 &&& Int32.toUInt32 31)).toInt32
def crcN : Nat → Int32 → Int32
  | 0, c => c
  | j + 1, c => crcN j (crc1 c)
/-- n bytes of l from a on -/
def crcR (l : List Int32) : Int32 → Nat → Nat → Int32
  | c, _, 0 => c
  | c, a, n + 1 => crcR l (crcN 8 (c ^^^ (l.getD a 0 &&& 255))) (a + 1) n
theorem vp_in_c {x N : Int32} {n : Nat} (hN : N.toInt = n) (h1 : ¬ x < 0) (h2 : ¬ N ≤ x) : vp_in x n := by
  rw [vp_in_iff]
  rw [Int32.lt_iff_toInt_lt, Int32.toInt_zero] at h1
  rw [Int32.le_iff_toInt_le, hN] at h2
  omega
theorem vp_in_s8 {x : Int32} (h1 : ¬ x < 8) (h2 : ¬ 16 ≤ x) : vp_in (x - 8) 8 := by
  have h0 : ¬ x < 0 := fun z => h1 (Int32.lt_trans z (by decide))
  obtain ⟨j, hj, rfl⟩ := nI_of h0
  have a1 : 8 ≤ j := Nat.not_lt.mp (fun z => h1 (nI_lt (a := j) (b := 8) z (by decide)))
  have a2 : j < 16 := Nat.not_le.mp (fun z => h2 (nI_le (a := 16) (b := j) z hj))
  rw [show (8 : Int32) = nI 8 from rfl, pk_sub a1]
  exact vp_in_nI (by omega) (by decide)
theorem vp_in_mn {x : Int32} {mn N : Nat} (hm : mn ≤ N) (hN : N < 2 ^ 31) (h1 : ¬ x < 0) (h2 : ¬ nI mn ≤ x) : vp_in x N := by
  obtain ⟨j, hj, rfl⟩ := nI_of h1
  have a2 : j < mn := Nat.not_le.mp (fun z => h2 (nI_le (a := mn) (b := j) z hj))
  exact vp_in_nI (by omega) hN
theorem vp_lt_n {x : Int32} {n : Nat} (hn : n < 2 ^ 31) (h1 : ¬ x < 0) (h2 : x < nI n) : x.toNatClampNeg < n := by
  obtain ⟨j, hj, rfl⟩ := nI_of h1
  rw [nI_clamp hj]
  exact (nI_ltI hj hn).mp h2
theorem ltb_sar8 (v : Int64) (k : Nat) (hk : k < 8) : (v >>> ((nI (8 * k)).toInt64 &&& 63)).toInt32 &&& 255 = ltb v k := by
  rw [← ltb_sar v k hk]
  apply Int32.toBitVec_inj.mp
  apply BitVec.eq_of_getLsbD_eq
  intro i hi
  have hm : ∀ i, i < 32 → (255 : Int32).toBitVec.getLsbD i = decide (i < 8) := by decide
  have hm2 : ∀ i, i < 64 → (255 : Int64).toBitVec.getLsbD i = decide (i < 8) := by decide
  rw [Int32.toBitVec_and, Int32.toBitVec_and, BitVec.getLsbD_and, BitVec.getLsbD_and, hm i hi, Int64.toBitVec_toInt32, Int64.toBitVec_toInt32, BitVec.getLsbD_signExtend, BitVec.getLsbD_signExtend, if_pos (by omega), if_pos (by omega), Int64.toBitVec_and, BitVec.getLsbD_and, hm2 i (by omega)]
  by_cases h8 : i < 8 <;> simp [h8]
theorem Hd_cut {l : List Int32} {f g : Nat → Int32} (h : Hd l f) (hg : ∀ i, i < l.length → g i = f i) : Hd l g := fun i hi => (hg i hi).trans (h i hi)
theorem encBody_le {ac sq cn mn : Nat} {cv : Nat → Nat} {ft fd fo : Nat → Int32} {fk : Nat → Int64} {fv : Nat → Int32} (hmn : mn ≤ 16) : (encBody ac sq cn mn cv ft fd fo fk fv).length ≤ 441 := by
  unfold encBody
  have h1 := encHead_le ac sq cn mn cv
  have h2 := encOps_le cn ft fd fo fk fv mn
  rw [List.length_append]
  omega
def aheadN (n : Nat) : Nat := if n < 128 then 1 else 2
theorem aheadN_I (n : Nat) : (if n < 128 then (1 : Int32) else 2) = nI (aheadN n) := by
  unfold aheadN
  split <;> rfl
