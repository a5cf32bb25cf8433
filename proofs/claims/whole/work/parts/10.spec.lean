/-! ===== numbers and rows of bytes, apart from any class ===== -/
def by8 (x : Int32) : Int32 := x.toInt8.toInt32
theorem by8_255 (x : Int32) : by8 (x &&& 255) = by8 x := by
  have h : (x &&& 255).toInt8 = x.toInt8 := by
    apply Int8.toBitVec_inj.mp
    rw [Int32.toBitVec_toInt8, Int32.toBitVec_toInt8, Int32.toBitVec_and]
    apply BitVec.eq_of_getLsbD_eq
    intro i hi
    have h32 : i < 32 := by omega
    have hz : (255 : Int32).toBitVec.getLsbD i = true := by
      have : ∀ j, j < 8 → (255 : Int32).toBitVec.getLsbD j = true := by decide
      exact this i hi
    rw [BitVec.getLsbD_signExtend, BitVec.getLsbD_signExtend, if_pos h32, if_pos h32, BitVec.getLsbD_and, hz, Bool.and_true]
  unfold by8
  rw [h]
theorem by8_and (x : Int32) : by8 x &&& 255 = x &&& 255 := by
  apply Int32.toBitVec_inj.mp
  unfold by8
  apply BitVec.eq_of_getLsbD_eq
  intro i hi
  rw [Int32.toBitVec_and, Int32.toBitVec_and, BitVec.getLsbD_and, BitVec.getLsbD_and]
  by_cases h8 : i < 8
  · rw [Int8.toBitVec_toInt32, Int32.toBitVec_toInt8, BitVec.getLsbD_signExtend, if_pos h8, BitVec.getLsbD_signExtend, if_pos hi]
    simp [h8, hi]
  · have hz : (255 : Int32).toBitVec.getLsbD i = false := by
      have : ∀ j, j < 32 → ¬ j < 8 → (255 : Int32).toBitVec.getLsbD j = false := by decide
      exact this i hi h8
    rw [hz, Bool.and_false, Bool.and_false]
/-- a row f of bytes begins with those of l (each as a number 0 .. 255) -/
def Hd (l : List Int32) (f : Nat → Int32) : Prop := ∀ i, i < l.length → f i = by8 (l.getD i 0)
theorem Hd_put {l : List Int32} {f : Nat → Int32} (h : Hd l f) (x : Int32) : Hd (l ++ [x &&& 255]) (upd f l.length (vp_nar .byte x)) := by
  intro i hi
  rw [List.length_append, List.length_singleton] at hi
  by_cases e : i = l.length
  · subst e
    rw [pk_us, vp_nar_byte]
    simp only [List.getD_eq_getElem?_getD, List.getElem?_append_right (Nat.le_refl _), Nat.sub_self, List.getElem?_cons_zero, Option.getD_some]
    exact (by8_255 x).symm
  · have hl : i < l.length := by omega
    rw [pk_un e, h i hl]
    simp only [List.getD_eq_getElem?_getD, List.getElem?_append_left hl]
theorem by8_by8 (x : Int32) : vp_nar .byte x.toInt8.toInt32 = vp_nar .byte x := by
  rw [vp_nar_byte, vp_nar_byte]
  simp
/-- U: groups of seven bits, the lowest first -/
def encUf : Nat → Nat → List Int32
  | 0, n => [nI n]
  | k + 1, n => if n < 128 then [nI n] else nI (128 + n % 128) :: encUf k (n / 128)
def encU (n : Nat) : List Int32 := encUf 4 n
theorem encUf_pos (k n : Nat) : 0 < (encUf k n).length := by
  cases k with
  | zero => simp [encUf]
  | succ k => simp only [encUf]; split <;> simp
theorem encUf_le : ∀ k n : Nat, (encUf k n).length ≤ k + 1 := by
  intro k
  induction k with
  | zero => intro n; simp [encUf]
  | succ k ih => intro n; simp only [encUf]; split
                 · simp
                 · simp only [List.length_cons]; have := ih (n / 128); omega
theorem nI_127 {n : Nat} (h : n < 2 ^ 31) : nI n ≤ 127 ↔ n < 128 := by
  have h1 := nI_leI (a := n) (b := 127) h (by decide)
  exact (show nI n ≤ nI 127 ↔ n < 128 by rw [h1]; omega)
theorem nI_255 {n : Nat} (h : n < 256) : nI n &&& 255 = nI n := by
  have h1 := pk_andN (n := n) (by omega) (m := 255) 8 (by decide)
  rw [h1, Nat.mod_eq_of_lt (by omega)]
/-- S: groups of seven bits of an int, with its sign; each as a byte 0 .. 255 -/
def encSf : Nat → Int32 → List Int32
  | 0, v => [(v &&& 127) &&& 255]
  | k + 1, v => if v < -64 ∨ 63 < v then ((v &&& 127 ||| 128) &&& 255) :: encSf k (v >>> ((7 : Int32) &&& 31)) else [(v &&& 127) &&& 255]
theorem encSf_pos (k : Nat) (v : Int32) : 0 < (encSf k v).length := by
  cases k with
  | zero => simp [encSf]
  | succ k => simp only [encSf]; split <;> simp
theorem encSf_le : ∀ (k : Nat) (v : Int32), (encSf k v).length ≤ k + 1 := by
  intro k
  induction k with
  | zero => intro v; simp [encSf]
  | succ k ih => intro v; simp only [encSf]; split
                 · simp only [List.length_cons]; have := ih (v >>> ((7 : Int32) &&& 31)); omega
                 · simp
/-- so many groups are enough -/
def inS (k : Nat) (v : Int32) : Prop := -(64 * 128 ^ k : Int) ≤ v.toInt ∧ v.toInt < (64 * 128 ^ k : Int)
theorem inS_4 (v : Int32) : inS 4 v := by
  have h1 := Int32.le_toInt v
  have h2 := Int32.toInt_lt v
  unfold inS
  omega
theorem inS_shr {k : Nat} {v : Int32} (h : inS (k + 1) v) : inS k (v >>> ((7 : Int32) &&& 31)) := by
  have e : (v >>> ((7 : Int32) &&& 31)).toInt = v.toInt >>> 7 := pk_shr v _ 7 (by decide)
  unfold inS at h ⊢
  rw [e, Int.shiftRight_eq_div_pow]
  have hp : (128 : Int) ^ (k + 1) = 128 ^ k * 128 := Int.pow_succ ..
  rw [hp] at h
  generalize (128 : Int) ^ k = q at h ⊢
  omega
theorem inS_0 {v : Int32} (h : inS 0 v) : ¬ (v < -64 ∨ 63 < v) := by
  unfold inS at h
  rw [Int32.lt_iff_toInt_lt, Int32.lt_iff_toInt_lt]
  have e1 : (-64 : Int32).toInt = -64 := by decide
  have e2 : (63 : Int32).toInt = 63 := by decide
  rw [e1, e2]
  simp only [Int.pow_zero] at h
  omega
/-! ===== answers of methods that only read ===== -/
def b2i (b : Bool) : Int32 := if b then 1 else 0
theorem b2i_t {P : Prop} {d : Decidable P} (h : P) : (1 : Int32) = b2i (@decide P d) := by rw [decide_eq_true h]; rfl
theorem b2i_f {P : Prop} {d : Decidable P} (h : ¬ P) : (0 : Int32) = b2i (@decide P d) := by rw [decide_eq_false h]; rfl
theorem b2i_n (b : Bool) : narrow .boolean (.int (b2i b)) = .int (b2i b) := by cases b <;> rfl
theorem b2i_1 {P : Prop} {d : Decidable P} : b2i (@decide P d) = 0 ↔ ¬ P := by
  by_cases h : P
  · rw [decide_eq_true h]; simp [b2i, h]
  · rw [decide_eq_false h]; simp [b2i, h]
def qr_L (r : Int64) : Array Value → State → Outcome → State → Prop := fun _ st o t => o = .returned (some (.long r)) ∧ t.heap = st.heap
theorem qr_call {p : Program} {l : Launch} {e : Env} {R : Room} {s : State} {m : MethodId} {args : Array Value} {below : List Frame} {meth : Method} {c : Code} {H : Heap} {locs : List Loc} {cells slots : Nat} {Q : State → Prop} {g : JFrame} {rest : List Value} {a : Array Value} {r : Int64}
    (hr : CallRun p l e R s m args below meth c H locs cells slots 0 0 g rest (qr_L r a) (fun _ => False)) (kk : W p l e R s m args below meth c H locs cells slots Q { g with pc := g.pc + 3, stack := .long r :: rest }) : W p l e R s m args below meth c H locs cells slots Q g := by
  intro T hT X
  obtain ⟨v, st₀, t, T', L, h0, X', hL, e1, ⟨hv, hh⟩, st⟩ := hr T hT X
  cases hv
  obtain ⟨t2, a1, b1⟩ := kk T' (by rw [e1, hh, h0]) (Stand.forget X' (fun q h => (hL q h).elim))
  exact ⟨t2, st t2 a1, b1⟩
abbrev kr_pre (dC : Nat → ClassId) (dI : Nat → Nat → Nat) (tys : List (ClassId × FieldType)) (w0 : va_W) (U : State) : Prop := va_P (dC, dI) vcl w0 U.heap ∧ va_K (dC, dI) vcl tys U
theorem lc_lt {x y : Int64} : lg_cmp x y < 0 ↔ x < y := by
  unfold lg_cmp
  by_cases h1 : y < x
  · simp only [h1, if_true]; exact ⟨fun z => absurd z (by decide), fun z => absurd h1 (Int64.lt_asymm z)⟩
  · by_cases h2 : x = y
    · subst h2; simp
    · simp only [h1, h2, if_false]; exact ⟨fun _ => Int64.lt_of_le_of_ne (Int64.not_lt.mp h1) h2, fun _ => by decide⟩
theorem lc_gt {x y : Int64} : 0 < lg_cmp x y ↔ y < x := by
  unfold lg_cmp
  by_cases h1 : y < x
  · simp only [h1, if_true]; exact ⟨fun _ => trivial, fun _ => by decide⟩
  · by_cases h2 : x = y
    · subst h2; simp
    · simp only [h1, h2, if_false]; exact ⟨fun z => absurd z (by decide), fun z => z.elim⟩
theorem lc_eq {x y : Int64} : lg_cmp x y = 0 ↔ x = y := by
  unfold lg_cmp
  by_cases h1 : y < x
  · simp only [h1, if_true]; exact ⟨fun z => absurd z (by decide), fun z => absurd h1 (by rw [z]; exact Int64.lt_irrefl)⟩
  · by_cases h2 : x = y
    · subst h2; simp
    · simp only [h1, h2, if_false]; exact ⟨fun z => absurd z (by decide), fun z => z.elim⟩
theorem lc_ge {x y : Int64} : 0 ≤ lg_cmp x y ↔ y ≤ x := by
  rw [← Int64.not_lt, ← Int32.not_lt, lc_lt]
theorem lc_le {x y : Int64} : lg_cmp x y ≤ 0 ↔ x ≤ y := by
  rw [← Int64.not_lt, ← Int32.not_lt, lc_gt]
/-! ===== letters of a long, the last one lowest ===== -/
def lb8 (v : Int64) : Int32 := (v &&& 255).toInt32
def sh8 (v : Int64) : Int64 := (v.toUInt64 >>> ((8 : Int32).toInt64.toUInt64 &&& Int64.toUInt64 63)).toInt64
def isLt (c : Int32) : Prop := ¬ c < 97 ∧ ¬ 122 < c
theorem isLt_dec (c : Int32) : isLt c ∨ ¬ isLt c := Classical.em _
noncomputable def ltrs : Nat → Int64 → Option Nat
  | 0, _ => some 0
  | k + 1, v => @ite _ (v = 0) (Classical.propDecidable _) (some 0) (@ite _ (isLt (lb8 v)) (Classical.propDecidable _) ((ltrs k (sh8 v)).map (fun j => j + 1)) none)
theorem ltrs_z (k : Nat) : ltrs k 0 = some 0 := by
  cases k with
  | zero => rfl
  | succ k => rw [ltrs, if_pos rfl]
theorem ltrs_y {k : Nat} {v : Int64} (h : ¬ v = 0) (h2 : isLt (lb8 v)) : ltrs (k + 1) v = (ltrs k (sh8 v)).map (fun j => j + 1) := by rw [ltrs, if_neg h, if_pos h2]
theorem ltrs_n {k : Nat} {v : Int64} (h : ¬ v = 0) (h2 : ¬ isLt (lb8 v)) : ltrs (k + 1) v = none := by rw [ltrs, if_neg h, if_neg h2]
def ltR (g : Bool) (n : Nat) (o : Option Nat) : Int32 := match o with
  | some j => if g then nI (n + j) else -1
  | none => -1
theorem ltR_f (n : Nat) (o : Option Nat) : ltR false n o = -1 := by cases o <;> rfl
theorem ltR_n {g : Bool} (h : b2i g = 0) (n : Nat) (o : Option Nat) : ltR g n o = -1 := by
  cases g
  · exact ltR_f n o
  · exact absurd h (by decide)
theorem ltR_t {g : Bool} (h : ¬ b2i g = 0) (n : Nat) : ltR g n (some 0) = nI n := by
  cases g
  · exact absurd rfl h
  · rfl
theorem ltR_s (g : Bool) (n : Nat) (o : Option Nat) : ltR g n (o.map (fun j => j + 1)) = ltR g (n + 1) o := by
  cases o with
  | none => rfl
  | some j => simp only [Option.map_some, ltR]; rw [show n + (j + 1) = n + 1 + j by omega]
theorem b2i_tt {g : Bool} (h : ¬ b2i g = 0) : g = true := by
  cases g
  · exact absurd rfl h
  · rfl
def inL (k : Nat) (v : Int64) : Prop := v.toUInt64.toNat < 256 ^ k
theorem inL_8 (v : Int64) : inL 8 v := v.toUInt64.toNat_lt
theorem sh8_nat (v : Int64) : (sh8 v).toUInt64.toNat = v.toUInt64.toNat / 256 := by
  unfold sh8
  rw [show ((8 : Int32).toInt64.toUInt64 &&& Int64.toUInt64 63) = (8 : UInt64) by decide]
  simp only [UInt64.toUInt64_toInt64, UInt64.toNat_shiftRight]
  rw [show (8 : UInt64).toNat % 64 = 8 by decide, Nat.shiftRight_eq_div_pow]
theorem inL_sh {k : Nat} {v : Int64} (h : inL (k + 1) v) : inL k (sh8 v) := by
  unfold inL at h ⊢
  rw [sh8_nat]
  rw [Nat.pow_succ] at h
  exact Nat.div_lt_of_lt_mul (by rw [Nat.mul_comm]; exact h)
theorem inL_0 {v : Int64} (h : inL 0 v) : v = 0 := by
  unfold inL at h
  have h1 : v.toUInt64 = 0 := UInt64.toNat_inj.mp (by rw [show (0 : UInt64).toNat = 0 from rfl]; omega)
  have h2 : v.toUInt64.toInt64 = (0 : UInt64).toInt64 := by rw [h1]
  simpa using h2
/-- letter k of a long, from the lowest on -/
def ltb (v : Int64) (k : Nat) : Int32 := nI (v.toUInt64.toNat / 256 ^ k % 256)
def encLk : Nat → Int64 → List Int32
  | 0, _ => []
  | j + 1, v => ltb v j :: encLk j v
theorem encLk_len (j : Nat) (v : Int64) : (encLk j v).length = j := by
  induction j with
  | zero => rfl
  | succ j ih => simp [encLk, ih]
theorem ltrs_le : ∀ (k : Nat) (v : Int64) (n : Nat), ltrs k v = some n → n ≤ k := by
  intro k
  induction k with
  | zero => intro v n h; simp [ltrs] at h; omega
  | succ k ih =>
    intro v n h
    by_cases h1 : v = 0
    · rw [h1, ltrs_z] at h; cases h; omega
    · by_cases h2 : isLt (lb8 v)
      · rw [ltrs_y h1 h2] at h
        cases ho : ltrs k (sh8 v) with
        | none => rw [ho] at h; cases h
        | some j => rw [ho] at h; cases h; have := ih _ _ ho; show j + 1 ≤ k + 1; omega
      · rw [ltrs_n h1 h2] at h; cases h
theorem ltb_sar (v : Int64) (k : Nat) (hk : k < 8) : ((v >>> ((nI (8 * k)).toInt64 &&& 63)) &&& 255).toInt32 &&& 255 = ltb v k := by
  have hc : ∀ k, k < 8 → ((nI (8 * k)).toInt64 &&& 63) = Int64.ofNat (8 * k) := by decide
  have hs : ∀ k, k < 8 → (Int64.ofNat (8 * k)).toBitVec.smod 64 = BitVec.ofNat 64 (8 * k) := by decide
  rw [hc k hk]
  apply Int32.toBitVec_inj.mp
  apply BitVec.eq_of_getLsbD_eq
  intro i hi
  have hm : ∀ i, i < 32 → (255 : Int32).toBitVec.getLsbD i = decide (i < 8) := by decide
  have hm2 : ∀ i, i < 64 → (255 : Int64).toBitVec.getLsbD i = decide (i < 8) := by decide
  have e2 : (ltb v k).toBitVec.getLsbD i = (decide (i < 8) && v.toBitVec.getLsbD (8 * k + i)) := by
    have h1 : (ltb v k).toBitVec = BitVec.ofNat 32 (v.toBitVec.toNat / 256 ^ k % 256) := rfl
    rw [h1, BitVec.getLsbD_ofNat, show (256 : Nat) = 2 ^ 8 from rfl, ← Nat.pow_mul, Nat.testBit_mod_two_pow, Nat.testBit_div_two_pow]
    simp only [hi, decide_true, Bool.true_and]
    rw [show i + 8 * k = 8 * k + i by omega]
    rfl
  rw [e2, Int32.toBitVec_and, BitVec.getLsbD_and, hm i hi, Bool.and_comm]
  by_cases h8 : i < 8
  · simp only [h8, decide_true, Bool.true_and]
    rw [Int64.toBitVec_toInt32, BitVec.getLsbD_signExtend, if_pos (by omega), Int64.toBitVec_and, BitVec.getLsbD_and, hm2 i (by omega), decide_eq_true h8, Bool.and_true, decide_eq_true hi, Bool.true_and]
    rw [Int64.toBitVec_shiftRight, hs k hk, BitVec.getLsbD_sshiftRight']
    have hz : (BitVec.ofNat 64 (8 * k)).toNat = 8 * k := by rw [BitVec.toNat_ofNat]; exact Nat.mod_eq_of_lt (by omega)
    rw [hz, if_pos (by omega), decide_eq_false (by omega)]
    rfl
  · simp [h8]
theorem nI_sm {j : Nat} : nI (j + 1) - 1 = nI j := nI_pred j
theorem i32_m1 (x : Int32) : x + -1 = x - 1 := (Int32.sub_eq_add_neg x 1).symm
/-- REF of an id from an operation with the counter c -/
def refN (c i : Nat) : Nat := if i = 0 then 0 else (c - i / 8) * 8 + i % 8 + 1
theorem refN_lt {c i : Nat} (h : c ≤ 200000) : refN c i < 2147483648 := by
  unfold refN
  split
  · omega
  · have := Nat.mod_lt i (show 0 < 8 by omega); omega
theorem encUf_0 (k : Nat) : encUf k 0 = [nI 0] := by cases k <;> simp [encUf]
/-! ===== the bytes of an operation ===== -/
def refOf (c : Nat) (x : Int32) : List Int32 := encUf 4 (refN c x.toNatClampNeg)
theorem refOf_nI {c i : Nat} {x : Int32} (h : x = nI i) (hi : i < 2147483648) : refOf c x = encUf 4 (refN c i) := by rw [h, refOf, nI_clamp (by omega)]
noncomputable def encLt (v : Int64) : List Int32 := match ltrs 8 v with
  | some n => nI n :: encLk n v
  | none => []
theorem encLt_some {v : Int64} {n : Nat} (h : ltrs 8 v = some n) : encLt v = nI n :: encLk n v := by rw [encLt, h]
noncomputable def encKey (c : Nat) (t : Int32) (ky : Int64) : List Int32 := if 2 ≤ t then (if t ≤ 2 then [] else refOf c ky.toInt32) else encLt ky
noncomputable def encVal (t d va : Int32) : List Int32 := if t = 2 then encSf 4 va else if d = 2 then encSf 4 va else if d = 4 then encSf 4 va else if d = 1 then [va &&& 255] else if d = 3 then encLt (va.toInt64 &&& 4294967295) else []
noncomputable def encOp (c : Nat) (t d ob : Int32) (ky : Int64) (va : Int32) : List Int32 := [(t + 8 * d) &&& 255] ++ refOf c ob ++ encKey c t ky ++ encVal t d va
/-- an operation that can be laid -/
def okOp (c : Nat) (t d ob : Int32) (ky : Int64) (va : Int32) : Prop :=
  (∃ i, i < 2147483648 ∧ ob = nI i ∧ i / 8 ≤ c) ∧ (¬ 2 ≤ t → ∃ n, ltrs 8 ky = some n) ∧ (¬ t ≤ 2 → ∃ i, i < 2147483648 ∧ ky.toInt32 = nI i ∧ i / 8 ≤ c) ∧ (d = 3 → ∃ n, ltrs 8 (va.toInt64 &&& 4294967295) = some n)
theorem refOf_le (c : Nat) (x : Int32) : (refOf c x).length ≤ 5 := encUf_le 4 _
theorem encLt_le (v : Int64) : (encLt v).length ≤ 9 := by
  unfold encLt
  split
  · rename_i n h
    have := ltrs_le 8 v n h
    rw [List.length_cons, encLk_len]
    omega
  · simp
theorem encKey_le (c : Nat) (t : Int32) (ky : Int64) : (encKey c t ky).length ≤ 9 := by
  unfold encKey
  split
  · split
    · simp
    · have := refOf_le c ky.toInt32; omega
  · exact encLt_le ky
theorem encVal_le (t d va : Int32) : (encVal t d va).length ≤ 9 := by
  unfold encVal
  have h1 := encSf_le 4 va
  have h2 := encLt_le (va.toInt64 &&& 4294967295)
  split
  · omega
  · split
    · omega
    · split
      · omega
      · split
        · simp
        · split
          · exact h2
          · simp
theorem encOp_le (c : Nat) (t d ob : Int32) (ky : Int64) (va : Int32) : (encOp c t d ob ky va).length ≤ 24 := by
  unfold encOp
  have h1 := refOf_le c ob
  have h2 := encKey_le c t ky
  have h3 := encVal_le t d va
  simp only [List.length_append, List.length_cons, List.length_nil]
  omega
