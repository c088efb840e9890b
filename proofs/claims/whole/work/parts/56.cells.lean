/-! ===== numbers: all as nI of a natural number ===== -/
def bI (b : Bool) : Int32 := if b then nI 1 else nI 0
theorem bI_or (b : Bool) : bI b = 0 ∨ bI b = 1 := by cases b <;> decide
theorem bI_nar (b : Bool) : vp_nar .boolean (bI b) = bI b := by cases b <;> rfl
theorem bI_rZ (b : Bool) : rZ (bI b) = some (bI b) := by cases b <;> rfl
theorem bI_t : bI true = nI 1 := rfl
theorem bI_f : bI false = nI 0 := rfl
def m1 : Int32 := -1
theorem li_m1 : (-1 : Int32) = m1 := rfl
theorem LI : ((0 : Int32) = nI 0) ∧ ((1 : Int32) = nI 1) ∧ ((2 : Int32) = nI 2) ∧ ((3 : Int32) = nI 3) ∧ ((4 : Int32) = nI 4) ∧ ((5 : Int32) = nI 5) ∧ ((6 : Int32) = nI 6) ∧ ((7 : Int32) = nI 7) ∧ ((8 : Int32) = nI 8) ∧ ((9 : Int32) = nI 9) ∧ ((10 : Int32) = nI 10) ∧ ((11 : Int32) = nI 11) ∧ ((12 : Int32) = nI 12) ∧ ((13 : Int32) = nI 13) ∧ ((14 : Int32) = nI 14) ∧ ((15 : Int32) = nI 15) ∧ ((16 : Int32) = nI 16) ∧ ((17 : Int32) = nI 17) ∧ ((18 : Int32) = nI 18) ∧ ((19 : Int32) = nI 19) ∧ ((20 : Int32) = nI 20) ∧ ((21 : Int32) = nI 21) ∧ ((22 : Int32) = nI 22) ∧ ((23 : Int32) = nI 23) ∧ ((24 : Int32) = nI 24) ∧ ((25 : Int32) = nI 25) ∧ ((26 : Int32) = nI 26) ∧ ((27 : Int32) = nI 27) ∧ ((28 : Int32) = nI 28) ∧ ((29 : Int32) = nI 29) ∧ ((30 : Int32) = nI 30) ∧ ((31 : Int32) = nI 31) ∧ ((32 : Int32) = nI 32) ∧ ((33 : Int32) = nI 33) ∧ ((34 : Int32) = nI 34) ∧ ((35 : Int32) = nI 35) ∧ ((36 : Int32) = nI 36) ∧ ((37 : Int32) = nI 37) ∧ ((38 : Int32) = nI 38) ∧ ((39 : Int32) = nI 39) ∧ ((40 : Int32) = nI 40) ∧ ((41 : Int32) = nI 41) ∧ ((42 : Int32) = nI 42) ∧ ((43 : Int32) = nI 43) ∧ ((44 : Int32) = nI 44) ∧ ((48 : Int32) = nI 48) ∧ ((49 : Int32) = nI 49) ∧ ((52 : Int32) = nI 52) ∧ ((56 : Int32) = nI 56) ∧ ((57 : Int32) = nI 57) ∧ ((59 : Int32) = nI 59) ∧ ((60 : Int32) = nI 60) ∧ ((61 : Int32) = nI 61) ∧ ((63 : Int32) = nI 63) ∧ ((64 : Int32) = nI 64) ∧ ((76 : Int32) = nI 76) ∧ ((97 : Int32) = nI 97) ∧ ((99 : Int32) = nI 99) ∧ ((100 : Int32) = nI 100) ∧ ((122 : Int32) = nI 122) ∧ ((148 : Int32) = nI 148) ∧ ((176 : Int32) = nI 176) ∧ ((180 : Int32) = nI 180) ∧ ((200 : Int32) = nI 200) ∧ ((204 : Int32) = nI 204) ∧ ((208 : Int32) = nI 208) ∧ ((212 : Int32) = nI 212) ∧ ((216 : Int32) = nI 216) ∧ ((240 : Int32) = nI 240) ∧ ((255 : Int32) = nI 255) ∧ ((256 : Int32) = nI 256) ∧ ((257 : Int32) = nI 257) ∧ ((300 : Int32) = nI 300) ∧ ((400 : Int32) = nI 400) ∧ ((900 : Int32) = nI 900) ∧ ((901 : Int32) = nI 901) ∧ ((1024 : Int32) = nI 1024) ∧ ((1600 : Int32) = nI 1600) ∧ ((1601 : Int32) = nI 1601) ∧ ((1602 : Int32) = nI 1602) ∧ ((1603 : Int32) = nI 1603) ∧ ((1604 : Int32) = nI 1604) ∧ ((1607 : Int32) = nI 1607) ∧ ((1608 : Int32) = nI 1608) ∧ ((1632 : Int32) = nI 1632) ∧ ((1656 : Int32) = nI 1656) ∧ ((1660 : Int32) = nI 1660) ∧ ((1664 : Int32) = nI 1664) ∧ ((1676 : Int32) = nI 1676) ∧ ((1748 : Int32) = nI 1748) ∧ ((2100 : Int32) = nI 2100) ∧ ((2417 : Int32) = nI 2417) ∧ ((4369 : Int32) = nI 4369) ∧ ((9999 : Int32) = nI 9999) ∧ ((10000 : Int32) = nI 10000) ∧ ((10613 : Int32) = nI 10613) ∧ ((65535 : Int32) = nI 65535) ∧ ((65536 : Int32) = nI 65536) ∧ ((100000 : Int32) = nI 100000) :=
  ⟨rfl, rfl, rfl, rfl, rfl, rfl, rfl, rfl, rfl, rfl, rfl, rfl, rfl, rfl, rfl, rfl, rfl, rfl, rfl, rfl, rfl, rfl, rfl, rfl, rfl, rfl, rfl, rfl, rfl, rfl, rfl, rfl, rfl, rfl, rfl, rfl, rfl, rfl, rfl, rfl, rfl, rfl, rfl, rfl, rfl, rfl, rfl, rfl, rfl, rfl, rfl, rfl, rfl, rfl, rfl, rfl, rfl, rfl, rfl, rfl, rfl, rfl, rfl, rfl, rfl, rfl, rfl, rfl, rfl, rfl, rfl, rfl, rfl, rfl, rfl, rfl, rfl, rfl, rfl, rfl, rfl, rfl, rfl, rfl, rfl, rfl, rfl, rfl, rfl, rfl, rfl, rfl, rfl, rfl, rfl, rfl, rfl, rfl, rfl⟩
theorem LJ : ((0 : Int64) = lN 0) ∧ ((1 : Int64) = lN 1) :=
  ⟨rfl, rfl⟩
theorem nn_tb (n : Nat) : (nI n).toBitVec = BitVec.ofNat 32 n := by
  apply BitVec.eq_of_toNat_eq
  show (Int32.ofNat n).toBitVec.toNat = _
  simp [Int32.toBitVec_ofNat]
theorem nn_inj {x y : Int32} (h : x.toBitVec = y.toBitVec) : x = y := Int32.toBitVec_inj.mp h
theorem nn_and (a b : Nat) : nI a &&& nI b = nI (a &&& b) := by
  apply nn_inj
  rw [Int32.toBitVec_and, nn_tb, nn_tb, nn_tb, BitVec.ofNat_and]
theorem nn_or (a b : Nat) : nI a ||| nI b = nI (a ||| b) := by
  apply nn_inj
  rw [Int32.toBitVec_or, nn_tb, nn_tb, nn_tb, BitVec.ofNat_or]
theorem nn_xor (a b : Nat) : nI a ^^^ nI b = nI (a ^^^ b) := by
  apply nn_inj
  rw [Int32.toBitVec_xor, nn_tb, nn_tb, nn_tb, BitVec.ofNat_xor]
theorem nn_sm : ∀ s, s < 32 → ((nI s).toBitVec.smod 32).toNat = s := by decide +kernel
theorem nn_shr {a s : Nat} (ha : a < 2147483648) (hs : s < 32) : nI a >>> nI s = nI (a >>> s) := by
  rw [Nat.shiftRight_eq_div_pow]
  exact pk_shrN (by omega) (nI s) s (nn_sm s hs)
theorem nn_shl {a s : Nat} (h : a * 2 ^ s < 4294967296) (hs : s < 32) : nI a <<< nI s = nI (a * 2 ^ s) :=
  pk_shlN (nI s) s (nn_sm s hs) (by omega)
theorem nn_1shl : ∀ s, s < 32 → nI 1 <<< nI s = nI (2 ^ s) := by decide +kernel
theorem nn_31 {s : Nat} (h : s < 32) : s &&& 31 = s := by
  rw [show (31 : Nat) = 2 ^ 5 - 1 from rfl, Nat.and_two_pow_sub_one_eq_mod]
  omega
theorem nn_a1 (s : Nat) : s &&& 1 = s % 2 := by
  rw [show (1 : Nat) = 2 ^ 1 - 1 from rfl, Nat.and_two_pow_sub_one_eq_mod]
theorem nn_m1 {n : Nat} (h : 1 ≤ n) : nI n + m1 = nI (n - 1) := sb_m1 (by omega)
theorem nn_sub {a b : Nat} (h : b ≤ a) : nI a - nI b = nI (a - b) := pk_sub h
theorem nn_div {a d : Nat} (ha : a < 2147483648) (h0 : 0 < d) (hd : d < 2147483648) : nI a / nI d = nI (a / d) := pk_div (by omega) h0 (by omega)
theorem nn_rem {a d : Nat} (ha : a < 2147483648) (h0 : 0 < d) (hd : d < 2147483648) : nI a - nI (a / d * d) = nI (a % d) := by
  rw [← pk_rem (by omega) h0 (by omega), pk_div (by omega) h0 (by omega), pk_mul]
theorem nn_mod (a d : Nat) : a - a / d * d = a % d := by
  have := Nat.div_add_mod a d
  rw [Nat.mul_comm] at this
  omega
theorem nn_tb1 (m k : Nat) : (m >>> k) &&& 1 = (m.testBit k).toNat := by
  rw [Nat.testBit_eq_decide_div_mod_eq, show (1 : Nat) = 2 ^ 1 - 1 from rfl, Nat.and_two_pow_sub_one_eq_mod, Nat.shiftRight_eq_div_pow]
  have : m / 2 ^ k % 2 < 2 := Nat.mod_lt _ (by decide)
  rcases (show m / 2 ^ k % 2 = 0 ∨ m / 2 ^ k % 2 = 1 by omega) with e | e <;> simp [e]
theorem nI_bt (b : Bool) : nI b.toNat = bI b := by cases b <;> rfl
theorem nJ_l {n : Nat} (h : n < 2147483648) : (nI n).toInt64 = lN n := nI_l (by omega)
theorem nn_nz {d : Nat} (h0 : 0 < d) (hd : d < 2147483648) : nz (nI d) = some () := by
  unfold nz
  rw [if_neg (nI_ne0 h0 (by omega))]
theorem il_p {α : Type} {a b : Nat} {x y : α} (h : a ≤ b) (hb : b < 2147483648) : (if nI a ≤ nI b then x else y) = x := if_pos (nI_le h (by omega))
theorem il_n {α : Type} {a b : Nat} {x y : α} (h : b < a) (ha : a < 2147483648) : (if nI a ≤ nI b then x else y) = y := if_neg (nI_ge h (by omega))
theorem it_p {α : Type} {a b : Nat} {x y : α} (h : a < b) (hb : b < 2147483648) : (if nI a < nI b then x else y) = x := if_pos (nI_lt h (by omega))
theorem it_n {α : Type} {a b : Nat} {x y : α} (h : b ≤ a) (ha : a < 2147483648) : (if nI a < nI b then x else y) = y := if_neg (nI_nlt h (by omega))
theorem ie_p {α : Type} {a b : Nat} {x y : α} (h : a = b) : (if nI a = nI b then x else y) = x := if_pos (congrArg nI h)
theorem ie_n {α : Type} {a b : Nat} {x y : α} (h : a ≠ b) (ha : a < 2147483648) (hb : b < 2147483648) : (if nI a = nI b then x else y) = y := if_neg (fun e => h ((nI_eq (by omega) (by omega)).mp e))
theorem ie_b {α : Type} {b : Bool} {x y : α} : (if bI b = nI 0 then x else y) = if b = true then y else x := by cases b <;> rfl
theorem ie_b1 {α : Type} {b : Bool} {x y : α} : (if bI b = nI 1 then x else y) = if b = true then x else y := by cases b <;> rfl
theorem ie_m {α : Type} {a : Nat} {x y : α} (ha : a < 2147483648) : (if nI a = m1 then x else y) = y := if_neg (fun (e : nI a = m1) => nI_pos (n := a) (by omega) (by rw [e]; decide))
theorem ie_mm {α : Type} {x y : α} : (if m1 = m1 then x else y) = x := if_pos rfl
theorem it_m {α : Type} {a : Nat} {x y : α} (ha : a < 2147483648) : (if nI a < m1 then x else y) = y := if_neg (fun (e : nI a < m1) => nI_pos (n := a) (by omega) (Int32.lt_trans e (by decide)))
theorem it_m0 {α : Type} {x y : α} : (if m1 < nI 0 then x else y) = x := if_pos (by decide)
theorem il_m0 {α : Type} {x y : α} : (if nI 0 ≤ m1 then x else y) = y := if_neg (by decide)
theorem cl_p {a b : Nat} (ha : a < 2147483648) (hb : b < 2147483648) : (nI a ≤ nI b) = (a ≤ b) := propext (nI_leI (by omega) (by omega))
theorem cl_t {a b : Nat} (ha : a < 2147483648) (hb : b < 2147483648) : (nI a < nI b) = (a < b) := propext (nI_ltI (by omega) (by omega))
theorem cl_e {a b : Nat} (ha : a < 2147483648) (hb : b < 2147483648) : (nI a = nI b) = (a = b) := propext (nI_eq (by omega) (by omega))
/-- counts, sums, first places -/
def cntB (p : Nat → Bool) : Nat → Nat
  | 0 => 0
  | n + 1 => cntB p n + (p n).toNat
def sumN (f : Nat → Nat) : Nat → Nat
  | 0 => 0
  | n + 1 => sumN f n + f n
def orN (f : Nat → Nat) : Nat → Nat
  | 0 => 0
  | n + 1 => orN f n ||| f n
def allB (p : Nat → Bool) : Nat → Bool
  | 0 => true
  | n + 1 => allB p n && p n
def anyB (p : Nat → Bool) : Nat → Bool
  | 0 => false
  | n + 1 => anyB p n || p n
theorem cntB_le (p : Nat → Bool) : ∀ n, cntB p n ≤ n
  | 0 => Nat.le_refl 0
  | n + 1 => by
    have := cntB_le p n
    have h2 : (p n).toNat ≤ 1 := by cases p n <;> decide
    show cntB p n + (p n).toNat ≤ n + 1
    omega
theorem allB_iff {p : Nat → Bool} : ∀ {n}, allB p n = true ↔ ∀ i, i < n → p i = true
  | 0 => by simp [allB]
  | n + 1 => by
    show (allB p n && p n) = true ↔ _
    rw [Bool.and_eq_true, allB_iff]
    refine ⟨fun h i hi => ?_, fun h => ⟨fun i hi => h i (by omega), h n (by omega)⟩⟩
    rcases Nat.lt_or_ge i n with q | q
    · exact h.1 i q
    · rw [show i = n by omega]
      exact h.2
theorem anyB_iff {p : Nat → Bool} : ∀ {n}, anyB p n = true ↔ ∃ i, i < n ∧ p i = true
  | 0 => by simp [anyB]
  | n + 1 => by
    show (anyB p n || p n) = true ↔ _
    rw [Bool.or_eq_true, anyB_iff]
    constructor
    · rintro (⟨i, h1, h2⟩ | h)
      · exact ⟨i, by omega, h2⟩
      · exact ⟨n, by omega, h⟩
    · rintro ⟨i, h1, h2⟩
      rcases Nat.lt_or_ge i n with q | q
      · exact Or.inl ⟨i, q, h2⟩
      · exact Or.inr ((show i = n by omega) ▸ h2)
theorem anyB_f {p : Nat → Bool} {n : Nat} : anyB p n = false ↔ ∀ i, i < n → p i = false := by
  rw [← Bool.not_eq_true, anyB_iff]
  constructor
  · intro h i hi
    rw [← Bool.not_eq_true]
    exact fun e => h ⟨i, hi, e⟩
  · rintro h ⟨i, hi, e⟩
    rw [h i hi] at e
    cases e
theorem cntB_0 {p : Nat → Bool} : ∀ {n}, cntB p n = 0 ↔ ∀ i, i < n → p i = false
  | 0 => by simp [cntB]
  | n + 1 => by
    show cntB p n + (p n).toNat = 0 ↔ _
    constructor
    · intro h i hi
      rcases Nat.lt_or_ge i n with q | q
      · exact cntB_0.mp (by omega) i q
      · rw [show i = n by omega]
        cases hp : p n
        · rfl
        · rw [hp] at h
          exact absurd h (by simp)
    · intro h
      rw [cntB_0.mpr (fun i hi => h i (by omega)), h n (by omega)]
      rfl
theorem cntB_congr {p q : Nat → Bool} : ∀ {n}, (∀ i, i < n → p i = q i) → cntB p n = cntB q n
  | 0, _ => rfl
  | n + 1, h => by
    show cntB p n + (p n).toNat = cntB q n + (q n).toNat
    rw [cntB_congr (fun i hi => h i (by omega)), h n (by omega)]
theorem sumN_congr {p q : Nat → Nat} : ∀ {n}, (∀ i, i < n → p i = q i) → sumN p n = sumN q n
  | 0, _ => rfl
  | n + 1, h => by
    show sumN p n + p n = sumN q n + q n
    rw [sumN_congr (fun i hi => h i (by omega)), h n (by omega)]
theorem orN_congr {p q : Nat → Nat} : ∀ {n}, (∀ i, i < n → p i = q i) → orN p n = orN q n
  | 0, _ => rfl
  | n + 1, h => by
    show orN p n ||| p n = orN q n ||| q n
    rw [orN_congr (fun i hi => h i (by omega)), h n (by omega)]
theorem allB_congr {p q : Nat → Bool} : ∀ {n}, (∀ i, i < n → p i = q i) → allB p n = allB q n
  | 0, _ => rfl
  | n + 1, h => by
    show (allB p n && p n) = (allB q n && q n)
    rw [allB_congr (fun i hi => h i (by omega)), h n (by omega)]
theorem anyB_congr {p q : Nat → Bool} : ∀ {n}, (∀ i, i < n → p i = q i) → anyB p n = anyB q n
  | 0, _ => rfl
  | n + 1, h => by
    show (anyB p n || p n) = (anyB q n || q n)
    rw [anyB_congr (fun i hi => h i (by omega)), h n (by omega)]
theorem sumN_le {f : Nat → Nat} {B : Nat} : ∀ {n}, (∀ i, i < n → f i ≤ B) → sumN f n ≤ B * n
  | 0, _ => Nat.zero_le _
  | n + 1, h => by
    show sumN f n + f n ≤ B * (n + 1)
    have h1 := sumN_le (n := n) (fun i hi => h i (by omega))
    have h2 := h n (by omega)
    rw [Nat.mul_succ]
    omega
theorem orN_lt {f : Nat → Nat} {k : Nat} : ∀ {n}, (∀ i, i < n → f i < 2 ^ k) → orN f n < 2 ^ k
  | 0, _ => Nat.two_pow_pos k
  | n + 1, h => Nat.or_lt_two_pow (orN_lt (fun i hi => h i (by omega))) (h n (by omega))
theorem orN_bit {f : Nat → Nat} {b : Nat} : ∀ {n}, (orN f n).testBit b = anyB (fun i => (f i).testBit b) n
  | 0 => by simp [orN, anyB]
  | n + 1 => by
    show (orN f n ||| f n).testBit b = (anyB _ n || _)
    rw [Nat.testBit_or, orN_bit]
/-- the loop rule with an invariant: i turns so far, n at most; the body goes on or leaves -/
theorem whl {S E : Type} {body : S → Option (S ⊕ E)} (I : Nat → S → Prop) (Q : E → Prop) (n : Nat) : ∀ (fuel i : Nat) (s : S), n < fuel + i → I i s → (∀ i s, I i s → i ≤ n → (∃ s', body s = some (.inl s') ∧ i < n ∧ I (i + 1) s') ∨ ∃ e, body s = some (.inr e) ∧ Q e) → i ≤ n → ∃ e, whileL fuel body s = some e ∧ Q e
  | 0, i, s, hf, _, _, hi => absurd hi (by omega)
  | fuel + 1, i, s, hf, h0, hb, hi => by
    show ∃ e, (body s).bind (wlK (whileL fuel body)) = some e ∧ Q e
    rcases hb i s h0 hi with ⟨s', e1, e2, e3⟩ | ⟨e, e1, e2⟩
    · rw [e1]
      exact whl I Q n fuel (i + 1) s' (by omega) e3 hb (by omega)
    · rw [e1]
      exact ⟨e, rfl, e2⟩
theorem whl0 {S E : Type} {body : S → Option (S ⊕ E)} {s : S} (I : Nat → S → Prop) (Q : E → Prop) (n : Nat) (hn : n < 1000000) (h0 : I 0 s) (hb : ∀ i s, I i s → i ≤ n → (∃ s', body s = some (.inl s') ∧ i < n ∧ I (i + 1) s') ∨ ∃ e, body s = some (.inr e) ∧ Q e) : ∃ e, whileL wN body s = some e ∧ Q e :=
  whl I Q n wN 0 s (by rw [wN_e]; omega) h0 hb (Nat.zero_le n)
/-- a loop of n turns -/
theorem for0 {S E : Type} {body : S → Option (S ⊕ E)} {s : S} (st : Nat → S) (n : Nat) {e : E} (h0 : s = st 0) (hn : n < 1000000) (hb : ∀ j, j < n → body (st j) = some (.inl (st (j + 1)))) (he : body (st n) = some (.inr e)) : whileL wN body s = some e :=
  h0 ▸ forL st n wN 0 (by rw [wN_e]; omega) (fun j _ h => hb j (by omega)) (by rw [Nat.zero_add]; exact he)
theorem forI {S E : Type} {body : S → Option (S ⊕ E)} {s : S} (I : Nat → S → Prop) (Q : E → Prop) (n : Nat) (hn : n < 1000000) (h0 : I 0 s) (hb : ∀ j s, j < n → I j s → ∃ s', body s = some (.inl s') ∧ I (j + 1) s') (he : ∀ s, I n s → ∃ e, body s = some (.inr e) ∧ Q e) : ∃ e, whileL wN body s = some e ∧ Q e :=
  whl0 I Q n hn h0 (fun i s hi hn => by
    rcases Nat.lt_or_ge i n with q | q
    · obtain ⟨s', e1, e2⟩ := hb i s q hi
      exact Or.inl ⟨s', e1, q, e2⟩
    · exact Or.inr (he s ((show i = n by omega) ▸ hi)))
/-- the n places from lo on hold v 0, v 1 .. -/
def setF {α : Type} (f : Nat → α) (lo n : Nat) (v : Nat → α) : Nat → α := fun x => if lo ≤ x ∧ x < lo + n then v (x - lo) else f x
theorem setF_0 {α : Type} {f : Nat → α} {lo : Nat} {v : Nat → α} : setF f lo 0 v = f := by
  funext x
  unfold setF
  rw [if_neg (by omega)]
theorem setF_s {α : Type} {f : Nat → α} {lo n : Nat} {v : Nat → α} : va_up (setF f lo n v) (lo + n) (v n) = setF f lo (n + 1) v := by
  funext x
  unfold va_up setF
  by_cases h1 : x = lo + n
  · subst h1
    rw [if_pos rfl, if_pos (by omega), show lo + n - lo = n by omega]
  · rw [if_neg h1]
    by_cases h2 : lo ≤ x ∧ x < lo + n
    · rw [if_pos h2, if_pos (by omega)]
    · rw [if_neg h2, if_neg (by omega)]
theorem setF_s0 {α : Type} {f : Nat → α} {n : Nat} {v : Nat → α} : va_up (setF f 0 n v) n (v n) = setF f 0 (n + 1) v := by
  have := setF_s (f := f) (lo := 0) (n := n) (v := v)
  rwa [Nat.zero_add] at this
theorem setF_in {α : Type} {f : Nat → α} {lo n i : Nat} {v : Nat → α} (h : i < n) : setF f lo n v (lo + i) = v i := by
  unfold setF
  rw [if_pos (by omega), show lo + i - lo = i by omega]
theorem setF_in0 {α : Type} {f : Nat → α} {n i : Nat} {v : Nat → α} (h : i < n) : setF f 0 n v i = v i := by
  unfold setF
  rw [if_pos (by omega), Nat.sub_zero]
theorem setF_out {α : Type} {f : Nat → α} {lo n x : Nat} {v : Nat → α} (h : x < lo ∨ lo + n ≤ x) : setF f lo n v x = f x := by
  unfold setF
  rw [if_neg (by omega)]
theorem hI_set {h : aH} {a k : Nat} {g : Nat → Int32} {x : Int32} : hI (wI h a g) a k x = wI h a (va_up g k x) := by
  rw [hI_w, wI_wI, wI_I, if_pos rfl]
theorem hJ_set {h : aH} {a k : Nat} {g : Nat → Int64} {x : Int64} : hJ (wJ h a g) a k x = wJ h a (va_up g k x) := by
  rw [hJ_w, wJ_wJ, wJ_J, if_pos rfl]
theorem wI_s {h : aH} {a : Nat} {g : Nat → Int32} : (wI h a g).2.1 a = g := by rw [wI_I, if_pos rfl]
theorem wI_n {h : aH} {a i : Nat} {g : Nat → Int32} (hi : i ≠ a) : (wI h a g).2.1 i = h.2.1 i := by rw [wI_I, if_neg hi]
theorem wJ_s {h : aH} {a : Nat} {g : Nat → Int64} : (wJ h a g).2.2.1 a = g := by rw [wJ_J, if_pos rfl]
theorem wJ_n {h : aH} {a i : Nat} {g : Nat → Int64} (hi : i ≠ a) : (wJ h a g).2.2.1 i = h.2.2.1 i := by rw [wJ_J, if_neg hi]
theorem up_in {α : Type} {f : Nat → α} {k : Nat} {x : α} : va_up f k x k = x := if_pos rfl
theorem up_out {α : Type} {f : Nat → α} {k j : Nat} {x : α} (h : j ≠ k) : va_up f k x j = f j := if_neg h
theorem FR.mono {h h' : aH} {cI cJ f0 f1 dI dJ g0 g1 : List Nat} (a : FR h h' cI cJ f0 f1) (i1 : ∀ x ∈ cI, x ∈ dI) (i2 : ∀ x ∈ cJ, x ∈ dJ) (i3 : ∀ x ∈ f0, x ∈ g0) (i4 : ∀ x ∈ f1, x ∈ g1) : FR h h' dI dJ g0 g1 :=
  ⟨a.1, a.2.1, fun i h1 h2 h3 => a.2.2.1 i (fun e => h1 (i1 i e)) h2 h3, fun i h1 => a.2.2.2.1 i (fun e => h1 (i2 i e)), fun k h1 => a.2.2.2.2.1 k (fun e => h1 (i3 k e)), fun k h1 => a.2.2.2.2.2 k (fun e => h1 (i4 k e))⟩
theorem FR.lay {h h' : aH} {cI cJ f0 f1 : List Nat} (a : FR h h' cI cJ f0 f1) (hl : LAY h) : LAY h' := by
  unfold LAY
  rw [a.1, a.2.1]
  exact hl
theorem FR.I {h h' : aH} {cI cJ f0 f1 : List Nat} (a : FR h h' cI cJ f0 f1) (i : Nat) (h1 : i ∉ cI) (h2 : i ≠ 0) (h3 : i ≠ 113) : h'.2.1 i = h.2.1 i := a.2.2.1 i h1 h2 h3
theorem FR.J {h h' : aH} {cI cJ f0 f1 : List Nat} (a : FR h h' cI cJ f0 f1) (i : Nat) (h1 : i ∉ cJ) : h'.2.2.1 i = h.2.2.1 i := a.2.2.2.1 i h1


/-! ===== the layout in groups: one name for all of an object's fields and rows ===== -/
theorem SM : ∀ h : aH, LAY h → ck h 12 113 = some () ∧ gR h 12 113 0 = some 114 ∧ gR h 12 113 1 = some 115 ∧ gR h 12 113 2 = some 116 ∧ gI h 12 113 3 = some (h.2.1 113 3) ∧ (∀ x, pI h 12 113 3 x = some (hI h 113 3 x)) ∧ gJ h 12 113 4 = some (h.2.2.1 113 4) ∧ (∀ x, pJ h 12 113 4 x = some (hJ h 113 4 x)) ∧ gJ h 12 113 5 = some (h.2.2.1 113 5) ∧ (∀ x, pJ h 12 113 5 x = some (hJ h 113 5 x)) ∧ gR h 12 113 6 = some 117 ∧ gR h 12 113 7 = some 118 ∧ gR h 12 113 8 = some 119 ∧ gR h 12 113 9 = some 120 ∧ gR h 12 113 10 = some 121 ∧ gI h 12 113 11 = some (h.2.1 113 11) ∧ (∀ x, pI h 12 113 11 x = some (hI h 113 11 x)) ∧ gI h 12 113 12 = some (h.2.1 113 12) ∧ (∀ x, pI h 12 113 12 x = some (hI h 113 12 x)) ∧ gI h 12 113 13 = some (h.2.1 113 13) ∧ (∀ x, pI h 12 113 13 x = some (hI h 113 13 x)) ∧ gI h 12 113 14 = some (h.2.1 113 14) ∧ (∀ x, pI h 12 113 14 x = some (hI h 113 14 x)) ∧ gI h 12 113 15 = some (h.2.1 113 15) ∧ (∀ x, pI h 12 113 15 x = some (hI h 113 15 x)) ∧ gI h 12 113 16 = some (h.2.1 113 16) ∧ (∀ x, pI h 12 113 16 x = some (hI h 113 16 x)) ∧ gI h 12 113 17 = some (h.2.1 113 17) ∧ (∀ x, pI h 12 113 17 x = some (hI h 113 17 x)) ∧ gI h 12 113 18 = some (h.2.1 113 18) ∧ (∀ x, pI h 12 113 18 x = some (hI h 113 18 x)) ∧ gI h 12 113 19 = some (h.2.1 113 19) ∧ (∀ x, pI h 12 113 19 x = some (hI h 113 19 x)) ∧ gI h 12 113 20 = some (h.2.1 113 20) ∧ (∀ x, pI h 12 113 20 x = some (hI h 113 20 x)) ∧ gI h 12 113 21 = some (h.2.1 113 21) ∧ (∀ x, pI h 12 113 21 x = some (hI h 113 21 x)) ∧ gR h 12 113 22 = some 122 ∧ gR h 12 113 23 = some 123 ∧ gR h 12 113 24 = some 124 ∧ gI h 12 113 25 = some (h.2.1 113 25) ∧ (∀ x, pI h 12 113 25 x = some (hI h 113 25 x)) ∧ gI h 12 113 26 = some (h.2.1 113 26) ∧ (∀ x, pI h 12 113 26 x = some (hI h 113 26 x)) ∧ gI h 12 113 27 = some (h.2.1 113 27) ∧ (∀ x, pI h 12 113 27 x = some (hI h 113 27 x)) ∧ gR h 12 113 28 = some 125 ∧ gI h 12 113 29 = some (h.2.1 113 29) ∧ (∀ x, pI h 12 113 29 x = some (hI h 113 29 x)) ∧ gI h 12 113 30 = some (h.2.1 113 30) ∧ (∀ x, pI h 12 113 30 x = some (hI h 113 30 x)) ∧ gR h 12 113 31 = some 126 ∧ gR h 12 113 32 = some 127 ∧ gR h 12 113 33 = some 128 ∧ gR h 12 113 34 = some 129 ∧ gR h 12 113 35 = some 130 ∧ gR h 12 113 36 = some 131 ∧ gI h 12 113 37 = some (h.2.1 113 37) ∧ (∀ x, pI h 12 113 37 x = some (hI h 113 37 x)) ∧ gI h 12 113 38 = some (h.2.1 113 38) ∧ (∀ x, pI h 12 113 38 x = some (hI h 113 38 x)) ∧ gI h 12 113 39 = some (h.2.1 113 39) ∧ (∀ x, pI h 12 113 39 x = some (hI h 113 39 x)) ∧ gI h 12 113 40 = some (h.2.1 113 40) ∧ (∀ x, pI h 12 113 40 x = some (hI h 113 40 x)) ∧ gI h 12 113 41 = some (h.2.1 113 41) ∧ (∀ x, pI h 12 113 41 x = some (hI h 113 41 x)) ∧ gR h 12 113 42 = some 132 ∧ gR h 12 113 43 = some 133 ∧ gR h 12 113 44 = some 134 ∧ gI h 12 113 45 = some (h.2.1 113 45) ∧ pZ h 12 113 45 (nI 0) = some (hI h 113 45 (bI false)) ∧ pZ h 12 113 45 (nI 1) = some (hI h 113 45 (bI true)) ∧ (∀ b, pZ h 12 113 45 (bI b) = some (hI h 113 45 (bI b))) ∧ gR h 12 113 46 = some 135 ∧ gI h 12 113 47 = some (h.2.1 113 47) ∧ (∀ x, pI h 12 113 47 x = some (hI h 113 47 x)) ∧ (∀ j, j < 2000 → lI h 114 (nI j) = some (h.2.1 114 j)) ∧ (∀ j x, j < 2000 → sI h 114 (nI j) x = some (hI h 114 j x)) ∧ aN h 114 = some (nI 2000) ∧ (∀ j, j < 260 → lJ h 115 (nI j) = some (h.2.2.1 115 j)) ∧ (∀ j x, j < 260 → sJ h 115 (nI j) x = some (hJ h 115 j x)) ∧ aN h 115 = some (nI 260) ∧ (∀ j, j < 220 → lJ h 116 (nI j) = some (h.2.2.1 116 j)) ∧ (∀ j x, j < 220 → sJ h 116 (nI j) x = some (hJ h 116 j x)) ∧ aN h 116 = some (nI 220) ∧ (∀ j, j < 4 → lI h 117 (nI j) = some (h.2.1 117 j)) ∧ (∀ j x, j < 4 → sI h 117 (nI j) x = some (hI h 117 j x)) ∧ aN h 117 = some (nI 4) ∧ (∀ j, j < 4 → lI h 118 (nI j) = some (h.2.1 118 j)) ∧ (∀ j x, j < 4 → sI h 118 (nI j) x = some (hI h 118 j x)) ∧ aN h 118 = some (nI 4) ∧ (∀ j, j < 240 → lJ h 119 (nI j) = some (h.2.2.1 119 j)) ∧ (∀ j x, j < 240 → sJ h 119 (nI j) x = some (hJ h 119 j x)) ∧ aN h 119 = some (nI 240) ∧ (∀ j, j < 900 → lB h 120 (nI j) = some (h.2.1 120 j)) ∧ (∀ j x, j < 900 → sB h 120 (nI j) x = some (hI h 120 j (vp_nar .byte x))) ∧ aN h 120 = some (nI 900) ∧ (∀ j, j < 900 → lB h 121 (nI j) = some (h.2.1 121 j)) ∧ (∀ j x, j < 900 → sB h 121 (nI j) x = some (hI h 121 j (vp_nar .byte x))) ∧ aN h 121 = some (nI 900) ∧ (∀ j, j < 24 → lI h 122 (nI j) = some (h.2.1 122 j)) ∧ (∀ j x, j < 24 → sI h 122 (nI j) x = some (hI h 122 j x)) ∧ aN h 122 = some (nI 24) ∧ (∀ j, j < 240 → lJ h 123 (nI j) = some (h.2.2.1 123 j)) ∧ (∀ j x, j < 240 → sJ h 123 (nI j) x = some (hJ h 123 j x)) ∧ aN h 123 = some (nI 240) ∧ (∀ j, j < 100 → lI h 124 (nI j) = some (h.2.1 124 j)) ∧ (∀ j x, j < 100 → sI h 124 (nI j) x = some (hI h 124 j x)) ∧ aN h 124 = some (nI 100) ∧ (∀ j, j < 3 → lI h 125 (nI j) = some (h.2.1 125 j)) ∧ (∀ j x, j < 3 → sI h 125 (nI j) x = some (hI h 125 j x)) ∧ aN h 125 = some (nI 3) ∧ (∀ j, j < 49152 → lI h 126 (nI j) = some (h.2.1 126 j)) ∧ (∀ j x, j < 49152 → sI h 126 (nI j) x = some (hI h 126 j x)) ∧ aN h 126 = some (nI 49152) ∧ (∀ j, j < 4 → lJ h 127 (nI j) = some (h.2.2.1 127 j)) ∧ (∀ j x, j < 4 → sJ h 127 (nI j) x = some (hJ h 127 j x)) ∧ aN h 127 = some (nI 4) ∧ (∀ j, j < 4 → lJ h 128 (nI j) = some (h.2.2.1 128 j)) ∧ (∀ j x, j < 4 → sJ h 128 (nI j) x = some (hJ h 128 j x)) ∧ aN h 128 = some (nI 4) ∧ (∀ j, j < 4096 → lI h 129 (nI j) = some (h.2.1 129 j)) ∧ (∀ j x, j < 4096 → sI h 129 (nI j) x = some (hI h 129 j x)) ∧ aN h 129 = some (nI 4096) ∧ (∀ j, j < 48 → lZ h 130 (nI j) = some (h.2.1 130 j)) ∧ (∀ j, j < 48 → sZ h 130 (nI j) (nI 0) = some (hI h 130 j (bI false))) ∧ (∀ j, j < 48 → sZ h 130 (nI j) (nI 1) = some (hI h 130 j (bI true))) ∧ (∀ j b, j < 48 → sZ h 130 (nI j) (bI b) = some (hI h 130 j (bI b))) ∧ aN h 130 = some (nI 48) ∧ (∀ j, j < 3072 → lI h 131 (nI j) = some (h.2.1 131 j)) ∧ (∀ j x, j < 3072 → sI h 131 (nI j) x = some (hI h 131 j x)) ∧ aN h 131 = some (nI 3072) ∧ (∀ j, j < 4 → lI h 132 (nI j) = some (h.2.1 132 j)) ∧ (∀ j x, j < 4 → sI h 132 (nI j) x = some (hI h 132 j x)) ∧ aN h 132 = some (nI 4) ∧ (∀ j, j < 48 → lI h 133 (nI j) = some (h.2.1 133 j)) ∧ (∀ j x, j < 48 → sI h 133 (nI j) x = some (hI h 133 j x)) ∧ aN h 133 = some (nI 48) ∧ (∀ j, j < 6 → lI h 134 (nI j) = some (h.2.1 134 j)) ∧ (∀ j x, j < 6 → sI h 134 (nI j) x = some (hI h 134 j x)) ∧ aN h 134 = some (nI 6) ∧ (∀ j, j < 6 → lI h 135 (nI j) = some (h.2.1 135 j)) ∧ (∀ j x, j < 6 → sI h 135 (nI j) x = some (hI h 135 j x)) ∧ aN h 135 = some (nI 6) := fun h hl =>
  ⟨ck_L hl (by decide) (by decide),
   gR_L hl (by decide) (by decide) (by decide +kernel),
   gR_L hl (by decide) (by decide) (by decide +kernel),
   gR_L hl (by decide) (by decide) (by decide +kernel),
   gI_L hl 3 (by decide) (by decide),
   fun x => pI_L hl 3 x (by decide) (by decide),
   gJ_L hl 4 (by decide) (by decide),
   fun x => pJ_L hl 4 x (by decide) (by decide),
   gJ_L hl 5 (by decide) (by decide),
   fun x => pJ_L hl 5 x (by decide) (by decide),
   gR_L hl (by decide) (by decide) (by decide +kernel),
   gR_L hl (by decide) (by decide) (by decide +kernel),
   gR_L hl (by decide) (by decide) (by decide +kernel),
   gR_L hl (by decide) (by decide) (by decide +kernel),
   gR_L hl (by decide) (by decide) (by decide +kernel),
   gI_L hl 11 (by decide) (by decide),
   fun x => pI_L hl 11 x (by decide) (by decide),
   gI_L hl 12 (by decide) (by decide),
   fun x => pI_L hl 12 x (by decide) (by decide),
   gI_L hl 13 (by decide) (by decide),
   fun x => pI_L hl 13 x (by decide) (by decide),
   gI_L hl 14 (by decide) (by decide),
   fun x => pI_L hl 14 x (by decide) (by decide),
   gI_L hl 15 (by decide) (by decide),
   fun x => pI_L hl 15 x (by decide) (by decide),
   gI_L hl 16 (by decide) (by decide),
   fun x => pI_L hl 16 x (by decide) (by decide),
   gI_L hl 17 (by decide) (by decide),
   fun x => pI_L hl 17 x (by decide) (by decide),
   gI_L hl 18 (by decide) (by decide),
   fun x => pI_L hl 18 x (by decide) (by decide),
   gI_L hl 19 (by decide) (by decide),
   fun x => pI_L hl 19 x (by decide) (by decide),
   gI_L hl 20 (by decide) (by decide),
   fun x => pI_L hl 20 x (by decide) (by decide),
   gI_L hl 21 (by decide) (by decide),
   fun x => pI_L hl 21 x (by decide) (by decide),
   gR_L hl (by decide) (by decide) (by decide +kernel),
   gR_L hl (by decide) (by decide) (by decide +kernel),
   gR_L hl (by decide) (by decide) (by decide +kernel),
   gI_L hl 25 (by decide) (by decide),
   fun x => pI_L hl 25 x (by decide) (by decide),
   gI_L hl 26 (by decide) (by decide),
   fun x => pI_L hl 26 x (by decide) (by decide),
   gI_L hl 27 (by decide) (by decide),
   fun x => pI_L hl 27 x (by decide) (by decide),
   gR_L hl (by decide) (by decide) (by decide +kernel),
   gI_L hl 29 (by decide) (by decide),
   fun x => pI_L hl 29 x (by decide) (by decide),
   gI_L hl 30 (by decide) (by decide),
   fun x => pI_L hl 30 x (by decide) (by decide),
   gR_L hl (by decide) (by decide) (by decide +kernel),
   gR_L hl (by decide) (by decide) (by decide +kernel),
   gR_L hl (by decide) (by decide) (by decide +kernel),
   gR_L hl (by decide) (by decide) (by decide +kernel),
   gR_L hl (by decide) (by decide) (by decide +kernel),
   gR_L hl (by decide) (by decide) (by decide +kernel),
   gI_L hl 37 (by decide) (by decide),
   fun x => pI_L hl 37 x (by decide) (by decide),
   gI_L hl 38 (by decide) (by decide),
   fun x => pI_L hl 38 x (by decide) (by decide),
   gI_L hl 39 (by decide) (by decide),
   fun x => pI_L hl 39 x (by decide) (by decide),
   gI_L hl 40 (by decide) (by decide),
   fun x => pI_L hl 40 x (by decide) (by decide),
   gI_L hl 41 (by decide) (by decide),
   fun x => pI_L hl 41 x (by decide) (by decide),
   gR_L hl (by decide) (by decide) (by decide +kernel),
   gR_L hl (by decide) (by decide) (by decide +kernel),
   gR_L hl (by decide) (by decide) (by decide +kernel),
   gI_L hl 45 (by decide) (by decide),
   pZ_L hl 45 _ (by decide) (by decide) (bI_or false),
   pZ_L hl 45 _ (by decide) (by decide) (bI_or true),
   fun b => pZ_L hl 45 _ (by decide) (by decide) (bI_or b),
   gR_L hl (by decide) (by decide) (by decide +kernel),
   gI_L hl 47 (by decide) (by decide),
   fun x => pI_L hl 47 x (by decide) (by decide),
   fun j hj => lI_L hl (by decide) hj,
   fun j x hj => sI_L hl x (by decide) hj,
   aN_L hl (by decide),
   fun j hj => lJ_L hl (by decide) hj,
   fun j x hj => sJ_L hl x (by decide) hj,
   aN_L hl (by decide),
   fun j hj => lJ_L hl (by decide) hj,
   fun j x hj => sJ_L hl x (by decide) hj,
   aN_L hl (by decide),
   fun j hj => lI_L hl (by decide) hj,
   fun j x hj => sI_L hl x (by decide) hj,
   aN_L hl (by decide),
   fun j hj => lI_L hl (by decide) hj,
   fun j x hj => sI_L hl x (by decide) hj,
   aN_L hl (by decide),
   fun j hj => lJ_L hl (by decide) hj,
   fun j x hj => sJ_L hl x (by decide) hj,
   aN_L hl (by decide),
   fun j hj => lB_L hl (by decide) hj,
   fun j x hj => sB_L hl x (by decide) hj,
   aN_L hl (by decide),
   fun j hj => lB_L hl (by decide) hj,
   fun j x hj => sB_L hl x (by decide) hj,
   aN_L hl (by decide),
   fun j hj => lI_L hl (by decide) hj,
   fun j x hj => sI_L hl x (by decide) hj,
   aN_L hl (by decide),
   fun j hj => lJ_L hl (by decide) hj,
   fun j x hj => sJ_L hl x (by decide) hj,
   aN_L hl (by decide),
   fun j hj => lI_L hl (by decide) hj,
   fun j x hj => sI_L hl x (by decide) hj,
   aN_L hl (by decide),
   fun j hj => lI_L hl (by decide) hj,
   fun j x hj => sI_L hl x (by decide) hj,
   aN_L hl (by decide),
   fun j hj => lI_L hl (by decide) hj,
   fun j x hj => sI_L hl x (by decide) hj,
   aN_L hl (by decide),
   fun j hj => lJ_L hl (by decide) hj,
   fun j x hj => sJ_L hl x (by decide) hj,
   aN_L hl (by decide),
   fun j hj => lJ_L hl (by decide) hj,
   fun j x hj => sJ_L hl x (by decide) hj,
   aN_L hl (by decide),
   fun j hj => lI_L hl (by decide) hj,
   fun j x hj => sI_L hl x (by decide) hj,
   aN_L hl (by decide),
   fun j hj => lZ_L hl (by decide) hj,
   fun j hj => (sZ_L hl (bI false) (by decide) hj).trans (by rw [bI_nar]),
   fun j hj => (sZ_L hl (bI true) (by decide) hj).trans (by rw [bI_nar]),
   fun j b hj => (sZ_L hl (bI b) (by decide) hj).trans (by rw [bI_nar]),
   aN_L hl (by decide),
   fun j hj => lI_L hl (by decide) hj,
   fun j x hj => sI_L hl x (by decide) hj,
   aN_L hl (by decide),
   fun j hj => lI_L hl (by decide) hj,
   fun j x hj => sI_L hl x (by decide) hj,
   aN_L hl (by decide),
   fun j hj => lI_L hl (by decide) hj,
   fun j x hj => sI_L hl x (by decide) hj,
   aN_L hl (by decide),
   fun j hj => lI_L hl (by decide) hj,
   fun j x hj => sI_L hl x (by decide) hj,
   aN_L hl (by decide),
   fun j hj => lI_L hl (by decide) hj,
   fun j x hj => sI_L hl x (by decide) hj,
   aN_L hl (by decide)⟩
theorem S0 : ∀ h : aH, LAY h → ck h 11 0 = some () ∧ gR h 11 0 0 = some 1 ∧ gR h 11 0 1 = some 2 ∧ gR h 11 0 2 = some 3 ∧ gR h 11 0 3 = some 4 ∧ gR h 11 0 4 = some 11 ∧ gR h 11 0 5 = some 42 ∧ gR h 11 0 6 = some 52 ∧ gR h 11 0 7 = some 61 ∧ gR h 11 0 8 = some 66 ∧ gR h 11 0 9 = some 12 ∧ gR h 11 0 10 = some 13 ∧ gR h 11 0 11 = h.2.2.2 0 11 ∧ gR h 11 0 12 = h.2.2.2 0 12 ∧ gR h 11 0 13 = h.2.2.2 0 13 ∧ gI h 11 0 14 = some (h.2.1 0 14) ∧ (∀ x, pI h 11 0 14 x = some (hI h 0 14 x)) ∧ gI h 11 0 15 = some (h.2.1 0 15) ∧ (∀ x, pI h 11 0 15 x = some (hI h 0 15 x)) ∧ gI h 11 0 16 = some (h.2.1 0 16) ∧ pZ h 11 0 16 (nI 0) = some (hI h 0 16 (bI false)) ∧ pZ h 11 0 16 (nI 1) = some (hI h 0 16 (bI true)) ∧ (∀ b, pZ h 11 0 16 (bI b) = some (hI h 0 16 (bI b))) ∧ gI h 11 0 17 = some (h.2.1 0 17) ∧ (∀ x, pI h 11 0 17 x = some (hI h 0 17 x)) ∧ gJ h 11 0 18 = some (h.2.2.1 0 18) ∧ (∀ x, pJ h 11 0 18 x = some (hJ h 0 18 x)) ∧ gJ h 11 0 19 = some (h.2.2.1 0 19) ∧ (∀ x, pJ h 11 0 19 x = some (hJ h 0 19 x)) ∧ (∀ j, j < 4 → lI h 1 (nI j) = some (h.2.1 1 j)) ∧ (∀ j x, j < 4 → sI h 1 (nI j) x = some (hI h 1 j x)) ∧ aN h 1 = some (nI 4) ∧ (∀ j, j < 4 → lI h 2 (nI j) = some (h.2.1 2 j)) ∧ (∀ j x, j < 4 → sI h 2 (nI j) x = some (hI h 2 j x)) ∧ aN h 2 = some (nI 4) ∧ (∀ j, j < 240 → lJ h 3 (nI j) = some (h.2.2.1 3 j)) ∧ (∀ j x, j < 240 → sJ h 3 (nI j) x = some (hJ h 3 j x)) ∧ aN h 3 = some (nI 240) ∧ (∀ j, j < 6 → lI h 13 (nI j) = some (h.2.1 13 j)) ∧ (∀ j x, j < 6 → sI h 13 (nI j) x = some (hI h 13 j x)) ∧ aN h 13 = some (nI 6) := fun h hl =>
  ⟨ck_L hl (by decide) (by decide),
   gR_L hl (by decide) (by decide) (by decide +kernel),
   gR_L hl (by decide) (by decide) (by decide +kernel),
   gR_L hl (by decide) (by decide) (by decide +kernel),
   gR_L hl (by decide) (by decide) (by decide +kernel),
   gR_L hl (by decide) (by decide) (by decide +kernel),
   gR_L hl (by decide) (by decide) (by decide +kernel),
   gR_L hl (by decide) (by decide) (by decide +kernel),
   gR_L hl (by decide) (by decide) (by decide +kernel),
   gR_L hl (by decide) (by decide) (by decide +kernel),
   gR_L hl (by decide) (by decide) (by decide +kernel),
   gR_L hl (by decide) (by decide) (by decide +kernel),
   gR_D hl 11 (by decide) (by decide),
   gR_D hl 12 (by decide) (by decide),
   gR_D hl 13 (by decide) (by decide),
   gI_L hl 14 (by decide) (by decide),
   fun x => pI_L hl 14 x (by decide) (by decide),
   gI_L hl 15 (by decide) (by decide),
   fun x => pI_L hl 15 x (by decide) (by decide),
   gI_L hl 16 (by decide) (by decide),
   pZ_L hl 16 _ (by decide) (by decide) (bI_or false),
   pZ_L hl 16 _ (by decide) (by decide) (bI_or true),
   fun b => pZ_L hl 16 _ (by decide) (by decide) (bI_or b),
   gI_L hl 17 (by decide) (by decide),
   fun x => pI_L hl 17 x (by decide) (by decide),
   gJ_L hl 18 (by decide) (by decide),
   fun x => pJ_L hl 18 x (by decide) (by decide),
   gJ_L hl 19 (by decide) (by decide),
   fun x => pJ_L hl 19 x (by decide) (by decide),
   fun j hj => lI_L hl (by decide) hj,
   fun j x hj => sI_L hl x (by decide) hj,
   aN_L hl (by decide),
   fun j hj => lI_L hl (by decide) hj,
   fun j x hj => sI_L hl x (by decide) hj,
   aN_L hl (by decide),
   fun j hj => lJ_L hl (by decide) hj,
   fun j x hj => sJ_L hl x (by decide) hj,
   aN_L hl (by decide),
   fun j hj => lI_L hl (by decide) hj,
   fun j x hj => sI_L hl x (by decide) hj,
   aN_L hl (by decide)⟩
theorem SX : ∀ h : aH, LAY h → ck h 4 4 = some () ∧ gR h 4 4 0 = some 5 ∧ gR h 4 4 1 = some 6 ∧ gR h 4 4 2 = some 7 ∧ gR h 4 4 3 = some 8 ∧ gR h 4 4 4 = some 9 ∧ gR h 4 4 5 = some 10 ∧ gI h 4 4 6 = some (h.2.1 4 6) ∧ (∀ x, pI h 4 4 6 x = some (hI h 4 6 x)) ∧ gI h 4 4 7 = some (h.2.1 4 7) ∧ (∀ x, pI h 4 4 7 x = some (hI h 4 7 x)) ∧ gI h 4 4 8 = some (h.2.1 4 8) ∧ (∀ x, pI h 4 4 8 x = some (hI h 4 8 x)) ∧ gI h 4 4 9 = some (h.2.1 4 9) ∧ (∀ x, pI h 4 4 9 x = some (hI h 4 9 x)) ∧ gI h 4 4 10 = some (h.2.1 4 10) ∧ (∀ x, pI h 4 4 10 x = some (hI h 4 10 x)) ∧ gJ h 4 4 11 = some (h.2.2.1 4 11) ∧ (∀ x, pJ h 4 4 11 x = some (hJ h 4 11 x)) ∧ gI h 4 4 12 = some (h.2.1 4 12) ∧ (∀ x, pI h 4 4 12 x = some (hI h 4 12 x)) ∧ gI h 4 4 13 = some (h.2.1 4 13) ∧ (∀ x, pI h 4 4 13 x = some (hI h 4 13 x)) ∧ (∀ j, j < 900 → lB h 5 (nI j) = some (h.2.1 5 j)) ∧ (∀ j x, j < 900 → sB h 5 (nI j) x = some (hI h 5 j (vp_nar .byte x))) ∧ aN h 5 = some (nI 900) ∧ (∀ j, j < 27 → lJ h 6 (nI j) = some (h.2.2.1 6 j)) ∧ (∀ j x, j < 27 → sJ h 6 (nI j) x = some (hJ h 6 j x)) ∧ aN h 6 = some (nI 27) ∧ (∀ j, j < 901 → lI h 7 (nI j) = some (h.2.1 7 j)) ∧ (∀ j x, j < 901 → sI h 7 (nI j) x = some (hI h 7 j x)) ∧ aN h 7 = some (nI 901) ∧ (∀ j, j < 901 → lI h 8 (nI j) = some (h.2.1 8 j)) ∧ (∀ j x, j < 901 → sI h 8 (nI j) x = some (hI h 8 j x)) ∧ aN h 8 = some (nI 901) ∧ (∀ j, j < 901 → lI h 9 (nI j) = some (h.2.1 9 j)) ∧ (∀ j x, j < 901 → sI h 9 (nI j) x = some (hI h 9 j x)) ∧ aN h 9 = some (nI 901) ∧ (∀ j, j < 901 → lJ h 10 (nI j) = some (h.2.2.1 10 j)) ∧ (∀ j x, j < 901 → sJ h 10 (nI j) x = some (hJ h 10 j x)) ∧ aN h 10 = some (nI 901) := fun h hl =>
  ⟨ck_L hl (by decide) (by decide),
   gR_L hl (by decide) (by decide) (by decide +kernel),
   gR_L hl (by decide) (by decide) (by decide +kernel),
   gR_L hl (by decide) (by decide) (by decide +kernel),
   gR_L hl (by decide) (by decide) (by decide +kernel),
   gR_L hl (by decide) (by decide) (by decide +kernel),
   gR_L hl (by decide) (by decide) (by decide +kernel),
   gI_L hl 6 (by decide) (by decide),
   fun x => pI_L hl 6 x (by decide) (by decide),
   gI_L hl 7 (by decide) (by decide),
   fun x => pI_L hl 7 x (by decide) (by decide),
   gI_L hl 8 (by decide) (by decide),
   fun x => pI_L hl 8 x (by decide) (by decide),
   gI_L hl 9 (by decide) (by decide),
   fun x => pI_L hl 9 x (by decide) (by decide),
   gI_L hl 10 (by decide) (by decide),
   fun x => pI_L hl 10 x (by decide) (by decide),
   gJ_L hl 11 (by decide) (by decide),
   fun x => pJ_L hl 11 x (by decide) (by decide),
   gI_L hl 12 (by decide) (by decide),
   fun x => pI_L hl 12 x (by decide) (by decide),
   gI_L hl 13 (by decide) (by decide),
   fun x => pI_L hl 13 x (by decide) (by decide),
   fun j hj => lB_L hl (by decide) hj,
   fun j x hj => sB_L hl x (by decide) hj,
   aN_L hl (by decide),
   fun j hj => lJ_L hl (by decide) hj,
   fun j x hj => sJ_L hl x (by decide) hj,
   aN_L hl (by decide),
   fun j hj => lI_L hl (by decide) hj,
   fun j x hj => sI_L hl x (by decide) hj,
   aN_L hl (by decide),
   fun j hj => lI_L hl (by decide) hj,
   fun j x hj => sI_L hl x (by decide) hj,
   aN_L hl (by decide),
   fun j hj => lI_L hl (by decide) hj,
   fun j x hj => sI_L hl x (by decide) hj,
   aN_L hl (by decide),
   fun j hj => lJ_L hl (by decide) hj,
   fun j x hj => sJ_L hl x (by decide) hj,
   aN_L hl (by decide)⟩
theorem SR : ∀ h : aH, LAY h → ck h 2 42 = some () ∧ gR h 2 42 0 = some 4 ∧ gR h 2 42 1 = some 43 ∧ gR h 2 42 2 = some 48 ∧ gR h 2 42 3 = some 49 ∧ gR h 2 42 4 = some 50 ∧ gR h 2 42 5 = some 51 ∧ gR h 2 42 6 = h.2.2.2 42 6 ∧ gI h 2 42 7 = some (h.2.1 42 7) ∧ pZ h 2 42 7 (nI 0) = some (hI h 42 7 (bI false)) ∧ pZ h 2 42 7 (nI 1) = some (hI h 42 7 (bI true)) ∧ (∀ b, pZ h 2 42 7 (bI b) = some (hI h 42 7 (bI b))) ∧ ck h 0 43 = some () ∧ gR h 0 43 0 = some 44 ∧ gR h 0 43 1 = some 45 ∧ gR h 0 43 2 = some 46 ∧ gR h 0 43 3 = some 47 ∧ gI h 0 43 4 = some (h.2.1 43 4) ∧ (∀ x, pI h 0 43 4 x = some (hI h 43 4 x)) ∧ (∀ j, j < 256 → lI h 44 (nI j) = some (h.2.1 44 j)) ∧ (∀ j x, j < 256 → sI h 44 (nI j) x = some (hI h 44 j x)) ∧ aN h 44 = some (nI 256) ∧ (∀ j, j < 256 → lI h 45 (nI j) = some (h.2.1 45 j)) ∧ (∀ j x, j < 256 → sI h 45 (nI j) x = some (hI h 45 j x)) ∧ aN h 45 = some (nI 256) ∧ (∀ j, j < 12 → lI h 46 (nI j) = some (h.2.1 46 j)) ∧ (∀ j x, j < 12 → sI h 46 (nI j) x = some (hI h 46 j x)) ∧ aN h 46 = some (nI 12) ∧ (∀ j, j < 12 → lI h 47 (nI j) = some (h.2.1 47 j)) ∧ (∀ j x, j < 12 → sI h 47 (nI j) x = some (hI h 47 j x)) ∧ aN h 47 = some (nI 12) ∧ (∀ j, j < 24 → lI h 48 (nI j) = some (h.2.1 48 j)) ∧ (∀ j x, j < 24 → sI h 48 (nI j) x = some (hI h 48 j x)) ∧ aN h 48 = some (nI 24) ∧ (∀ j, j < 96 → lJ h 49 (nI j) = some (h.2.2.1 49 j)) ∧ (∀ j x, j < 96 → sJ h 49 (nI j) x = some (hJ h 49 j x)) ∧ aN h 49 = some (nI 96) ∧ (∀ j, j < 4 → lJ h 50 (nI j) = some (h.2.2.1 50 j)) ∧ (∀ j x, j < 4 → sJ h 50 (nI j) x = some (hJ h 50 j x)) ∧ aN h 50 = some (nI 4) ∧ (∀ j, j < 84 → lJ h 51 (nI j) = some (h.2.2.1 51 j)) ∧ (∀ j x, j < 84 → sJ h 51 (nI j) x = some (hJ h 51 j x)) ∧ aN h 51 = some (nI 84) := fun h hl =>
  ⟨ck_L hl (by decide) (by decide),
   gR_L hl (by decide) (by decide) (by decide +kernel),
   gR_L hl (by decide) (by decide) (by decide +kernel),
   gR_L hl (by decide) (by decide) (by decide +kernel),
   gR_L hl (by decide) (by decide) (by decide +kernel),
   gR_L hl (by decide) (by decide) (by decide +kernel),
   gR_L hl (by decide) (by decide) (by decide +kernel),
   gR_D hl 6 (by decide) (by decide),
   gI_L hl 7 (by decide) (by decide),
   pZ_L hl 7 _ (by decide) (by decide) (bI_or false),
   pZ_L hl 7 _ (by decide) (by decide) (bI_or true),
   fun b => pZ_L hl 7 _ (by decide) (by decide) (bI_or b),
   ck_L hl (by decide) (by decide),
   gR_L hl (by decide) (by decide) (by decide +kernel),
   gR_L hl (by decide) (by decide) (by decide +kernel),
   gR_L hl (by decide) (by decide) (by decide +kernel),
   gR_L hl (by decide) (by decide) (by decide +kernel),
   gI_L hl 4 (by decide) (by decide),
   fun x => pI_L hl 4 x (by decide) (by decide),
   fun j hj => lI_L hl (by decide) hj,
   fun j x hj => sI_L hl x (by decide) hj,
   aN_L hl (by decide),
   fun j hj => lI_L hl (by decide) hj,
   fun j x hj => sI_L hl x (by decide) hj,
   aN_L hl (by decide),
   fun j hj => lI_L hl (by decide) hj,
   fun j x hj => sI_L hl x (by decide) hj,
   aN_L hl (by decide),
   fun j hj => lI_L hl (by decide) hj,
   fun j x hj => sI_L hl x (by decide) hj,
   aN_L hl (by decide),
   fun j hj => lI_L hl (by decide) hj,
   fun j x hj => sI_L hl x (by decide) hj,
   aN_L hl (by decide),
   fun j hj => lJ_L hl (by decide) hj,
   fun j x hj => sJ_L hl x (by decide) hj,
   aN_L hl (by decide),
   fun j hj => lJ_L hl (by decide) hj,
   fun j x hj => sJ_L hl x (by decide) hj,
   aN_L hl (by decide),
   fun j hj => lJ_L hl (by decide) hj,
   fun j x hj => sJ_L hl x (by decide) hj,
   aN_L hl (by decide)⟩
theorem SS : ∀ h : aH, LAY h → ck h 9 61 = some () ∧ gR h 9 61 0 = some 52 ∧ gR h 9 61 1 = some 62 ∧ gR h 9 61 2 = some 63 ∧ gR h 9 61 3 = some 64 ∧ gR h 9 61 4 = some 65 ∧ gI h 9 61 5 = some (h.2.1 61 5) ∧ (∀ x, pI h 9 61 5 x = some (hI h 61 5 x)) ∧ gI h 9 61 6 = some (h.2.1 61 6) ∧ (∀ x, pI h 9 61 6 x = some (hI h 61 6 x)) ∧ gI h 9 61 7 = some (h.2.1 61 7) ∧ (∀ x, pI h 9 61 7 x = some (hI h 61 7 x)) ∧ gI h 9 61 8 = some (h.2.1 61 8) ∧ (∀ x, pI h 9 61 8 x = some (hI h 61 8 x)) ∧ (∀ j, j < 768 → lI h 62 (nI j) = some (h.2.1 62 j)) ∧ (∀ j x, j < 768 → sI h 62 (nI j) x = some (hI h 62 j x)) ∧ aN h 62 = some (nI 768) ∧ (∀ j, j < 768 → lI h 63 (nI j) = some (h.2.1 63 j)) ∧ (∀ j x, j < 768 → sI h 63 (nI j) x = some (hI h 63 j x)) ∧ aN h 63 = some (nI 768) ∧ (∀ j, j < 3 → lI h 64 (nI j) = some (h.2.1 64 j)) ∧ (∀ j x, j < 3 → sI h 64 (nI j) x = some (hI h 64 j x)) ∧ aN h 64 = some (nI 3) ∧ (∀ j, j < 3072 → lI h 65 (nI j) = some (h.2.1 65 j)) ∧ (∀ j x, j < 3072 → sI h 65 (nI j) x = some (hI h 65 j x)) ∧ aN h 65 = some (nI 3072) := fun h hl =>
  ⟨ck_L hl (by decide) (by decide),
   gR_L hl (by decide) (by decide) (by decide +kernel),
   gR_L hl (by decide) (by decide) (by decide +kernel),
   gR_L hl (by decide) (by decide) (by decide +kernel),
   gR_L hl (by decide) (by decide) (by decide +kernel),
   gR_L hl (by decide) (by decide) (by decide +kernel),
   gI_L hl 5 (by decide) (by decide),
   fun x => pI_L hl 5 x (by decide) (by decide),
   gI_L hl 6 (by decide) (by decide),
   fun x => pI_L hl 6 x (by decide) (by decide),
   gI_L hl 7 (by decide) (by decide),
   fun x => pI_L hl 7 x (by decide) (by decide),
   gI_L hl 8 (by decide) (by decide),
   fun x => pI_L hl 8 x (by decide) (by decide),
   fun j hj => lI_L hl (by decide) hj,
   fun j x hj => sI_L hl x (by decide) hj,
   aN_L hl (by decide),
   fun j hj => lI_L hl (by decide) hj,
   fun j x hj => sI_L hl x (by decide) hj,
   aN_L hl (by decide),
   fun j hj => lI_L hl (by decide) hj,
   fun j x hj => sI_L hl x (by decide) hj,
   aN_L hl (by decide),
   fun j hj => lI_L hl (by decide) hj,
   fun j x hj => sI_L hl x (by decide) hj,
   aN_L hl (by decide)⟩
theorem SG : ∀ h : aH, LAY h → ck h 10 66 = some () ∧ gR h 10 66 0 = some 68 ∧ gR h 10 66 1 = some 67 ∧ gI h 10 66 2 = some (h.2.1 66 2) ∧ (∀ x, pI h 10 66 2 x = some (hI h 66 2 x)) ∧ gI h 10 66 3 = some (h.2.1 66 3) ∧ (∀ x, pI h 10 66 3 x = some (hI h 66 3 x)) ∧ (∀ j, j < 4 → lI h 67 (nI j) = some (h.2.1 67 j)) ∧ (∀ j x, j < 4 → sI h 67 (nI j) x = some (hI h 67 j x)) ∧ aN h 67 = some (nI 4) := fun h hl =>
  ⟨ck_L hl (by decide) (by decide),
   gR_L hl (by decide) (by decide) (by decide +kernel),
   gR_L hl (by decide) (by decide) (by decide +kernel),
   gI_L hl 2 (by decide) (by decide),
   fun x => pI_L hl 2 x (by decide) (by decide),
   gI_L hl 3 (by decide) (by decide),
   fun x => pI_L hl 3 x (by decide) (by decide),
   fun j hj => lI_L hl (by decide) hj,
   fun j x hj => sI_L hl x (by decide) hj,
   aN_L hl (by decide)⟩
theorem SH52 : ∀ h : aH, LAY h → ck h 3 52 = some () ∧ gR h 3 52 0 = some 53 ∧ gR h 3 52 1 = some 58 ∧ gR h 3 52 2 = some 59 ∧ gR h 3 52 3 = some 60 ∧ gR h 3 52 4 = h.2.2.2 52 4 ∧ gI h 3 52 5 = some (h.2.1 52 5) ∧ (∀ x, pI h 3 52 5 x = some (hI h 52 5 x)) ∧ gI h 3 52 6 = some (h.2.1 52 6) ∧ (∀ x, pI h 3 52 6 x = some (hI h 52 6 x)) ∧ ck h 6 53 = some () ∧ gR h 6 53 0 = some 54 ∧ gR h 6 53 1 = some 55 ∧ gR h 6 53 2 = some 56 ∧ gR h 6 53 3 = some 57 ∧ gI h 6 53 4 = some (h.2.1 53 4) ∧ (∀ x, pI h 6 53 4 x = some (hI h 53 4 x)) ∧ gI h 6 53 5 = some (h.2.1 53 5) ∧ (∀ x, pI h 6 53 5 x = some (hI h 53 5 x)) ∧ (∀ j, j < 12 → lI h 54 (nI j) = some (h.2.1 54 j)) ∧ (∀ j x, j < 12 → sI h 54 (nI j) x = some (hI h 54 j x)) ∧ aN h 54 = some (nI 12) ∧ (∀ j, j < 12 → lI h 55 (nI j) = some (h.2.1 55 j)) ∧ (∀ j x, j < 12 → sI h 55 (nI j) x = some (hI h 55 j x)) ∧ aN h 55 = some (nI 12) ∧ (∀ j, j < 12 → lI h 56 (nI j) = some (h.2.1 56 j)) ∧ (∀ j x, j < 12 → sI h 56 (nI j) x = some (hI h 56 j x)) ∧ aN h 56 = some (nI 12) ∧ (∀ j, j < 12 → lI h 57 (nI j) = some (h.2.1 57 j)) ∧ (∀ j x, j < 12 → sI h 57 (nI j) x = some (hI h 57 j x)) ∧ aN h 57 = some (nI 12) ∧ (∀ j, j < 256 → lI h 58 (nI j) = some (h.2.1 58 j)) ∧ (∀ j x, j < 256 → sI h 58 (nI j) x = some (hI h 58 j x)) ∧ aN h 58 = some (nI 256) ∧ (∀ j, j < 256 → lI h 59 (nI j) = some (h.2.1 59 j)) ∧ (∀ j x, j < 256 → sI h 59 (nI j) x = some (hI h 59 j x)) ∧ aN h 59 = some (nI 256) ∧ (∀ j, j < 24 → lI h 60 (nI j) = some (h.2.1 60 j)) ∧ (∀ j x, j < 24 → sI h 60 (nI j) x = some (hI h 60 j x)) ∧ aN h 60 = some (nI 24) := fun h hl =>
  ⟨ck_L hl (by decide) (by decide),
   gR_L hl (by decide) (by decide) (by decide +kernel),
   gR_L hl (by decide) (by decide) (by decide +kernel),
   gR_L hl (by decide) (by decide) (by decide +kernel),
   gR_L hl (by decide) (by decide) (by decide +kernel),
   gR_D hl 4 (by decide) (by decide),
   gI_L hl 5 (by decide) (by decide),
   fun x => pI_L hl 5 x (by decide) (by decide),
   gI_L hl 6 (by decide) (by decide),
   fun x => pI_L hl 6 x (by decide) (by decide),
   ck_L hl (by decide) (by decide),
   gR_L hl (by decide) (by decide) (by decide +kernel),
   gR_L hl (by decide) (by decide) (by decide +kernel),
   gR_L hl (by decide) (by decide) (by decide +kernel),
   gR_L hl (by decide) (by decide) (by decide +kernel),
   gI_L hl 4 (by decide) (by decide),
   fun x => pI_L hl 4 x (by decide) (by decide),
   gI_L hl 5 (by decide) (by decide),
   fun x => pI_L hl 5 x (by decide) (by decide),
   fun j hj => lI_L hl (by decide) hj,
   fun j x hj => sI_L hl x (by decide) hj,
   aN_L hl (by decide),
   fun j hj => lI_L hl (by decide) hj,
   fun j x hj => sI_L hl x (by decide) hj,
   aN_L hl (by decide),
   fun j hj => lI_L hl (by decide) hj,
   fun j x hj => sI_L hl x (by decide) hj,
   aN_L hl (by decide),
   fun j hj => lI_L hl (by decide) hj,
   fun j x hj => sI_L hl x (by decide) hj,
   aN_L hl (by decide),
   fun j hj => lI_L hl (by decide) hj,
   fun j x hj => sI_L hl x (by decide) hj,
   aN_L hl (by decide),
   fun j hj => lI_L hl (by decide) hj,
   fun j x hj => sI_L hl x (by decide) hj,
   aN_L hl (by decide),
   fun j hj => lI_L hl (by decide) hj,
   fun j x hj => sI_L hl x (by decide) hj,
   aN_L hl (by decide)⟩
theorem SH68 : ∀ h : aH, LAY h → ck h 3 68 = some () ∧ gR h 3 68 0 = some 69 ∧ gR h 3 68 1 = some 74 ∧ gR h 3 68 2 = some 75 ∧ gR h 3 68 3 = some 76 ∧ gR h 3 68 4 = h.2.2.2 68 4 ∧ gI h 3 68 5 = some (h.2.1 68 5) ∧ (∀ x, pI h 3 68 5 x = some (hI h 68 5 x)) ∧ gI h 3 68 6 = some (h.2.1 68 6) ∧ (∀ x, pI h 3 68 6 x = some (hI h 68 6 x)) ∧ ck h 6 69 = some () ∧ gR h 6 69 0 = some 70 ∧ gR h 6 69 1 = some 71 ∧ gR h 6 69 2 = some 72 ∧ gR h 6 69 3 = some 73 ∧ gI h 6 69 4 = some (h.2.1 69 4) ∧ (∀ x, pI h 6 69 4 x = some (hI h 69 4 x)) ∧ gI h 6 69 5 = some (h.2.1 69 5) ∧ (∀ x, pI h 6 69 5 x = some (hI h 69 5 x)) ∧ (∀ j, j < 12 → lI h 70 (nI j) = some (h.2.1 70 j)) ∧ (∀ j x, j < 12 → sI h 70 (nI j) x = some (hI h 70 j x)) ∧ aN h 70 = some (nI 12) ∧ (∀ j, j < 12 → lI h 71 (nI j) = some (h.2.1 71 j)) ∧ (∀ j x, j < 12 → sI h 71 (nI j) x = some (hI h 71 j x)) ∧ aN h 71 = some (nI 12) ∧ (∀ j, j < 12 → lI h 72 (nI j) = some (h.2.1 72 j)) ∧ (∀ j x, j < 12 → sI h 72 (nI j) x = some (hI h 72 j x)) ∧ aN h 72 = some (nI 12) ∧ (∀ j, j < 12 → lI h 73 (nI j) = some (h.2.1 73 j)) ∧ (∀ j x, j < 12 → sI h 73 (nI j) x = some (hI h 73 j x)) ∧ aN h 73 = some (nI 12) ∧ (∀ j, j < 256 → lI h 74 (nI j) = some (h.2.1 74 j)) ∧ (∀ j x, j < 256 → sI h 74 (nI j) x = some (hI h 74 j x)) ∧ aN h 74 = some (nI 256) ∧ (∀ j, j < 256 → lI h 75 (nI j) = some (h.2.1 75 j)) ∧ (∀ j x, j < 256 → sI h 75 (nI j) x = some (hI h 75 j x)) ∧ aN h 75 = some (nI 256) ∧ (∀ j, j < 24 → lI h 76 (nI j) = some (h.2.1 76 j)) ∧ (∀ j x, j < 24 → sI h 76 (nI j) x = some (hI h 76 j x)) ∧ aN h 76 = some (nI 24) := fun h hl =>
  ⟨ck_L hl (by decide) (by decide),
   gR_L hl (by decide) (by decide) (by decide +kernel),
   gR_L hl (by decide) (by decide) (by decide +kernel),
   gR_L hl (by decide) (by decide) (by decide +kernel),
   gR_L hl (by decide) (by decide) (by decide +kernel),
   gR_D hl 4 (by decide) (by decide),
   gI_L hl 5 (by decide) (by decide),
   fun x => pI_L hl 5 x (by decide) (by decide),
   gI_L hl 6 (by decide) (by decide),
   fun x => pI_L hl 6 x (by decide) (by decide),
   ck_L hl (by decide) (by decide),
   gR_L hl (by decide) (by decide) (by decide +kernel),
   gR_L hl (by decide) (by decide) (by decide +kernel),
   gR_L hl (by decide) (by decide) (by decide +kernel),
   gR_L hl (by decide) (by decide) (by decide +kernel),
   gI_L hl 4 (by decide) (by decide),
   fun x => pI_L hl 4 x (by decide) (by decide),
   gI_L hl 5 (by decide) (by decide),
   fun x => pI_L hl 5 x (by decide) (by decide),
   fun j hj => lI_L hl (by decide) hj,
   fun j x hj => sI_L hl x (by decide) hj,
   aN_L hl (by decide),
   fun j hj => lI_L hl (by decide) hj,
   fun j x hj => sI_L hl x (by decide) hj,
   aN_L hl (by decide),
   fun j hj => lI_L hl (by decide) hj,
   fun j x hj => sI_L hl x (by decide) hj,
   aN_L hl (by decide),
   fun j hj => lI_L hl (by decide) hj,
   fun j x hj => sI_L hl x (by decide) hj,
   aN_L hl (by decide),
   fun j hj => lI_L hl (by decide) hj,
   fun j x hj => sI_L hl x (by decide) hj,
   aN_L hl (by decide),
   fun j hj => lI_L hl (by decide) hj,
   fun j x hj => sI_L hl x (by decide) hj,
   aN_L hl (by decide),
   fun j hj => lI_L hl (by decide) hj,
   fun j x hj => sI_L hl x (by decide) hj,
   aN_L hl (by decide)⟩
theorem SP14 : ∀ h : aH, LAY h → ck h 8 14 = some () ∧ gR h 8 14 0 = some 15 ∧ gR h 8 14 1 = some 16 ∧ gR h 8 14 2 = some 17 ∧ gR h 8 14 3 = some 18 ∧ gR h 8 14 4 = some 19 ∧ gI h 8 14 5 = some (h.2.1 14 5) ∧ (∀ x, pI h 8 14 5 x = some (hI h 14 5 x)) ∧ gI h 8 14 6 = some (h.2.1 14 6) ∧ (∀ x, pI h 8 14 6 x = some (hI h 14 6 x)) ∧ gI h 8 14 7 = some (h.2.1 14 7) ∧ pZ h 8 14 7 (nI 0) = some (hI h 14 7 (bI false)) ∧ pZ h 8 14 7 (nI 1) = some (hI h 14 7 (bI true)) ∧ (∀ b, pZ h 8 14 7 (bI b) = some (hI h 14 7 (bI b))) ∧ (∀ j, j < 30 → lI h 15 (nI j) = some (h.2.1 15 j)) ∧ (∀ j x, j < 30 → sI h 15 (nI j) x = some (hI h 15 j x)) ∧ aN h 15 = some (nI 30) ∧ (∀ j, j < 30 → lI h 16 (nI j) = some (h.2.1 16 j)) ∧ (∀ j x, j < 30 → sI h 16 (nI j) x = some (hI h 16 j x)) ∧ aN h 16 = some (nI 30) ∧ (∀ j, j < 30 → lI h 17 (nI j) = some (h.2.1 17 j)) ∧ (∀ j x, j < 30 → sI h 17 (nI j) x = some (hI h 17 j x)) ∧ aN h 17 = some (nI 30) ∧ (∀ j, j < 30 → lI h 18 (nI j) = some (h.2.1 18 j)) ∧ (∀ j x, j < 30 → sI h 18 (nI j) x = some (hI h 18 j x)) ∧ aN h 18 = some (nI 30) ∧ (∀ j, j < 3 → lI h 19 (nI j) = some (h.2.1 19 j)) ∧ (∀ j x, j < 3 → sI h 19 (nI j) x = some (hI h 19 j x)) ∧ aN h 19 = some (nI 3) := fun h hl =>
  ⟨ck_L hl (by decide) (by decide),
   gR_L hl (by decide) (by decide) (by decide +kernel),
   gR_L hl (by decide) (by decide) (by decide +kernel),
   gR_L hl (by decide) (by decide) (by decide +kernel),
   gR_L hl (by decide) (by decide) (by decide +kernel),
   gR_L hl (by decide) (by decide) (by decide +kernel),
   gI_L hl 5 (by decide) (by decide),
   fun x => pI_L hl 5 x (by decide) (by decide),
   gI_L hl 6 (by decide) (by decide),
   fun x => pI_L hl 6 x (by decide) (by decide),
   gI_L hl 7 (by decide) (by decide),
   pZ_L hl 7 _ (by decide) (by decide) (bI_or false),
   pZ_L hl 7 _ (by decide) (by decide) (bI_or true),
   fun b => pZ_L hl 7 _ (by decide) (by decide) (bI_or b),
   fun j hj => lI_L hl (by decide) hj,
   fun j x hj => sI_L hl x (by decide) hj,
   aN_L hl (by decide),
   fun j hj => lI_L hl (by decide) hj,
   fun j x hj => sI_L hl x (by decide) hj,
   aN_L hl (by decide),
   fun j hj => lI_L hl (by decide) hj,
   fun j x hj => sI_L hl x (by decide) hj,
   aN_L hl (by decide),
   fun j hj => lI_L hl (by decide) hj,
   fun j x hj => sI_L hl x (by decide) hj,
   aN_L hl (by decide),
   fun j hj => lI_L hl (by decide) hj,
   fun j x hj => sI_L hl x (by decide) hj,
   aN_L hl (by decide)⟩
theorem SP20 : ∀ h : aH, LAY h → ck h 8 20 = some () ∧ gR h 8 20 0 = some 21 ∧ gR h 8 20 1 = some 22 ∧ gR h 8 20 2 = some 23 ∧ gR h 8 20 3 = some 24 ∧ gR h 8 20 4 = some 25 ∧ gI h 8 20 5 = some (h.2.1 20 5) ∧ (∀ x, pI h 8 20 5 x = some (hI h 20 5 x)) ∧ gI h 8 20 6 = some (h.2.1 20 6) ∧ (∀ x, pI h 8 20 6 x = some (hI h 20 6 x)) ∧ gI h 8 20 7 = some (h.2.1 20 7) ∧ pZ h 8 20 7 (nI 0) = some (hI h 20 7 (bI false)) ∧ pZ h 8 20 7 (nI 1) = some (hI h 20 7 (bI true)) ∧ (∀ b, pZ h 8 20 7 (bI b) = some (hI h 20 7 (bI b))) ∧ (∀ j, j < 30 → lI h 21 (nI j) = some (h.2.1 21 j)) ∧ (∀ j x, j < 30 → sI h 21 (nI j) x = some (hI h 21 j x)) ∧ aN h 21 = some (nI 30) ∧ (∀ j, j < 30 → lI h 22 (nI j) = some (h.2.1 22 j)) ∧ (∀ j x, j < 30 → sI h 22 (nI j) x = some (hI h 22 j x)) ∧ aN h 22 = some (nI 30) ∧ (∀ j, j < 30 → lI h 23 (nI j) = some (h.2.1 23 j)) ∧ (∀ j x, j < 30 → sI h 23 (nI j) x = some (hI h 23 j x)) ∧ aN h 23 = some (nI 30) ∧ (∀ j, j < 30 → lI h 24 (nI j) = some (h.2.1 24 j)) ∧ (∀ j x, j < 30 → sI h 24 (nI j) x = some (hI h 24 j x)) ∧ aN h 24 = some (nI 30) ∧ (∀ j, j < 3 → lI h 25 (nI j) = some (h.2.1 25 j)) ∧ (∀ j x, j < 3 → sI h 25 (nI j) x = some (hI h 25 j x)) ∧ aN h 25 = some (nI 3) := fun h hl =>
  ⟨ck_L hl (by decide) (by decide),
   gR_L hl (by decide) (by decide) (by decide +kernel),
   gR_L hl (by decide) (by decide) (by decide +kernel),
   gR_L hl (by decide) (by decide) (by decide +kernel),
   gR_L hl (by decide) (by decide) (by decide +kernel),
   gR_L hl (by decide) (by decide) (by decide +kernel),
   gI_L hl 5 (by decide) (by decide),
   fun x => pI_L hl 5 x (by decide) (by decide),
   gI_L hl 6 (by decide) (by decide),
   fun x => pI_L hl 6 x (by decide) (by decide),
   gI_L hl 7 (by decide) (by decide),
   pZ_L hl 7 _ (by decide) (by decide) (bI_or false),
   pZ_L hl 7 _ (by decide) (by decide) (bI_or true),
   fun b => pZ_L hl 7 _ (by decide) (by decide) (bI_or b),
   fun j hj => lI_L hl (by decide) hj,
   fun j x hj => sI_L hl x (by decide) hj,
   aN_L hl (by decide),
   fun j hj => lI_L hl (by decide) hj,
   fun j x hj => sI_L hl x (by decide) hj,
   aN_L hl (by decide),
   fun j hj => lI_L hl (by decide) hj,
   fun j x hj => sI_L hl x (by decide) hj,
   aN_L hl (by decide),
   fun j hj => lI_L hl (by decide) hj,
   fun j x hj => sI_L hl x (by decide) hj,
   aN_L hl (by decide),
   fun j hj => lI_L hl (by decide) hj,
   fun j x hj => sI_L hl x (by decide) hj,
   aN_L hl (by decide)⟩
theorem SP78 : ∀ h : aH, LAY h → ck h 8 78 = some () ∧ gR h 8 78 0 = some 79 ∧ gR h 8 78 1 = some 80 ∧ gR h 8 78 2 = some 81 ∧ gR h 8 78 3 = some 82 ∧ gR h 8 78 4 = some 83 ∧ gI h 8 78 5 = some (h.2.1 78 5) ∧ (∀ x, pI h 8 78 5 x = some (hI h 78 5 x)) ∧ gI h 8 78 6 = some (h.2.1 78 6) ∧ (∀ x, pI h 8 78 6 x = some (hI h 78 6 x)) ∧ gI h 8 78 7 = some (h.2.1 78 7) ∧ pZ h 8 78 7 (nI 0) = some (hI h 78 7 (bI false)) ∧ pZ h 8 78 7 (nI 1) = some (hI h 78 7 (bI true)) ∧ (∀ b, pZ h 8 78 7 (bI b) = some (hI h 78 7 (bI b))) ∧ (∀ j, j < 30 → lI h 79 (nI j) = some (h.2.1 79 j)) ∧ (∀ j x, j < 30 → sI h 79 (nI j) x = some (hI h 79 j x)) ∧ aN h 79 = some (nI 30) ∧ (∀ j, j < 30 → lI h 80 (nI j) = some (h.2.1 80 j)) ∧ (∀ j x, j < 30 → sI h 80 (nI j) x = some (hI h 80 j x)) ∧ aN h 80 = some (nI 30) ∧ (∀ j, j < 30 → lI h 81 (nI j) = some (h.2.1 81 j)) ∧ (∀ j x, j < 30 → sI h 81 (nI j) x = some (hI h 81 j x)) ∧ aN h 81 = some (nI 30) ∧ (∀ j, j < 30 → lI h 82 (nI j) = some (h.2.1 82 j)) ∧ (∀ j x, j < 30 → sI h 82 (nI j) x = some (hI h 82 j x)) ∧ aN h 82 = some (nI 30) ∧ (∀ j, j < 3 → lI h 83 (nI j) = some (h.2.1 83 j)) ∧ (∀ j x, j < 3 → sI h 83 (nI j) x = some (hI h 83 j x)) ∧ aN h 83 = some (nI 3) := fun h hl =>
  ⟨ck_L hl (by decide) (by decide),
   gR_L hl (by decide) (by decide) (by decide +kernel),
   gR_L hl (by decide) (by decide) (by decide +kernel),
   gR_L hl (by decide) (by decide) (by decide +kernel),
   gR_L hl (by decide) (by decide) (by decide +kernel),
   gR_L hl (by decide) (by decide) (by decide +kernel),
   gI_L hl 5 (by decide) (by decide),
   fun x => pI_L hl 5 x (by decide) (by decide),
   gI_L hl 6 (by decide) (by decide),
   fun x => pI_L hl 6 x (by decide) (by decide),
   gI_L hl 7 (by decide) (by decide),
   pZ_L hl 7 _ (by decide) (by decide) (bI_or false),
   pZ_L hl 7 _ (by decide) (by decide) (bI_or true),
   fun b => pZ_L hl 7 _ (by decide) (by decide) (bI_or b),
   fun j hj => lI_L hl (by decide) hj,
   fun j x hj => sI_L hl x (by decide) hj,
   aN_L hl (by decide),
   fun j hj => lI_L hl (by decide) hj,
   fun j x hj => sI_L hl x (by decide) hj,
   aN_L hl (by decide),
   fun j hj => lI_L hl (by decide) hj,
   fun j x hj => sI_L hl x (by decide) hj,
   aN_L hl (by decide),
   fun j hj => lI_L hl (by decide) hj,
   fun j x hj => sI_L hl x (by decide) hj,
   aN_L hl (by decide),
   fun j hj => lI_L hl (by decide) hj,
   fun j x hj => sI_L hl x (by decide) hj,
   aN_L hl (by decide)⟩
theorem SP90 : ∀ h : aH, LAY h → ck h 8 90 = some () ∧ gR h 8 90 0 = some 91 ∧ gR h 8 90 1 = some 92 ∧ gR h 8 90 2 = some 93 ∧ gR h 8 90 3 = some 94 ∧ gR h 8 90 4 = some 95 ∧ gI h 8 90 5 = some (h.2.1 90 5) ∧ (∀ x, pI h 8 90 5 x = some (hI h 90 5 x)) ∧ gI h 8 90 6 = some (h.2.1 90 6) ∧ (∀ x, pI h 8 90 6 x = some (hI h 90 6 x)) ∧ gI h 8 90 7 = some (h.2.1 90 7) ∧ pZ h 8 90 7 (nI 0) = some (hI h 90 7 (bI false)) ∧ pZ h 8 90 7 (nI 1) = some (hI h 90 7 (bI true)) ∧ (∀ b, pZ h 8 90 7 (bI b) = some (hI h 90 7 (bI b))) ∧ (∀ j, j < 30 → lI h 91 (nI j) = some (h.2.1 91 j)) ∧ (∀ j x, j < 30 → sI h 91 (nI j) x = some (hI h 91 j x)) ∧ aN h 91 = some (nI 30) ∧ (∀ j, j < 30 → lI h 92 (nI j) = some (h.2.1 92 j)) ∧ (∀ j x, j < 30 → sI h 92 (nI j) x = some (hI h 92 j x)) ∧ aN h 92 = some (nI 30) ∧ (∀ j, j < 30 → lI h 93 (nI j) = some (h.2.1 93 j)) ∧ (∀ j x, j < 30 → sI h 93 (nI j) x = some (hI h 93 j x)) ∧ aN h 93 = some (nI 30) ∧ (∀ j, j < 30 → lI h 94 (nI j) = some (h.2.1 94 j)) ∧ (∀ j x, j < 30 → sI h 94 (nI j) x = some (hI h 94 j x)) ∧ aN h 94 = some (nI 30) ∧ (∀ j, j < 3 → lI h 95 (nI j) = some (h.2.1 95 j)) ∧ (∀ j x, j < 3 → sI h 95 (nI j) x = some (hI h 95 j x)) ∧ aN h 95 = some (nI 3) := fun h hl =>
  ⟨ck_L hl (by decide) (by decide),
   gR_L hl (by decide) (by decide) (by decide +kernel),
   gR_L hl (by decide) (by decide) (by decide +kernel),
   gR_L hl (by decide) (by decide) (by decide +kernel),
   gR_L hl (by decide) (by decide) (by decide +kernel),
   gR_L hl (by decide) (by decide) (by decide +kernel),
   gI_L hl 5 (by decide) (by decide),
   fun x => pI_L hl 5 x (by decide) (by decide),
   gI_L hl 6 (by decide) (by decide),
   fun x => pI_L hl 6 x (by decide) (by decide),
   gI_L hl 7 (by decide) (by decide),
   pZ_L hl 7 _ (by decide) (by decide) (bI_or false),
   pZ_L hl 7 _ (by decide) (by decide) (bI_or true),
   fun b => pZ_L hl 7 _ (by decide) (by decide) (bI_or b),
   fun j hj => lI_L hl (by decide) hj,
   fun j x hj => sI_L hl x (by decide) hj,
   aN_L hl (by decide),
   fun j hj => lI_L hl (by decide) hj,
   fun j x hj => sI_L hl x (by decide) hj,
   aN_L hl (by decide),
   fun j hj => lI_L hl (by decide) hj,
   fun j x hj => sI_L hl x (by decide) hj,
   aN_L hl (by decide),
   fun j hj => lI_L hl (by decide) hj,
   fun j x hj => sI_L hl x (by decide) hj,
   aN_L hl (by decide),
   fun j hj => lI_L hl (by decide) hj,
   fun j x hj => sI_L hl x (by decide) hj,
   aN_L hl (by decide)⟩
theorem SP102 : ∀ h : aH, LAY h → ck h 8 102 = some () ∧ gR h 8 102 0 = some 103 ∧ gR h 8 102 1 = some 104 ∧ gR h 8 102 2 = some 105 ∧ gR h 8 102 3 = some 106 ∧ gR h 8 102 4 = some 107 ∧ gI h 8 102 5 = some (h.2.1 102 5) ∧ (∀ x, pI h 8 102 5 x = some (hI h 102 5 x)) ∧ gI h 8 102 6 = some (h.2.1 102 6) ∧ (∀ x, pI h 8 102 6 x = some (hI h 102 6 x)) ∧ gI h 8 102 7 = some (h.2.1 102 7) ∧ pZ h 8 102 7 (nI 0) = some (hI h 102 7 (bI false)) ∧ pZ h 8 102 7 (nI 1) = some (hI h 102 7 (bI true)) ∧ (∀ b, pZ h 8 102 7 (bI b) = some (hI h 102 7 (bI b))) ∧ (∀ j, j < 30 → lI h 103 (nI j) = some (h.2.1 103 j)) ∧ (∀ j x, j < 30 → sI h 103 (nI j) x = some (hI h 103 j x)) ∧ aN h 103 = some (nI 30) ∧ (∀ j, j < 30 → lI h 104 (nI j) = some (h.2.1 104 j)) ∧ (∀ j x, j < 30 → sI h 104 (nI j) x = some (hI h 104 j x)) ∧ aN h 104 = some (nI 30) ∧ (∀ j, j < 30 → lI h 105 (nI j) = some (h.2.1 105 j)) ∧ (∀ j x, j < 30 → sI h 105 (nI j) x = some (hI h 105 j x)) ∧ aN h 105 = some (nI 30) ∧ (∀ j, j < 30 → lI h 106 (nI j) = some (h.2.1 106 j)) ∧ (∀ j x, j < 30 → sI h 106 (nI j) x = some (hI h 106 j x)) ∧ aN h 106 = some (nI 30) ∧ (∀ j, j < 3 → lI h 107 (nI j) = some (h.2.1 107 j)) ∧ (∀ j x, j < 3 → sI h 107 (nI j) x = some (hI h 107 j x)) ∧ aN h 107 = some (nI 3) := fun h hl =>
  ⟨ck_L hl (by decide) (by decide),
   gR_L hl (by decide) (by decide) (by decide +kernel),
   gR_L hl (by decide) (by decide) (by decide +kernel),
   gR_L hl (by decide) (by decide) (by decide +kernel),
   gR_L hl (by decide) (by decide) (by decide +kernel),
   gR_L hl (by decide) (by decide) (by decide +kernel),
   gI_L hl 5 (by decide) (by decide),
   fun x => pI_L hl 5 x (by decide) (by decide),
   gI_L hl 6 (by decide) (by decide),
   fun x => pI_L hl 6 x (by decide) (by decide),
   gI_L hl 7 (by decide) (by decide),
   pZ_L hl 7 _ (by decide) (by decide) (bI_or false),
   pZ_L hl 7 _ (by decide) (by decide) (bI_or true),
   fun b => pZ_L hl 7 _ (by decide) (by decide) (bI_or b),
   fun j hj => lI_L hl (by decide) hj,
   fun j x hj => sI_L hl x (by decide) hj,
   aN_L hl (by decide),
   fun j hj => lI_L hl (by decide) hj,
   fun j x hj => sI_L hl x (by decide) hj,
   aN_L hl (by decide),
   fun j hj => lI_L hl (by decide) hj,
   fun j x hj => sI_L hl x (by decide) hj,
   aN_L hl (by decide),
   fun j hj => lI_L hl (by decide) hj,
   fun j x hj => sI_L hl x (by decide) hj,
   aN_L hl (by decide),
   fun j hj => lI_L hl (by decide) hj,
   fun j x hj => sI_L hl x (by decide) hj,
   aN_L hl (by decide)⟩
theorem SN84 : ∀ h : aH, LAY h → ck h 6 84 = some () ∧ gR h 6 84 0 = some 85 ∧ gR h 6 84 1 = some 86 ∧ gR h 6 84 2 = some 87 ∧ gR h 6 84 3 = some 88 ∧ gI h 6 84 4 = some (h.2.1 84 4) ∧ (∀ x, pI h 6 84 4 x = some (hI h 84 4 x)) ∧ gI h 6 84 5 = some (h.2.1 84 5) ∧ (∀ x, pI h 6 84 5 x = some (hI h 84 5 x)) ∧ (∀ j, j < 12 → lI h 85 (nI j) = some (h.2.1 85 j)) ∧ (∀ j x, j < 12 → sI h 85 (nI j) x = some (hI h 85 j x)) ∧ aN h 85 = some (nI 12) ∧ (∀ j, j < 12 → lI h 86 (nI j) = some (h.2.1 86 j)) ∧ (∀ j x, j < 12 → sI h 86 (nI j) x = some (hI h 86 j x)) ∧ aN h 86 = some (nI 12) ∧ (∀ j, j < 12 → lI h 87 (nI j) = some (h.2.1 87 j)) ∧ (∀ j x, j < 12 → sI h 87 (nI j) x = some (hI h 87 j x)) ∧ aN h 87 = some (nI 12) ∧ (∀ j, j < 12 → lI h 88 (nI j) = some (h.2.1 88 j)) ∧ (∀ j x, j < 12 → sI h 88 (nI j) x = some (hI h 88 j x)) ∧ aN h 88 = some (nI 12) := fun h hl =>
  ⟨ck_L hl (by decide) (by decide),
   gR_L hl (by decide) (by decide) (by decide +kernel),
   gR_L hl (by decide) (by decide) (by decide +kernel),
   gR_L hl (by decide) (by decide) (by decide +kernel),
   gR_L hl (by decide) (by decide) (by decide +kernel),
   gI_L hl 4 (by decide) (by decide),
   fun x => pI_L hl 4 x (by decide) (by decide),
   gI_L hl 5 (by decide) (by decide),
   fun x => pI_L hl 5 x (by decide) (by decide),
   fun j hj => lI_L hl (by decide) hj,
   fun j x hj => sI_L hl x (by decide) hj,
   aN_L hl (by decide),
   fun j hj => lI_L hl (by decide) hj,
   fun j x hj => sI_L hl x (by decide) hj,
   aN_L hl (by decide),
   fun j hj => lI_L hl (by decide) hj,
   fun j x hj => sI_L hl x (by decide) hj,
   aN_L hl (by decide),
   fun j hj => lI_L hl (by decide) hj,
   fun j x hj => sI_L hl x (by decide) hj,
   aN_L hl (by decide)⟩
theorem SN96 : ∀ h : aH, LAY h → ck h 6 96 = some () ∧ gR h 6 96 0 = some 97 ∧ gR h 6 96 1 = some 98 ∧ gR h 6 96 2 = some 99 ∧ gR h 6 96 3 = some 100 ∧ gI h 6 96 4 = some (h.2.1 96 4) ∧ (∀ x, pI h 6 96 4 x = some (hI h 96 4 x)) ∧ gI h 6 96 5 = some (h.2.1 96 5) ∧ (∀ x, pI h 6 96 5 x = some (hI h 96 5 x)) ∧ (∀ j, j < 12 → lI h 97 (nI j) = some (h.2.1 97 j)) ∧ (∀ j x, j < 12 → sI h 97 (nI j) x = some (hI h 97 j x)) ∧ aN h 97 = some (nI 12) ∧ (∀ j, j < 12 → lI h 98 (nI j) = some (h.2.1 98 j)) ∧ (∀ j x, j < 12 → sI h 98 (nI j) x = some (hI h 98 j x)) ∧ aN h 98 = some (nI 12) ∧ (∀ j, j < 12 → lI h 99 (nI j) = some (h.2.1 99 j)) ∧ (∀ j x, j < 12 → sI h 99 (nI j) x = some (hI h 99 j x)) ∧ aN h 99 = some (nI 12) ∧ (∀ j, j < 12 → lI h 100 (nI j) = some (h.2.1 100 j)) ∧ (∀ j x, j < 12 → sI h 100 (nI j) x = some (hI h 100 j x)) ∧ aN h 100 = some (nI 12) := fun h hl =>
  ⟨ck_L hl (by decide) (by decide),
   gR_L hl (by decide) (by decide) (by decide +kernel),
   gR_L hl (by decide) (by decide) (by decide +kernel),
   gR_L hl (by decide) (by decide) (by decide +kernel),
   gR_L hl (by decide) (by decide) (by decide +kernel),
   gI_L hl 4 (by decide) (by decide),
   fun x => pI_L hl 4 x (by decide) (by decide),
   gI_L hl 5 (by decide) (by decide),
   fun x => pI_L hl 5 x (by decide) (by decide),
   fun j hj => lI_L hl (by decide) hj,
   fun j x hj => sI_L hl x (by decide) hj,
   aN_L hl (by decide),
   fun j hj => lI_L hl (by decide) hj,
   fun j x hj => sI_L hl x (by decide) hj,
   aN_L hl (by decide),
   fun j hj => lI_L hl (by decide) hj,
   fun j x hj => sI_L hl x (by decide) hj,
   aN_L hl (by decide),
   fun j hj => lI_L hl (by decide) hj,
   fun j x hj => sI_L hl x (by decide) hj,
   aN_L hl (by decide)⟩
theorem SN108 : ∀ h : aH, LAY h → ck h 6 108 = some () ∧ gR h 6 108 0 = some 109 ∧ gR h 6 108 1 = some 110 ∧ gR h 6 108 2 = some 111 ∧ gR h 6 108 3 = some 112 ∧ gI h 6 108 4 = some (h.2.1 108 4) ∧ (∀ x, pI h 6 108 4 x = some (hI h 108 4 x)) ∧ gI h 6 108 5 = some (h.2.1 108 5) ∧ (∀ x, pI h 6 108 5 x = some (hI h 108 5 x)) ∧ (∀ j, j < 12 → lI h 109 (nI j) = some (h.2.1 109 j)) ∧ (∀ j x, j < 12 → sI h 109 (nI j) x = some (hI h 109 j x)) ∧ aN h 109 = some (nI 12) ∧ (∀ j, j < 12 → lI h 110 (nI j) = some (h.2.1 110 j)) ∧ (∀ j x, j < 12 → sI h 110 (nI j) x = some (hI h 110 j x)) ∧ aN h 110 = some (nI 12) ∧ (∀ j, j < 12 → lI h 111 (nI j) = some (h.2.1 111 j)) ∧ (∀ j x, j < 12 → sI h 111 (nI j) x = some (hI h 111 j x)) ∧ aN h 111 = some (nI 12) ∧ (∀ j, j < 12 → lI h 112 (nI j) = some (h.2.1 112 j)) ∧ (∀ j x, j < 12 → sI h 112 (nI j) x = some (hI h 112 j x)) ∧ aN h 112 = some (nI 12) := fun h hl =>
  ⟨ck_L hl (by decide) (by decide),
   gR_L hl (by decide) (by decide) (by decide +kernel),
   gR_L hl (by decide) (by decide) (by decide +kernel),
   gR_L hl (by decide) (by decide) (by decide +kernel),
   gR_L hl (by decide) (by decide) (by decide +kernel),
   gI_L hl 4 (by decide) (by decide),
   fun x => pI_L hl 4 x (by decide) (by decide),
   gI_L hl 5 (by decide) (by decide),
   fun x => pI_L hl 5 x (by decide) (by decide),
   fun j hj => lI_L hl (by decide) hj,
   fun j x hj => sI_L hl x (by decide) hj,
   aN_L hl (by decide),
   fun j hj => lI_L hl (by decide) hj,
   fun j x hj => sI_L hl x (by decide) hj,
   aN_L hl (by decide),
   fun j hj => lI_L hl (by decide) hj,
   fun j x hj => sI_L hl x (by decide) hj,
   aN_L hl (by decide),
   fun j hj => lI_L hl (by decide) hj,
   fun j x hj => sI_L hl x (by decide) hj,
   aN_L hl (by decide)⟩
theorem SK77 : ∀ h : aH, LAY h → ck h 5 77 = some () ∧ gR h 5 77 0 = some 78 ∧ gR h 5 77 1 = some 84 ∧ gR h 5 77 2 = h.2.2.2 77 2 := fun h hl =>
  ⟨ck_L hl (by decide) (by decide),
   gR_L hl (by decide) (by decide) (by decide +kernel),
   gR_L hl (by decide) (by decide) (by decide +kernel),
   gR_D hl 2 (by decide) (by decide)⟩
theorem SK89 : ∀ h : aH, LAY h → ck h 5 89 = some () ∧ gR h 5 89 0 = some 90 ∧ gR h 5 89 1 = some 96 ∧ gR h 5 89 2 = h.2.2.2 89 2 := fun h hl =>
  ⟨ck_L hl (by decide) (by decide),
   gR_L hl (by decide) (by decide) (by decide +kernel),
   gR_L hl (by decide) (by decide) (by decide +kernel),
   gR_D hl 2 (by decide) (by decide)⟩
theorem SK101 : ∀ h : aH, LAY h → ck h 5 101 = some () ∧ gR h 5 101 0 = some 102 ∧ gR h 5 101 1 = some 108 ∧ gR h 5 101 2 = h.2.2.2 101 2 := fun h hl =>
  ⟨ck_L hl (by decide) (by decide),
   gR_L hl (by decide) (by decide) (by decide +kernel),
   gR_L hl (by decide) (by decide) (by decide +kernel),
   gR_D hl 2 (by decide) (by decide)⟩
