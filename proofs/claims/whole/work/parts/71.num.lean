/-! NUMBERS: ints of the machine as Int -/
def zI (z : Int) : Int32 := Int32.ofInt z
def zL (z : Int) : Int64 := Int64.ofInt z
theorem zI_toInt {z : Int} (h1 : -2147483648 ≤ z) (h2 : z < 2147483648) : (zI z).toInt = z := Int32.toInt_ofInt_of_le (by omega) (by omega)
theorem zL_toInt {z : Int} (h1 : -9223372036854775808 ≤ z) (h2 : z < 9223372036854775808) : (zL z).toInt = z := Int64.toInt_ofInt_of_le (by omega) (by omega)
theorem zI_ex (x : Int32) : ∃ z : Int, -2147483648 ≤ z ∧ z < 2147483648 ∧ x = zI z := ⟨x.toInt, by have := Int32.le_toInt x; omega, by have := Int32.toInt_lt x; omega, (Int32.ofInt_toInt x).symm⟩
theorem zI_add (a b : Int) : zI a + zI b = zI (a + b) := (Int32.ofInt_add a b).symm
theorem zI_sub (a b : Int) : zI a - zI b = zI (a - b) := (Int32.ofInt_sub a b).symm
theorem zI_mul (a b : Int) : zI a * zI b = zI (a * b) := (Int32.ofInt_mul a b).symm
theorem zI_neg (a : Int) : -(zI a) = zI (-a) := (Int32.ofInt_neg a).symm
theorem zL_add (a b : Int) : zL a + zL b = zL (a + b) := (Int64.ofInt_add a b).symm
theorem zL_sub (a b : Int) : zL a - zL b = zL (a - b) := (Int64.ofInt_sub a b).symm
theorem zL_mul (a b : Int) : zL a * zL b = zL (a * b) := (Int64.ofInt_mul a b).symm
theorem zL_neg (a : Int) : -(zL a) = zL (-a) := (Int64.ofInt_neg a).symm
theorem zI_suc (k : Nat) : zI ((k : Int) + 1) = zI ((k + 1 : Nat) : Int) := rfl
theorem zI_ofNat (k : Nat) : Int32.ofNat k = zI (k : Int) := (Int32.ofInt_eq_ofNat (n := k)).symm
theorem zN_I (k : Nat) : nI k = zI (k : Int) := (Int32.ofInt_eq_ofNat (n := k)).symm
theorem zI_le {a b : Int} (ha : -2147483648 ≤ a) (ha' : a < 2147483648) (hb : -2147483648 ≤ b) (hb' : b < 2147483648) : (zI a ≤ zI b) = (a ≤ b) := by
  rw [Int32.le_iff_toInt_le, zI_toInt ha ha', zI_toInt hb hb']
theorem zI_lt {a b : Int} (ha : -2147483648 ≤ a) (ha' : a < 2147483648) (hb : -2147483648 ≤ b) (hb' : b < 2147483648) : (zI a < zI b) = (a < b) := by
  rw [Int32.lt_iff_toInt_lt, zI_toInt ha ha', zI_toInt hb hb']
theorem zI_eq {a b : Int} (ha : -2147483648 ≤ a) (ha' : a < 2147483648) (hb : -2147483648 ≤ b) (hb' : b < 2147483648) : (zI a = zI b) = (a = b) := by
  rw [← Int32.toInt_inj, zI_toInt ha ha', zI_toInt hb hb']
theorem zI_le_t {a b : Int} (h : a ≤ b) (ha : -2147483648 ≤ a) (hb : b < 2147483648) : (zI a ≤ zI b) = True := by
  rw [zI_le ha (by omega) (by omega) hb]; exact eq_true h
theorem zI_le_f {a b : Int} (h : b < a) (hb : -2147483648 ≤ b) (ha : a < 2147483648) : (zI a ≤ zI b) = False := by
  rw [zI_le (by omega) ha hb (by omega)]; exact eq_false (by omega)
theorem zI_lt_t {a b : Int} (h : a < b) (ha : -2147483648 ≤ a) (hb : b < 2147483648) : (zI a < zI b) = True := by
  rw [zI_lt ha (by omega) (by omega) hb]; exact eq_true h
theorem zI_lt_f {a b : Int} (h : b ≤ a) (hb : -2147483648 ≤ b) (ha : a < 2147483648) : (zI a < zI b) = False := by
  rw [zI_lt (by omega) ha hb (by omega)]; exact eq_false (by omega)
theorem zI_eq_t {a b : Int} (h : a = b) : (zI a = zI b) = True := by rw [h]; exact eq_true rfl
theorem zI_eq_f {a b : Int} (h : a ≠ b) (ha : -2147483648 ≤ a) (ha' : a < 2147483648) (hb : -2147483648 ≤ b) (hb' : b < 2147483648) : (zI a = zI b) = False := by
  rw [zI_eq ha ha' hb hb']; exact eq_false h
theorem zL_le {a b : Int} (ha : -9223372036854775808 ≤ a) (ha' : a < 9223372036854775808) (hb : -9223372036854775808 ≤ b) (hb' : b < 9223372036854775808) : (zL a ≤ zL b) = (a ≤ b) := by
  rw [Int64.le_iff_toInt_le, zL_toInt ha ha', zL_toInt hb hb']
theorem zL_lt {a b : Int} (ha : -9223372036854775808 ≤ a) (ha' : a < 9223372036854775808) (hb : -9223372036854775808 ≤ b) (hb' : b < 9223372036854775808) : (zL a < zL b) = (a < b) := by
  rw [Int64.lt_iff_toInt_lt, zL_toInt ha ha', zL_toInt hb hb']
theorem zL_eq {a b : Int} (ha : -9223372036854775808 ≤ a) (ha' : a < 9223372036854775808) (hb : -9223372036854775808 ≤ b) (hb' : b < 9223372036854775808) : (zL a = zL b) = (a = b) := by
  rw [← Int64.toInt_inj, zL_toInt ha ha', zL_toInt hb hb']
theorem zL_le_t {a b : Int} (h : a ≤ b) (ha : -9223372036854775808 ≤ a) (hb : b < 9223372036854775808) : (zL a ≤ zL b) = True := by
  rw [zL_le ha (by omega) (by omega) hb]; exact eq_true h
theorem zL_le_f {a b : Int} (h : b < a) (hb : -9223372036854775808 ≤ b) (ha : a < 9223372036854775808) : (zL a ≤ zL b) = False := by
  rw [zL_le (by omega) ha hb (by omega)]; exact eq_false (by omega)
theorem zL_lt_t {a b : Int} (h : a < b) (ha : -9223372036854775808 ≤ a) (hb : b < 9223372036854775808) : (zL a < zL b) = True := by
  rw [zL_lt ha (by omega) (by omega) hb]; exact eq_true h
theorem zL_lt_f {a b : Int} (h : b ≤ a) (hb : -9223372036854775808 ≤ b) (ha : a < 9223372036854775808) : (zL a < zL b) = False := by
  rw [zL_lt (by omega) ha hb (by omega)]; exact eq_false (by omega)
theorem zL_eq_t {a b : Int} (h : a = b) : (zL a = zL b) = True := by rw [h]; exact eq_true rfl
theorem zL_eq_f {a b : Int} (h : a ≠ b) (ha : -9223372036854775808 ≤ a) (ha' : a < 9223372036854775808) (hb : -9223372036854775808 ≤ b) (hb' : b < 9223372036854775808) : (zL a = zL b) = False := by
  rw [zL_eq ha ha' hb hb']; exact eq_false h
theorem zI_cl {a : Int} (h : 0 ≤ a) (h2 : a < 2147483648) : (zI a).toNatClampNeg = a.toNat := Int32.toNatClampNeg_ofInt_of_le (by omega) (by omega)
theorem zI_L {a : Int} (h : -2147483648 ≤ a) (h2 : a < 2147483648) : (zI a).toInt64 = zL a := by
  apply Int64.toInt_inj.mp
  rw [Int32.toInt_toInt64, zI_toInt h h2, zL_toInt (by omega) (by omega)]
theorem nt_le_f {a b : Nat} (h : b < a) : (a ≤ b) = False := eq_false (by omega)
theorem nt_le_t {a b : Nat} (h : a ≤ b) : (a ≤ b) = True := eq_true h
theorem zI_div {a b : Int} (ha : 0 ≤ a) (ha' : a < 2147483648) (hb : 0 < b) (hb' : b < 2147483648) : zI a / zI b = zI (a / b) := by
  have h0 : 0 ≤ a / b := Int.ediv_nonneg ha (by omega)
  have h1 : a / b ≤ a := Int.ediv_le_self b ha
  apply Int32.toInt_inj.mp
  rw [Int32.toInt_div_of_ne_right, zI_toInt (by omega) ha', zI_toInt (by omega) hb', zI_toInt (by omega) (by omega), Int.tdiv_eq_ediv_of_nonneg ha]
  intro h
  have h2 : (zI b).toInt = (-1 : Int32).toInt := by rw [h]
  rw [zI_toInt (by omega) hb', show (-1 : Int32).toInt = -1 by decide] at h2
  omega
theorem zL_div {a b : Int} (ha : 0 ≤ a) (ha' : a < 9223372036854775808) (hb : 0 < b) (hb' : b < 9223372036854775808) : zL a / zL b = zL (a / b) := by
  have h0 : 0 ≤ a / b := Int.ediv_nonneg ha (by omega)
  have h1 : a / b ≤ a := Int.ediv_le_self b ha
  apply Int64.toInt_inj.mp
  rw [Int64.toInt_div_of_ne_right, zL_toInt (by omega) ha', zL_toInt (by omega) hb', zL_toInt (by omega) (by omega), Int.tdiv_eq_ediv_of_nonneg ha]
  intro h
  have h2 : (zL b).toInt = (-1 : Int64).toInt := by rw [h]
  rw [zL_toInt (by omega) hb', show (-1 : Int64).toInt = -1 by decide] at h2
  omega
theorem li_0 : (0 : Int32) = zI 0 := by decide +kernel
theorem li_1 : (1 : Int32) = zI 1 := by decide +kernel
theorem li_2 : (2 : Int32) = zI 2 := by decide +kernel
theorem li_3 : (3 : Int32) = zI 3 := by decide +kernel
theorem li_4 : (4 : Int32) = zI 4 := by decide +kernel
theorem li_5 : (5 : Int32) = zI 5 := by decide +kernel
theorem li_6 : (6 : Int32) = zI 6 := by decide +kernel
theorem li_7 : (7 : Int32) = zI 7 := by decide +kernel
theorem li_8 : (8 : Int32) = zI 8 := by decide +kernel
theorem li_9 : (9 : Int32) = zI 9 := by decide +kernel
theorem li_10 : (10 : Int32) = zI 10 := by decide +kernel
theorem li_16 : (16 : Int32) = zI 16 := by decide +kernel
theorem li_20 : (20 : Int32) = zI 20 := by decide +kernel
theorem li_22 : (22 : Int32) = zI 22 := by decide +kernel
theorem li_32 : (32 : Int32) = zI 32 := by decide +kernel
theorem li_36 : (36 : Int32) = zI 36 := by decide +kernel
theorem li_39 : (39 : Int32) = zI 39 := by decide +kernel
theorem li_40 : (40 : Int32) = zI 40 := by decide +kernel
theorem li_42 : (42 : Int32) = zI 42 := by decide +kernel
theorem li_48 : (48 : Int32) = zI 48 := by decide +kernel
theorem li_60 : (60 : Int32) = zI 60 := by decide +kernel
theorem li_67 : (67 : Int32) = zI 67 := by decide +kernel
theorem li_69 : (69 : Int32) = zI 69 := by decide +kernel
theorem li_70 : (70 : Int32) = zI 70 := by decide +kernel
theorem li_71 : (71 : Int32) = zI 71 := by decide +kernel
theorem li_76 : (76 : Int32) = zI 76 := by decide +kernel
theorem li_77 : (77 : Int32) = zI 77 := by decide +kernel
theorem li_80 : (80 : Int32) = zI 80 := by decide +kernel
theorem li_83 : (83 : Int32) = zI 83 := by decide +kernel
theorem li_86 : (86 : Int32) = zI 86 := by decide +kernel
theorem li_90 : (90 : Int32) = zI 90 := by decide +kernel
theorem li_100 : (100 : Int32) = zI 100 := by decide +kernel
theorem li_120 : (120 : Int32) = zI 120 := by decide +kernel
theorem li_200 : (200 : Int32) = zI 200 := by decide +kernel
theorem li_209 : (209 : Int32) = zI 209 := by decide +kernel
theorem li_234 : (234 : Int32) = zI 234 := by decide +kernel
theorem li_240 : (240 : Int32) = zI 240 := by decide +kernel
theorem li_255 : (255 : Int32) = zI 255 := by decide +kernel
theorem li_300 : (300 : Int32) = zI 300 := by decide +kernel
theorem li_309 : (309 : Int32) = zI 309 := by decide +kernel
theorem li_310 : (310 : Int32) = zI 310 := by decide +kernel
theorem ll_0 : (0 : Int64) = zL 0 := by decide +kernel
theorem ll_1 : (1 : Int64) = zL 1 := by decide +kernel
theorem ll_3 : (3 : Int64) = zL 3 := by decide +kernel
theorem ll_5 : (5 : Int64) = zL 5 := by decide +kernel
theorem ll_7 : (7 : Int64) = zL 7 := by decide +kernel
theorem ll_8 : (8 : Int64) = zL 8 := by decide +kernel
theorem ll_9 : (9 : Int64) = zL 9 := by decide +kernel
theorem ll_20 : (20 : Int64) = zL 20 := by decide +kernel
theorem ll_39 : (39 : Int64) = zL 39 := by decide +kernel
theorem ll_40 : (40 : Int64) = zL 40 := by decide +kernel
theorem ll_60 : (60 : Int64) = zL 60 := by decide +kernel
theorem ll_100 : (100 : Int64) = zL 100 := by decide +kernel
theorem ll_120 : (120 : Int64) = zL 120 := by decide +kernel
theorem ll_200 : (200 : Int64) = zL 200 := by decide +kernel
theorem ll_209 : (209 : Int64) = zL 209 := by decide +kernel
theorem ll_300 : (300 : Int64) = zL 300 := by decide +kernel
theorem ll_309 : (309 : Int64) = zL 309 := by decide +kernel
theorem ll_600 : (600 : Int64) = zL 600 := by decide +kernel
theorem ll_1000000000 : (1000000000 : Int64) = zL 1000000000 := by decide +kernel
theorem lc_le (x y : Int64) : (lg_cmp x y ≤ zI 0) = (x ≤ y) := propext (li_0 ▸ lg_cmp_le x y)
theorem lc_lt (x y : Int64) : (lg_cmp x y < zI 0) = (x < y) := propext (li_0 ▸ lg_cmp_lt x y)
theorem lc_gt (x y : Int64) : (zI 0 < lg_cmp x y) = (y < x) := propext (li_0 ▸ lg_cmp_gt x y)
theorem lc_eq (x y : Int64) : (lg_cmp x y = zI 0) = (x = y) := propext (li_0 ▸ lg_cmp_eq x y)
theorem zI_max {a b : Int} (ha : -2147483648 ≤ a) (ha' : a < 2147483648) (hb : -2147483648 ≤ b) (hb' : b < 2147483648) : mMx 0 (zI a) (zI b) = zI (max a b) := by
  show (if zI a < zI b then zI b else zI a) = _
  by_cases h : a < b
  · rw [if_pos ((zI_lt ha ha' hb hb').mpr h), show max a b = b by omega]
  · rw [if_neg (fun q => h ((zI_lt ha ha' hb hb').mp q)), show max a b = a by omega]
theorem zI_min {a b : Int} (ha : -2147483648 ≤ a) (ha' : a < 2147483648) (hb : -2147483648 ≤ b) (hb' : b < 2147483648) : mMx 1 (zI a) (zI b) = zI (min a b) := by
  show (if zI b < zI a then zI b else zI a) = _
  by_cases h : b < a
  · rw [if_pos ((zI_lt hb hb' ha ha').mpr h), show min a b = b by omega]
  · rw [if_neg (fun q => h ((zI_lt hb hb' ha ha').mp q)), show min a b = a by omega]
theorem mBI_rI (v : Int32) (M : mMI) (J : mMJ) (k : Int32 → mMI → mMJ → Option mRs) : mBI (rI v M J) k = k v M J := rfl
theorem mBJ_rJ (v : Int64) (M : mMI) (J : mMJ) (k : Int64 → mMI → mMJ → Option mRs) : mBJ (rJ v M J) k = k v M J := rfl
theorem mBR_rV (M : mMI) (J : mMJ) (k : mMI → mMJ → Option mRs) : mBR (rV M J) 0 k = k M J := rfl
theorem mBR_rR (a : Nat) (M : mMI) (J : mMJ) (k : mMI → mMJ → Option mRs) : mBR (rR a M J) (a + 1) k = k M J := if_pos rfl
theorem mBR_15 (M : mMI) (J : mMJ) (k : mMI → mMJ → Option mRs) : mBR (rR 14 M J) 15 k = k M J := mBR_rR 14 M J k
theorem mBR_29 (M : mMI) (J : mMJ) (k : mMI → mMJ → Option mRs) : mBR (rR 28 M J) 29 k = k M J := mBR_rR 28 M J k
theorem rZ_0 (M : mMI) (J : mMJ) : rZ (zI 0) M J = rI (zI 0) M J := rfl
theorem rZ_1 (M : mMI) (J : mMJ) : rZ (zI 1) M J = rI (zI 1) M J := rfl
/-- a loop that goes up to n -/
theorem lp_Q {α : Type} (F : α → Nat → Option mRs) (Inv : Nat → α → Prop) (Q : Option mRs → Prop) (n : Nat) (step : ∀ k a, k < n → Inv k a → Q (F a k) ∨ ∃ b, Inv (k + 1) b ∧ F a k = F b (k + 1)) (fin : ∀ a, Inv n a → Q (F a n)) (a : α) (h : Inv 0 a) : Q (F a 0) := by
  have key : ∀ m k a, k + m = n → Inv k a → Q (F a k) := by
    intro m
    induction m with
    | zero =>
      intro k a hk hi
      have hk : k = n := by omega
      subst hk
      exact fin a hi
    | succ m ih =>
      intro k a hk hi
      rcases step k a (by omega) hi with hq | ⟨b, hb, e⟩
      · exact hq
      · rw [e]
        exact ih (k + 1) b (by omega) hb
  exact key n 0 a (by omega) h
theorem lp_to {α : Type} (F : α → Nat → Option mRs) (Inv : Nat → α → Prop) (n : Nat) (step : ∀ k a, k < n → Inv k a → ∃ b, Inv (k + 1) b ∧ F a k = F b (k + 1)) (a : α) (h : Inv 0 a) : ∃ b, Inv n b ∧ F a 0 = F b n := by
  have key : ∀ m, m ≤ n → ∃ b, Inv m b ∧ F a 0 = F b m := by
    intro m
    induction m with
    | zero => intro _; exact ⟨a, h, rfl⟩
    | succ m ih =>
      intro hm
      obtain ⟨b, hb, e⟩ := ih (by omega)
      obtain ⟨c, hc, e2⟩ := step m b (by omega) hb
      exact ⟨c, hc, e.trans e2⟩
  exact key n (Nat.le_refl n)
/-- a loop that only reads: each step leads to the next -/
theorem lp_seq (G : Nat → Option mRs) {R : Option mRs} (n : Nat) (step : ∀ k, k < n → G k = G (k + 1)) (fin : G n = R) : G 0 = R := by
  have key : ∀ m, m ≤ n → G 0 = G m := by
    intro m
    induction m with
    | zero => intro _; rfl
    | succ m ih => intro hm; exact (ih (by omega)).trans (step m (by omega))
  exact (key n (Nat.le_refl n)).trans fin
theorem mI_t {z : Int} {n : Nat} (h0 : 0 ≤ z) (h1 : z < (n : Int)) (h2 : n < 2147483648) : mIn (zI z) n = True := by
  have e : (zI z).toNatClampNeg = z.toNat := zI_cl h0 (by omega)
  apply eq_true
  show ¬ (zI z < 0 ∨ n ≤ (zI z).toNatClampNeg)
  rw [e, li_0, zI_lt_f h0 (by omega) (by omega), false_or]
  omega
/-- a sum of n -/
def sm : Nat → (Nat → Int) → Int
  | 0, _ => 0
  | n + 1, f => sm n f + f n
theorem sm_0 (f : Nat → Int) : sm 0 f = 0 := rfl
theorem sm_s (n : Nat) (f : Nat → Int) : sm (n + 1) f = sm n f + f n := rfl
theorem sm_cg {f g : Nat → Int} : ∀ n, (∀ k, k < n → f k = g k) → sm n f = sm n g
  | 0, _ => rfl
  | n + 1, h => by rw [sm_s, sm_s, sm_cg n (fun k hk => h k (by omega)), h n (by omega)]
theorem sm_ge {f : Nat → Int} : ∀ n, (∀ k, k < n → 0 ≤ f k) → 0 ≤ sm n f
  | 0, _ => Int.le_refl 0
  | n + 1, h => by
    have a := sm_ge n (fun k hk => h k (by omega))
    have b := h n (by omega)
    rw [sm_s]; omega
theorem sm_le {f : Nat → Int} {B : Int} (hB : 0 ≤ B) : ∀ n, n ≤ 6 → (∀ k, k < n → f k ≤ B) → sm n f ≤ 6 * B := by
  have key : ∀ n, (∀ k, k < n → f k ≤ B) → sm n f ≤ n * B := by
    intro n
    induction n with
    | zero => intro _; simp [sm_0]
    | succ n ih =>
      intro h
      have a := ih (fun k hk => h k (by omega))
      have b := h n (by omega)
      rw [sm_s]
      have : ((n + 1 : Nat) : Int) * B = n * B + B := by rw [Int.natCast_add, Int.add_mul]; simp
      omega
  intro n hn h
  have a := key n h
  have b : (n : Int) * B ≤ 6 * B := Int.mul_le_mul_of_nonneg_right (by omega) hB
  omega
theorem sm_add (f g : Nat → Int) : ∀ n, sm n (fun k => f k + g k) = sm n f + sm n g
  | 0 => rfl
  | n + 1 => by rw [sm_s, sm_s, sm_s, sm_add f g n]; omega
theorem sm_mul (c : Int) (f : Nat → Int) : ∀ n, sm n (fun k => c * f k) = c * sm n f
  | 0 => by rw [sm_0, sm_0]; omega
  | n + 1 => by rw [sm_s, sm_s, sm_mul c f n, Int.mul_add]
theorem sm_z {f : Nat → Int} : ∀ n, (∀ k, k < n → f k = 0) → sm n f = 0
  | 0, _ => rfl
  | n + 1, h => by rw [sm_s, sm_z n (fun k hk => h k (by omega)), h n (by omega)]; rfl
theorem sm_mono {f : Nat → Int} (h0 : ∀ k, 0 ≤ f k) : ∀ {m n : Nat}, m ≤ n → sm m f ≤ sm n f := by
  intro m n h
  induction n with
  | zero => rw [show m = 0 by omega]; exact Int.le_refl _
  | succ n ih =>
    by_cases hm : m = n + 1
    · rw [hm]; exact Int.le_refl _
    · have a := ih (by omega)
      have b := h0 n
      rw [sm_s]; omega
/-- nothing outside S has changed -/
def fR (S : List Nat) (M N : mMI) : Prop := ∀ p, ¬ p ∈ S → N p = M p
def fJ (S : List Nat) (M N : mMJ) : Prop := ∀ p, ¬ p ∈ S → N p = M p
theorem fR.rf {S : List Nat} {M : mMI} : fR S M M := fun _ _ => rfl
theorem fJ.rf {S : List Nat} {M : mMJ} : fJ S M M := fun _ _ => rfl
theorem fR.tr {S : List Nat} {M N O : mMI} (h : fR S M N) (h2 : fR S N O) : fR S M O := fun p q => (h2 p q).trans (h p q)
theorem fJ.tr {S : List Nat} {M N O : mMJ} (h : fJ S M N) (h2 : fJ S N O) : fJ S M O := fun p q => (h2 p q).trans (h p q)
theorem fR.up {S : List Nat} {M : mMI} {k i : Nat} {v : Int32} (h : k ∈ S) : fR S M (mUp M k i v) := fun p q => if_neg (fun (e : p = k) => q (e ▸ h))
theorem fR.set {S : List Nat} {M : mMI} {k : Nat} {f : Nat → Int32} (h : k ∈ S) : fR S M (mSet M k f) := fun p q => if_neg (fun (e : p = k) => q (e ▸ h))
theorem fJ.up {S : List Nat} {M : mMJ} {k i : Nat} {v : Int64} (h : k ∈ S) : fJ S M (mUpJ M k i v) := fun p q => if_neg (fun (e : p = k) => q (e ▸ h))
theorem fR.mono {S T : List Nat} {M N : mMI} (h : fR S M N) (hs : ∀ p, p ∈ S → p ∈ T) : fR T M N := fun p q => h p (fun x => q (hs p x))
theorem fJ.mono {S T : List Nat} {M N : mMJ} (h : fJ S M N) (hs : ∀ p, p ∈ S → p ∈ T) : fJ T M N := fun p q => h p (fun x => q (hs p x))
theorem up_at (M : mMI) (k i : Nat) (v : Int32) : mUp M k i v k i = v := by
  show (if k = k then upd (M k) i v else M k) i = v
  rw [if_pos rfl]
  exact if_pos rfl
theorem up_ne {M : mMI} {k i : Nat} {v : Int32} {j : Nat} (h : j ≠ i) : mUp M k i v k j = M k j := by
  show (if k = k then upd (M k) i v else M k) j = M k j
  rw [if_pos rfl]
  exact if_neg h
theorem up_nk {M : mMI} {k i : Nat} {v : Int32} {p : Nat} (h : p ≠ k) : mUp M k i v p = M p := if_neg h
theorem upJ_at (M : mMJ) (k i : Nat) (v : Int64) : mUpJ M k i v k i = v := by
  show (if k = k then vp_updL (M k) i v else M k) i = v
  rw [if_pos rfl]
  exact if_pos rfl
theorem upJ_ne {M : mMJ} {k i : Nat} {v : Int64} {j : Nat} (h : j ≠ i) : mUpJ M k i v k j = M k j := by
  show (if k = k then vp_updL (M k) i v else M k) j = M k j
  rw [if_pos rfl]
  exact if_neg h
theorem upJ_nk {M : mMJ} {k i : Nat} {v : Int64} {p : Nat} (h : p ≠ k) : mUpJ M k i v p = M p := if_neg h
theorem set_at (M : mMI) (k : Nat) (f : Nat → Int32) : mSet M k f k = f := if_pos rfl
theorem set_nk {M : mMI} {k : Nat} {f : Nat → Int32} {p : Nat} (h : p ≠ k) : mSet M k f p = M p := if_neg h
