/-! ===== numbers of 32 bits as integers: every sum comes with a linear fact ===== -/
theorem kt_c512 : (512 : Int32).toInt = 512 := by decide
theorem kt_c10 : (10 : Int32).toInt = 10 := by decide
theorem kt_c10000 : (10000 : Int32).toInt = 10000 := by decide
theorem kt_and1 (x : Int32) : 0 ≤ (x &&& 1).toInt ∧ (x &&& 1).toInt ≤ 1 := by
  obtain ⟨j, hj, e⟩ := pk_andE x (m := 1) 1 (by decide)
  rw [e, nI_toInt (by omega)]
  omega
theorem kt_mulr {a b A B : Int} (h1 : 0 ≤ a ∧ a ≤ A) (h2 : 0 ≤ b ∧ b ≤ B) : 0 ≤ a * b ∧ a * b ≤ A * B := by
  refine ⟨Int.mul_nonneg h1.1 h2.1, ?_⟩
  exact Int.le_trans (Int.mul_le_mul_of_nonneg_right h1.2 h2.1) (Int.mul_le_mul_of_nonneg_left h2.2 (by omega))
theorem kt_mulp {a b : Int} (h1 : 1 ≤ a) (h2 : 1 ≤ b) : 1 ≤ a * b := by
  have h := Int.mul_le_mul_of_nonneg_right h1 (show 0 ≤ b by omega)
  rw [Int.one_mul] at h
  omega
theorem kt_rng (x : Int32) : -2147483648 ≤ x.toInt ∧ x.toInt < 2147483648 := ⟨Int32.le_toInt x, Int32.toInt_lt x⟩
theorem kt_bm (X : Int) : ∃ k : Int, X.bmod (2 ^ 32) = X + 4294967296 * k := by
  have h : X.bmod (2 ^ 32) % ((2 ^ 32 : Nat) : Int) = X % ((2 ^ 32 : Nat) : Int) := Int.bmod_emod
  have e : ((2 ^ 32 : Nat) : Int) = 4294967296 := by decide
  rw [e] at h
  exact ⟨(X.bmod (2 ^ 32) - X) / 4294967296, by omega⟩
theorem kt_addk {t x y : Int32} (h : t = x + y) : ∃ k : Int, t.toInt = x.toInt + y.toInt + 4294967296 * k ∧ -2147483648 ≤ t.toInt ∧ t.toInt < 2147483648 := by
  obtain ⟨k, hk⟩ := kt_bm (x.toInt + y.toInt)
  exact ⟨k, by rw [h, Int32.toInt_add]; exact hk, (kt_rng t).1, (kt_rng t).2⟩
theorem kt_subk {t x y : Int32} (h : t = x - y) : ∃ k : Int, t.toInt = x.toInt - y.toInt + 4294967296 * k ∧ -2147483648 ≤ t.toInt ∧ t.toInt < 2147483648 := by
  obtain ⟨k, hk⟩ := kt_bm (x.toInt - y.toInt)
  exact ⟨k, by rw [h, Int32.toInt_sub]; exact hk, (kt_rng t).1, (kt_rng t).2⟩
theorem kt_mulxk {t x y : Int32} (h : t = x * y) : ∃ k : Int, t.toInt = x.toInt * y.toInt + 4294967296 * k ∧ -2147483648 ≤ t.toInt ∧ t.toInt < 2147483648 := by
  obtain ⟨k, hk⟩ := kt_bm (x.toInt * y.toInt)
  exact ⟨k, by rw [h, Int32.toInt_mul]; exact hk, (kt_rng t).1, (kt_rng t).2⟩
theorem kt_mulk {t x c : Int32} {C : Int} (h : t = x * c) (hc : c.toInt = C) : ∃ k : Int, t.toInt = x.toInt * C + 4294967296 * k ∧ -2147483648 ≤ t.toInt ∧ t.toInt < 2147483648 := by
  obtain ⟨k, hk, h2⟩ := kt_mulxk h
  rw [hc] at hk
  exact ⟨k, hk, h2⟩
/-- a row whose numbers lie between two bounds -/
def kt_r (f : Nat → Int32) (n : Nat) (lo hi : Int) : Prop := ∀ j, j < n → lo ≤ (f j).toInt ∧ (f j).toInt ≤ hi
theorem kt_r.get {f : Nat → Int32} {n : Nat} {lo hi : Int} {i : Int32} (h : kt_r f n lo hi) (hv : vp_in i n) : lo ≤ (f i.toNatClampNeg).toInt ∧ (f i.toNatClampNeg).toInt ≤ hi :=
  h _ (Nat.not_le.mp fun q => hv (Or.inr q))
theorem kt_r.upd {f : Nat → Int32} {n k : Nat} {lo hi : Int} {x : Int32} (h : kt_r f n lo hi) (h1 : lo ≤ x.toInt) (h2 : x.toInt ≤ hi) : kt_r (upd f k x) n lo hi := by
  intro j hj
  by_cases e : j = k
  · rw [e, pk_us]; exact ⟨h1, h2⟩
  · rw [pk_un e]; exact h j hj
theorem kt_r.const {n : Nat} {lo hi : Int} {x : Int32} (h1 : lo ≤ x.toInt) (h2 : x.toInt ≤ hi) : kt_r (fun _ => x) n lo hi := fun _ _ => ⟨h1, h2⟩
theorem kt_z {r : Int32} (h1 : 0 ≤ r.toInt) (h2 : r.toInt ≤ 1) : narrow .boolean (.int r) = .int r := by
  rcases (show r.toInt = 0 ∨ r.toInt = 1 by omega) with h | h
  · rw [show r = 0 from (kt_eq r 0).mpr h]; rfl
  · rw [show r = 1 from (kt_eq r 1).mpr h]; rfl
theorem kt_zf {r : Int32} (h1 : 0 ≤ r.toInt) (h2 : r.toInt ≤ 1) : fits .boolean (.int r) = true := by
  rcases (show r.toInt = 0 ∨ r.toInt = 1 by omega) with h | h
  · rw [show r = 0 from (kt_eq r 0).mpr h]; rfl
  · rw [show r = 1 from (kt_eq r 1).mpr h]; rfl
theorem kt_zn {r : Int32} (h1 : 0 ≤ r.toInt) (h2 : r.toInt ≤ 1) : vp_nar .boolean r = r := by
  rcases (show r.toInt = 0 ∨ r.toInt = 1 by omega) with h | h
  · rw [show r = 0 from (kt_eq r 0).mpr h]; rfl
  · rw [show r = 1 from (kt_eq r 1).mpr h]; rfl
theorem kt_r.cpy {f g : Nat → Int32} {lo hi : Int} (h : kt_r f 40 lo hi) : kt_r (va_cpy f g (0 : Int32).toNatClampNeg (0 : Int32).toNatClampNeg (40 : Int32).toNatClampNeg) 40 lo hi := by
  intro j hj
  show lo ≤ (va_cpy f g 0 0 40 j).toInt ∧ (va_cpy f g 0 0 40 j).toInt ≤ hi
  rw [pk_cpy_in (Nat.zero_le j) (by omega)]
  show lo ≤ (f (0 + (j - 0))).toInt ∧ (f (0 + (j - 0))).toInt ≤ hi
  rw [show 0 + (j - 0) = j by omega]
  exact h j hj
theorem kt_mulb {a b : Int} (h1 : 2 ≤ a ∧ a ≤ 9) (h2 : 2 ≤ b ∧ b ≤ 9) : 4 ≤ a * b ∧ a * b ≤ 81 := by
  rcases (show a = 2 ∨ a = 3 ∨ a = 4 ∨ a = 5 ∨ a = 6 ∨ a = 7 ∨ a = 8 ∨ a = 9 by omega) with rfl | rfl | rfl | rfl | rfl | rfl | rfl | rfl <;> omega
theorem kt_and7 (x : Int32) : 0 ≤ (x &&& 7).toInt ∧ (x &&& 7).toInt ≤ 7 := by
  obtain ⟨j, hj, e⟩ := pk_andE x (m := 7) 3 (by decide)
  rw [e, nI_toInt (by omega)]
  omega
/-- how many of the first n numbers are of a kind -/
def kt_ct (P : Int32 → Bool) (f : Nat → Int32) : Nat → Nat
  | 0 => 0
  | n + 1 => kt_ct P f n + (if P (f n) = true then 1 else 0)
theorem kt_ct_le (P : Int32 → Bool) (f : Nat → Int32) : ∀ n, kt_ct P f n ≤ n
  | 0 => Nat.le_refl 0
  | n + 1 => by
    have h := kt_ct_le P f n
    unfold kt_ct
    split <;> omega
theorem kt_ct_step (P : Int32 → Bool) (f : Nat → Int32) (m : Nat) : ∀ n, kt_ct P f m ≤ kt_ct P f (m + n)
  | 0 => Nat.le_refl _
  | n + 1 => by
    have h := kt_ct_step P f m n
    show kt_ct P f m ≤ kt_ct P f (m + n) + (if P (f (m + n)) = true then 1 else 0)
    omega
theorem kt_ct_mono (P : Int32 → Bool) (f : Nat → Int32) {m n : Nat} (h : m ≤ n) : kt_ct P f m ≤ kt_ct P f n := by
  have e : n = m + (n - m) := by omega
  rw [e]
  exact kt_ct_step P f m (n - m)
theorem kt_ct_yes {P : Int32 → Bool} {f : Nat → Int32} {n : Nat} (h : P (f n) = true) : kt_ct P f (n + 1) = kt_ct P f n + 1 := by
  show kt_ct P f n + (if P (f n) = true then 1 else 0) = _
  rw [if_pos h]
theorem kt_ct_no {P : Int32 → Bool} {f : Nat → Int32} {n : Nat} (h : ¬ P (f n) = true) : kt_ct P f (n + 1) = kt_ct P f n := by
  show kt_ct P f n + (if P (f n) = true then 1 else 0) = _
  rw [if_neg h]
  rfl
theorem kt_ct_cong {P Q : Int32 → Bool} {f g : Nat → Int32} : ∀ {n : Nat}, (∀ j, j < n → P (f j) = Q (g j)) → kt_ct P f n = kt_ct Q g n
  | 0, _ => rfl
  | n + 1, h => by
    show kt_ct P f n + (if P (f n) = true then 1 else 0) = kt_ct Q g n + (if Q (g n) = true then 1 else 0)
    rw [kt_ct_cong (fun j hj => h j (by omega)), h n (by omega)]
/-- a count goes on by one number: the answer of a test, 1 or 0 -/
theorem kt_ct_add {P : Int32 → Bool} {f : Nat → Int32} {n : Nat} {c v t : Int32} (hc : c = nI (kt_ct P f n)) (hv : v = if P (f n) = true then 1 else 0) (ht : t = c + v) : t = nI (kt_ct P f (n + 1)) := by
  rw [ht, hc, hv]
  by_cases h : P (f n) = true
  · rw [if_pos h, kt_ct_yes h]; exact nI_1 _
  · rw [if_neg h, kt_ct_no h]; exact Int32.add_zero _
/-- the kind that a sign brings, the type of its field; what a sign counts for -/
def kt_kd (s : Int32) : Int32 := if s = 7 then 2 else if 1 ≤ s ∧ s ≤ 4 then s else 0
def kt_tp (s : Int32) : Int32 := if s = 5 ∨ s = 7 then 1 else if s = 6 then 2 else 0
def kt_iK (s : Int32) : Bool := decide (kt_kd s = 2)
def kt_iR (s : Int32) : Bool := decide (kt_kd s = 3 ∨ kt_kd s = 4)
def kt_iP (s : Int32) : Bool := decide (¬ kt_kd s = 0)
def kt_iT (s : Int32) : Bool := decide (kt_tp s = 1)
def kt_ok (f : Nat → Int32) (N : Nat) : Prop := kt_ct kt_iK f N = 1 ∧ 1 ≤ kt_ct kt_iR f N ∧ kt_ct kt_iP f N ≤ 40 ∧ kt_ct kt_iT f N ≤ 1
theorem kt_dt {p : Prop} [Decidable p] {v : Int32} (h : (v = 1 ∧ p) ∨ (v = 0 ∧ ¬ p)) : v = if decide p = true then 1 else 0 := by
  rcases h with ⟨h1, h2⟩ | ⟨h1, h2⟩
  · rw [if_pos (decide_eq_true h2)]; exact h1
  · rw [if_neg (by rw [decide_eq_true_iff]; exact h2)]; exact h1
/-- a line told: k places of it written -/
def kt_tl (f : Nat → Int32) (b : Nat) (n v : Int32) : Nat → (Nat → Int32)
  | 0 => f
  | k + 1 => upd (kt_tl f b n v k) (b + k) (if nI k < n then (v >>> ((3 * nI k) &&& 31)) &&& 7 else 0)
theorem kt_tl_r {f : Nat → Int32} {b : Nat} {n v : Int32} (h : kt_r f 81 0 7) : ∀ k, kt_r (kt_tl f b n v k) 81 0 7
  | 0 => h
  | k + 1 => by
    unfold kt_tl
    refine (kt_tl_r h k).upd ?_ ?_
    · split
      · exact (kt_and7 _).1
      · decide
    · split
      · exact (kt_and7 _).2
      · decide
theorem kt_clamp {x : Int32} {n : Nat} (h : x.toInt = (n : Int)) : x.toNatClampNeg = n := by
  show x.toInt.toNat = n
  omega
theorem kt_fld {r c L w : Int} (h1 : 0 ≤ r ∧ r < L) (h2 : L ≤ 9) (h3 : 2 ≤ w ∧ w ≤ 9) (h4 : 0 ≤ c ∧ c < w) : 0 ≤ r * w ∧ r * w + c ≤ 80 ∧ (1 ≤ r → w ≤ r * w) ∧ (r + 1 < L → r * w + w + c ≤ 80) ∧ (c + 1 < w → r * w + c + 1 ≤ 80) := by
  rcases (show r = 0 ∨ r = 1 ∨ r = 2 ∨ r = 3 ∨ r = 4 ∨ r = 5 ∨ r = 6 ∨ r = 7 ∨ r = 8 by omega) with rfl | rfl | rfl | rfl | rfl | rfl | rfl | rfl | rfl <;> omega
/-- how many fields a board has -/
def kt_sz (ln wd : Int32) : Nat := (ln.toInt * wd.toInt).toNat
theorem kt_kd_r (s : Int32) : 0 ≤ (kt_kd s).toInt ∧ (kt_kd s).toInt ≤ 4 := by
  unfold kt_kd
  split
  · decide
  · split
    · rename_i h
      rw [kt_le, kt_le, kt_c1, kt_c4] at h
      omega
    · decide
theorem kt_tp_r (s : Int32) : 0 ≤ (kt_tp s).toInt ∧ (kt_tp s).toInt ≤ 2 := by
  unfold kt_tp
  split
  · decide
  · split <;> decide

theorem fa_upd_twice_ (f : Nat → Int32) (i : Nat) (x y : Int32) : upd (upd f i x) i y = upd f i y := by
  funext j
  by_cases h : j = i
  · rw [h, pk_us, pk_us]
  · rw [pk_un h, pk_un h, pk_un h]
