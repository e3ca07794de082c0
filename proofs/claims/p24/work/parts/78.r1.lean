/-! ===== a stand's number ===== -/
def kt_dgt (B : Nat) (x : Int32) : Nat := if x = -1 then B - 1 else x.toInt.toNat
def kt_pn (B : Nat) (A : Nat → Int32) : Nat → Nat
  | 0 => 0
  | k + 1 => kt_pn B A k + kt_dgt B (A k) * B ^ k
def kt_po (B P v : Nat) : Nat → Int32 := fun j => if j < P then (if kt_dg B v j + 1 < B then nI (kt_dg B v j) else -1) else -1
theorem kt_pn_cong {B : Nat} {A C : Nat → Int32} : ∀ {k : Nat}, (∀ j, j < k → A j = C j) → kt_pn B A k = kt_pn B C k
  | 0, _ => rfl
  | k + 1, h => by
    show kt_pn B A k + kt_dgt B (A k) * B ^ k = kt_pn B C k + kt_dgt B (C k) * B ^ k
    rw [kt_pn_cong (fun j hj => h j (by omega)), h k (by omega)]
theorem kt_pn_lt {B : Nat} {A : Nat → Int32} : ∀ {k : Nat}, (∀ j, j < k → kt_dgt B (A j) < B) → kt_pn B A k < B ^ k
  | 0, _ => by
    show 0 < B ^ 0
    rw [Nat.pow_zero]
    omega
  | k + 1, h => by
    have h1 := kt_pn_lt (k := k) (fun j hj => h j (by omega))
    have h2 := h k (by omega)
    have h3 : (kt_dgt B (A k) + 1) * B ^ k ≤ B * B ^ k := Nat.mul_le_mul_right _ h2
    rw [Nat.add_mul, Nat.one_mul] at h3
    show kt_pn B A k + kt_dgt B (A k) * B ^ k < B ^ (k + 1)
    rw [Nat.pow_succ, Nat.mul_comm (B ^ k) B]
    omega
theorem kt_pn_dg {B : Nat} {A : Nat → Int32} (hB : 1 ≤ B) : ∀ {k : Nat}, (∀ j, j < k → kt_dgt B (A j) < B) → ∀ j, j < k → kt_dg B (kt_pn B A k) j = kt_dgt B (A j)
  | 0, _, j, hj => absurd hj (Nat.not_lt_zero j)
  | k + 1, h, j, hj => by
    show (kt_pn B A k + kt_dgt B (A k) * B ^ k) / B ^ j % B = _
    have hp : ∀ n, 0 < B ^ n := fun n => Nat.pow_pos hB
    by_cases e : j = k
    · rw [e, Nat.add_mul_div_right _ _ (hp k), Nat.div_eq_of_lt (kt_pn_lt (fun j hj => h j (by omega))), Nat.zero_add, Nat.mod_eq_of_lt (h k (by omega))]
    · have h1 := kt_pn_dg hB (k := k) (fun j hj => h j (by omega)) j (by omega)
      obtain ⟨m, hm⟩ : ∃ m, k = m + 1 + j := ⟨k - 1 - j, by omega⟩
      have e2 : ∀ d, d * B ^ k = d * B ^ m * B * B ^ j := by
        intro d
        rw [hm, Nat.pow_add, Nat.pow_succ]
        simp only [Nat.mul_assoc]
      rw [e2 _, Nat.add_mul_div_right _ _ (hp j), Nat.add_mul_mod_self_right]
      exact h1
theorem kt_dg_lt {B v p : Nat} (hB : 1 ≤ B) : kt_dg B v p < B := Nat.mod_lt _ hB
theorem kt_po_dgt {B P v j : Nat} (hB : 1 ≤ B) (hB2 : B ≤ 1000000) (hj : j < P) : kt_dgt B (kt_po B P v j) = kt_dg B v j := by
  have hl := kt_dg_lt (v := v) (p := j) hB
  unfold kt_po kt_dgt
  rw [if_pos hj]
  by_cases e : kt_dg B v j + 1 < B
  · have hne := kt_nIm1 (a := kt_dg B v j) (by omega)
    rw [if_pos e, if_neg hne, kt_nI (by omega)]
    omega
  · rw [if_neg e, if_pos rfl]
    omega
theorem kt_pn_po {B P v : Nat} (hB : 1 ≤ B) (hB2 : B ≤ 1000000) : ∀ k, k ≤ P → kt_pn B (kt_po B P v) k = v % B ^ k
  | 0, _ => by
    rw [Nat.pow_zero, Nat.mod_one]
    rfl
  | k + 1, h => by
    show kt_pn B (kt_po B P v) k + kt_dgt B (kt_po B P v k) * B ^ k = _
    rw [kt_pn_po hB hB2 k (by omega), kt_po_dgt hB hB2 (by omega), Nat.mod_pow_succ, Nat.mul_comm (kt_dg B v k) (B ^ k)]
    first
      | done
      | rfl
theorem kt_dgt_lt {B : Nat} {x : Int32} (hB : 1 ≤ B) (h : x = -1 ∨ (0 ≤ x.toInt ∧ x.toInt < (B : Int) - 1)) : kt_dgt B x < B := by
  unfold kt_dgt
  rcases h with h | h
  · rw [if_pos h]
    omega
  · have hne : ¬ x = -1 := fun e => by
      rw [e, kt_cm1] at h
      omega
    rw [if_neg hne]
    omega
theorem kt_po_pn {B P : Nat} {A : Nat → Int32} (hB : 1 ≤ B) (hA : ∀ j, j < P → A j = -1 ∨ (0 ≤ (A j).toInt ∧ (A j).toInt < (B : Int) - 1)) : kt_po B P (kt_pn B A P) = kt_cut P A := by
  have hd : ∀ j, j < P → kt_dgt B (A j) < B := fun j hj => kt_dgt_lt hB (hA j hj)
  funext j
  unfold kt_po kt_cut
  by_cases e : j < P
  · rw [if_pos e, if_pos e, kt_pn_dg hB hd j e]
    unfold kt_dgt
    rcases hA j e with h | h
    · rw [if_pos h, if_neg (by omega), h]
    · have hne : ¬ A j = -1 := fun e => by
        rw [e, kt_cm1] at h
        omega
      rw [if_neg hne, if_pos (by omega)]
      exact (kt_nIof h.1).symm
  · rw [if_neg e, if_neg e]
/-- where the pieces of a stand are -/
theorem kt_po_v {B P v : Nat} (hB : 1 ≤ B) (hB2 : B ≤ 1000000) (j : Nat) (hj : j < P) : kt_po B P v j = -1 ∨ (0 ≤ (kt_po B P v j).toInt ∧ (kt_po B P v j).toInt < (B : Int) - 1) := by
  unfold kt_po
  rw [if_pos hj]
  by_cases e : kt_dg B v j + 1 < B
  · rw [if_pos e, kt_nI (by omega)]
    exact Or.inr (by omega)
  · rw [if_neg e]
    exact Or.inl rfl
theorem kt_po_out {B P v j : Nat} (hj : P ≤ j) : kt_po B P v j = -1 := if_neg (by omega)
theorem kt_po_cut (B P v : Nat) : kt_cut P (kt_po B P v) = kt_po B P v := by
  funext j
  unfold kt_cut
  by_cases e : j < P
  · rw [if_pos e]
  · rw [if_neg e, kt_po_out (by omega)]
/-- the reference's and the class's ways of telling a piece's field agree -/
theorem kt_po_if {B P v j : Nat} {F : Int} (hF : (B : Int) = F + 1) (hj : j < P) : kt_po B P v j = if ((kt_dg B v j : Nat) : Int) < F then nI (kt_dg B v j) else -1 := by
  unfold kt_po
  rw [if_pos hj]
  by_cases e : kt_dg B v j + 1 < B
  · rw [if_pos e, if_pos (by omega)]
  · rw [if_neg e, if_neg (by omega)]
theorem kt_pn_upd {B : Nat} {A : Nat → Int32} {p : Nat} {x : Int32} : ∀ {k : Nat}, p < k → ((kt_pn B (upd A p x) k : Nat) : Int) = ((kt_pn B A k : Nat) : Int) + (((kt_dgt B x : Nat) : Int) - ((kt_dgt B (A p) : Nat) : Int)) * ((B ^ p : Nat) : Int)
  | 0, h => absurd h (Nat.not_lt_zero p)
  | k + 1, h => by
    show ((kt_pn B (upd A p x) k + kt_dgt B (upd A p x k) * B ^ k : Nat) : Int) = ((kt_pn B A k + kt_dgt B (A k) * B ^ k : Nat) : Int) + _
    by_cases e : p = k
    · subst e
      rw [kt_pn_cong (B := B) (A := upd A p x) (C := A) (k := p) (fun j hj => pk_un (by omega)), pk_us, Int.sub_mul, Int.natCast_add, Int.natCast_add, Int.natCast_mul, Int.natCast_mul]
      omega
    · have h1 := kt_pn_upd (B := B) (A := A) (x := x) (k := k) (show p < k by omega)
      rw [pk_un (Ne.symm e), Int.natCast_add, Int.natCast_add, h1]
      omega
theorem kt_dgt_of {B : Nat} {x : Int32} (h : 0 ≤ x.toInt) : ((kt_dgt B x : Nat) : Int) = x.toInt := by
  have hne : ¬ x = -1 := fun e => by
    rw [e, kt_cm1] at h
    omega
  unfold kt_dgt
  rw [if_neg hne]
  omega
theorem kt_dgt_m1 {B : Nat} (hB : 1 ≤ B) : ((kt_dgt B (-1) : Nat) : Int) = (B : Int) - 1 := by
  unfold kt_dgt
  rw [if_pos rfl]
  omega
/-- the pieces that a move takes, one behind the other -/
def kt_rmv (fv F : Nat → Int32) : Nat → (Nat → Int32)
  | 0 => F
  | k + 1 => upd (kt_rmv fv F k) (fv k).toInt.toNat (-1)
theorem kt_rmv_not {fv F : Nat → Int32} {j : Nat} : ∀ {k : Nat}, (∀ i, i < k → ¬ (fv i).toInt.toNat = j) → kt_rmv fv F k j = F j
  | 0, _ => rfl
  | k + 1, h => by
    show upd (kt_rmv fv F k) (fv k).toInt.toNat (-1) j = _
    rw [pk_un (fun e => h k (by omega) e.symm)]
    exact kt_rmv_not (fun i hi => h i (by omega))
theorem kt_rmv_yes {fv F : Nat → Int32} {j i : Nat} : ∀ {k : Nat}, i < k → (fv i).toInt.toNat = j → kt_rmv fv F k j = -1
  | 0, h, _ => absurd h (Nat.not_lt_zero i)
  | k + 1, h, e => by
    show upd (kt_rmv fv F k) (fv k).toInt.toNat (-1) j = _
    by_cases e2 : j = (fv k).toInt.toNat
    · rw [e2, pk_us]
    · rw [pk_un e2]
      have h3 : ¬ i = k := fun h3 => e2 (by rw [← e, h3])
      exact kt_rmv_yes (k := k) (by omega) e
theorem kt_rmv_mk {P p c : Nat} {w L a n : Int} {fr fk A fv : Nat → Int32} {lt lh : Int32} (hP : P ≤ 40) (hp : p < P) (hL81 : (kt_al (A p).toInt w L a n).toNat < 1000000) (hVL : kt_VL fv c (fun j => j < P ∧ kt_gone A (kt_mk P w L fr fk lt lh A p a n) j)) : ∀ j, j < P → kt_rmv fv (upd A p (nI (kt_al (A p).toInt w L a n).toNat)) c j = kt_mk P w L fr fk lt lh A p a n j := by
  intro j hj
  by_cases hg : kt_gone A (kt_mk P w L fr fk lt lh A p a n) j
  · obtain ⟨i, hi, e⟩ := hVL.2.2.1 j (by omega) ⟨hj, hg⟩
    rw [kt_rmv_yes hi (by rw [e, kt_nI (by omega)]; omega), (kt_mk_j hj).1 hg]
  · have hn : ∀ i, i < c → ¬ (fv i).toInt.toNat = j := by
      intro i hi e
      obtain ⟨j2, h1, h2, h3⟩ := hVL.2.1 i hi
      rw [h2, kt_nI (by omega)] at e
      have e2 : j2 = j := by omega
      rw [e2] at h3
      exact hg h3.2
    rw [kt_rmv_not hn]
    rcases (kt_mk_j (w := w) (L := L) (fr := fr) (fk := fk) (A := A) (mkt := lt) (mhd := lh) (p := p) (a := a) (n := n) hj).2 with h | h
    · by_cases e : j = p
      · rw [e, kt_mk_p hp] at h
        exact absurd h (kt_nIm1 (by omega))
      · rw [pk_un e, h]
        exact Classical.byContradiction (fun hne => hg ⟨hne, h⟩)
    · exact h.symm
/-! ===== moves, stands behind them ===== -/
def kt_mvs (P : Nat) (w L : Int) (fr fk : Nat → Int32) (re : Int) (A : Nat → Int32) (t : Int) (y : Nat) : Prop := y < 32 * P ∧ ¬ A (y / 32) = -1 ∧ kt_side (fk (y / 32)) = t ∧ kt_bar (kt_who A P) fr (fk (y / 32)) re (A (y / 32)).toInt w L ((y / 8 % 4 : Nat) : Int) ((y % 8 + 1 : Nat) : Int) = 0
noncomputable def kt_suc (B P : Nat) (w L : Int) (fr fk : Nat → Int32) (lt lh : Int32) (A : Nat → Int32) (t y : Nat) : Nat := 2 * kt_pn B (kt_mk P w L fr fk lt lh A (y / 32) ((y / 8 % 4 : Nat) : Int) ((y % 8 + 1 : Nat) : Int)) P + (1 - t)
def kt_ed (B P : Nat) (w L : Int) (fr fk : Nat → Int32) (re : Int) (lt lh : Int32) (s u : Nat) : Prop := ∃ y, kt_mvs P w L fr fk re (kt_po B P (s / 2)) ((s % 2 : Nat) : Int) y ∧ u = kt_suc B P w L fr fk lt lh (kt_po B P (s / 2)) (s % 2) y
noncomputable def kt_wn (K G C : Prop) (s : Int) : Int := @ite Int K (Classical.propDecidable _) 1 (@ite Int G (Classical.propDecidable _) 0 (@ite Int C (Classical.propDecidable _) 3 (1 - s)))
theorem kt_wn_of {K G C : Prop} {s r : Int} (hs : 0 ≤ s ∧ s ≤ 1) (h : kt_WN K G C s r) : kt_wn K G C s = if r = -1 then 3 else r := by
  unfold kt_wn
  rcases h with ⟨a, b⟩ | ⟨a, c, b⟩ | ⟨a, c, d, b⟩ | ⟨a, c, d, b⟩
  · rw [if_pos a, if_neg (by omega), b]
  · rw [if_neg a, if_pos c, if_neg (by omega), b]
  · rw [if_neg a, if_neg c, if_pos d, if_pos b]
  · rw [if_neg a, if_neg c, if_neg d, if_neg (by omega), b]
theorem kt_wn_r {K G C : Prop} {s : Int} (hs : 0 ≤ s ∧ s ≤ 1) : (0 ≤ kt_wn K G C s ∧ kt_wn K G C s ≤ 1) ∨ (kt_wn K G C s = 3 ∧ C) := by
  unfold kt_wn
  by_cases a : K
  · rw [if_pos a]; exact Or.inl (by omega)
  · rw [if_neg a]
    by_cases c : G
    · rw [if_pos c]; exact Or.inl (by omega)
    · rw [if_neg c]
      by_cases d : C
      · rw [if_pos d]; exact Or.inr ⟨rfl, d⟩
      · rw [if_neg d]; exact Or.inl (by omega)
/-- how a stand is before any move: won by 0 or 1, open (3), or no stand that counts (4) -/
noncomputable def kt_ev (B P : Nat) (w L : Int) (fr fk : Nat → Int32) (re : Int) (lg : Int32) (kg : Nat) (s : Nat) : Int :=
  @ite Int (kt_gdp (L * w) fr fk (fun p => ((kt_dg B (s / 2) p : Nat) : Int)) P) (Classical.propDecidable _)
    (kt_wn (kt_po B P (s / 2) kg = -1) (kt_goR lg w L (fr (kt_po B P (s / 2) kg).toInt.toNat) (kt_po B P (s / 2) kg).toInt) (kt_can P (kt_who (kt_po B P (s / 2)) P) fr fk (kt_po B P (s / 2)) re w L ((s % 2 : Nat) : Int)) ((s % 2 : Nat) : Int)) 4
theorem kt_can_mvs {P : Nat} {w L re t : Int} {fr fk A : Nat → Int32} (h : kt_can P (kt_who A P) fr fk A re w L t) : ∃ y, kt_mvs P w L fr fk re A t y := by
  obtain ⟨p, hp, h1, h2, a, ha, h3⟩ := h
  refine ⟨32 * p + 8 * a, by omega, ?_⟩
  have e1 : (32 * p + 8 * a) / 32 = p := by omega
  have e2 : (32 * p + 8 * a) / 8 % 4 = a := by omega
  have e3 : (32 * p + 8 * a) % 8 + 1 = 1 := by omega
  rw [e1, e2, e3]
  exact ⟨h2, h1, h3⟩

/-! ===== counting ===== -/
theorem kt_gc_cong {G G' : Nat → Prop} : ∀ {n : Nat}, (∀ j, j < n → (G j ↔ G' j)) → kt_gc G n = kt_gc G' n
  | 0, _ => rfl
  | n + 1, h => by
    have h1 := kt_gc_cong (n := n) (fun j hj => h j (by omega))
    by_cases e : G n
    · rw [(kt_gc_c G n).1 e, (kt_gc_c G' n).1 ((h n (by omega)).mp e), h1]
    · rw [(kt_gc_c G n).2 e, (kt_gc_c G' n).2 (fun e2 => e ((h n (by omega)).mpr e2)), h1]
theorem kt_gc_one {G G' : Nat → Prop} {s : Nat} (hs : ¬ G s) (hs' : G' s) : ∀ {n : Nat}, s < n → (∀ j, j < n → ¬ j = s → (G j ↔ G' j)) → kt_gc G' n = kt_gc G n + 1
  | 0, h, _ => absurd h (Nat.not_lt_zero s)
  | n + 1, h, hc => by
    by_cases e : s = n
    · subst e
      rw [(kt_gc_c G' s).1 hs', (kt_gc_c G s).2 hs, kt_gc_cong (n := s) (fun j hj => hc j (by omega) (by omega))]
    · have h1 := kt_gc_one hs hs' (n := n) (by omega) (fun j hj => hc j (by omega))
      have h2 := hc n (by omega) (fun h3 => e h3.symm)
      by_cases g : G n
      · rw [(kt_gc_c G' n).1 (h2.mp g), (kt_gc_c G n).1 g, h1]
      · rw [(kt_gc_c G' n).2 (fun g2 => g (h2.mpr g2)), (kt_gc_c G n).2 g, h1]
theorem kt_gc_pos {G : Nat → Prop} {j : Nat} (hg : G j) : ∀ {n : Nat}, j < n → 1 ≤ kt_gc G n
  | 0, h => absurd h (Nat.not_lt_zero j)
  | n + 1, h => by
    by_cases e : j = n
    · subst e
      rw [(kt_gc_c G j).1 hg]
      omega
    · have h1 := kt_gc_pos hg (n := n) (by omega)
      by_cases g : G n
      · rw [(kt_gc_c G n).1 g]; omega
      · rw [(kt_gc_c G n).2 g]; exact h1
theorem kt_gc_has {G : Nat → Prop} : ∀ {n : Nat}, 1 ≤ kt_gc G n → ∃ j, j < n ∧ G j
  | 0, h => absurd h (by show ¬ 1 ≤ 0; omega)
  | n + 1, h => by
    by_cases g : G n
    · exact ⟨n, by omega, g⟩
    · rw [(kt_gc_c G n).2 g] at h
      obtain ⟨j, h1, h2⟩ := kt_gc_has h
      exact ⟨j, by omega, h2⟩
theorem kt_gc_lt {G : Nat → Prop} {s : Nat} (hs : ¬ G s) {n : Nat} (h : s < n) : kt_gc G n < n := by
  have h1 := kt_gc_one (G := G) (G' := fun j => G j ∨ j = s) hs (Or.inr rfl) h (fun j _ hj => ⟨fun g => Or.inl g, fun g => g.elim id (fun g2 => absurd g2 hj)⟩)
  have h2 := kt_gc_le (fun j => G j ∨ j = s) n
  omega
/-- a count of one: no two of them -/
theorem kt_gc_only {G : Nat → Prop} {a b n : Nat} (h : kt_gc G n = 1) (ha : a < n) (hb : b < n) (ga : G a) (gb : G b) : a = b := by
  refine Classical.byContradiction (fun hne => ?_)
  have h1 := kt_gc_one (G := fun j => G j ∧ ¬ j = a) (G' := G) (s := a) (fun g => g.2 rfl) ga ha (fun j _ hj => ⟨fun g => g.1, fun g => ⟨g, hj⟩⟩)
  have h2 := kt_gc_pos (G := fun j => G j ∧ ¬ j = a) (j := b) ⟨gb, fun e => hne e.symm⟩ hb
  omega
/-! ===== solved tables ===== -/
def kt_own (s : Nat) : Int := ((s % 2 : Nat) : Int)
theorem kt_own_r (s : Nat) : 0 ≤ kt_own s ∧ kt_own s ≤ 1 := by
  unfold kt_own
  omega
/-- what a solved table says of a stand: c tells a stand that doesn't count, E how the stand is before any move, ed the stands one move on -/
def kt_sol (c : Int) (E : Nat → Int) (ed : Nat → Nat → Prop) (X Y : Nat → Int) (s : Nat) : Prop :=
  (E s = 4 ∧ X s = c ∧ Y s = 0) ∨
  (0 ≤ E s ∧ E s ≤ 1 ∧ X s = E s ∧ Y s = 0) ∨
  (E s = 3 ∧ X s = 2 ∧ Y s = 0 ∧ (∀ u, ed s u → ¬ X u = kt_own s) ∧ ∃ u, ed s u ∧ ¬ X u = 1 - kt_own s) ∨
  (E s = 3 ∧ X s = kt_own s ∧ 1 ≤ Y s ∧ (∃ u, ed s u ∧ X u = kt_own s ∧ Y u + 1 = Y s) ∧ ∀ u, ed s u → X u = kt_own s → Y s ≤ Y u + 1) ∨
  (E s = 3 ∧ X s = 1 - kt_own s ∧ 1 ≤ Y s ∧ (∃ u, ed s u ∧ Y u + 1 = Y s) ∧ ∀ u, ed s u → X u = 1 - kt_own s ∧ Y u + 1 ≤ Y s)
theorem kt_sol_nn {c : Int} {E X Y : Nat → Int} {ed : Nat → Nat → Prop} {s : Nat} (h : kt_sol c E ed X Y s) : 0 ≤ Y s := by
  rcases h with ⟨-, -, d⟩ | ⟨-, -, -, d⟩ | ⟨-, -, d, -, -⟩ | ⟨-, -, d, -, -⟩ | ⟨-, -, d, -, -⟩ <;> omega
theorem kt_sol_half {c c' : Int} {E X Y X' Y' : Nat → Int} {ed : Nat → Nat → Prop} {T : Nat} (hc : c < 0 ∨ 2 < c) (hT : ∀ s, s < T → E s = 3 → ∀ u, ed s u → u < T) (h : ∀ s, s < T → kt_sol c E ed X Y s) (h' : ∀ s, s < T → kt_sol c' E ed X' Y' s) (n : Nat) (ih : ∀ m, m < n → ∀ s, s < T → ∀ t : Int, 0 ≤ t → t ≤ 1 → ((X s = t ∧ Y s = (m : Int)) ↔ (X' s = t ∧ Y' s = (m : Int)))) : ∀ s, s < T → ∀ t : Int, 0 ≤ t → t ≤ 1 → X s = t → Y s = (n : Int) → X' s = t ∧ Y' s = (n : Int) := by
  intro s hs t h0 h1 hx hy
  have ho := kt_own_r s
  rcases h s hs with ⟨a, b, d⟩ | ⟨a1, a2, b, d⟩ | ⟨a, b, d, -, -⟩ | ⟨a, b, d, ⟨u, e1, e2, e3⟩, g⟩ | ⟨a, b, d, ⟨u, e1, e3⟩, g⟩
  · exfalso
    rcases hc with hc | hc <;> omega
  · rcases h' s hs with ⟨a', b', d'⟩ | ⟨a1', a2', b', d'⟩ | ⟨a', b', d', -, -⟩ | ⟨a', b', d', -, -⟩ | ⟨a', b', d', -, -⟩
    · exfalso; omega
    · exact ⟨by omega, by omega⟩
    · exfalso; omega
    · exfalso; omega
    · exfalso; omega
  · exfalso; omega
  · obtain ⟨m, hm⟩ : ∃ m, n = m + 1 := ⟨n - 1, by omega⟩
    have hu := (ih m (by omega) u (hT s hs a u e1) (kt_own s) ho.1 ho.2).mp ⟨e2, by omega⟩
    rcases h' s hs with ⟨a', b', d'⟩ | ⟨a1', a2', b', d'⟩ | ⟨a', b', d', p, -⟩ | ⟨a', b', d', -, g'⟩ | ⟨a', b', d', -, g'⟩
    · exfalso; omega
    · exfalso; omega
    · exact absurd hu.1 (p u e1)
    · have g1 := g' u e1 hu.1
      refine ⟨by omega, ?_⟩
      refine Classical.byContradiction (fun hne => ?_)
      have h5 := (ih (Y' s).toNat (by omega) s hs (kt_own s) ho.1 ho.2).mpr ⟨b', by omega⟩
      omega
    · exfalso
      have g1 := (g' u e1).1
      omega
  · have hv : ∀ v, ed s v → X' v = 1 - kt_own s ∧ Y' v = Y v := by
      intro v hv
      have g1 := g v hv
      have hvT := hT s hs a v hv
      have g2 := kt_sol_nn (h v hvT)
      have g3 := (ih (Y v).toNat (by omega) v hvT (1 - kt_own s) (by omega) (by omega)).mp ⟨g1.1, by omega⟩
      exact ⟨g3.1, by omega⟩
    rcases h' s hs with ⟨a', b', d'⟩ | ⟨a1', a2', b', d'⟩ | ⟨a', b', d', -, ⟨v, f1, f2⟩⟩ | ⟨a', b', d', ⟨v, f1, f2, f3⟩, -⟩ | ⟨a', b', d', ⟨v, f1, f3⟩, g'⟩
    · exfalso; omega
    · exfalso; omega
    · exact absurd (hv v f1).1 f2
    · exfalso
      have f4 := (hv v f1).1
      omega
    · have f4 := (hv v f1).2
      have f5 := (hv u e1).2
      have f6 := (g' u e1).2
      have f7 := (g v f1).2
      exact ⟨by omega, by omega⟩
theorem kt_sol_lev {c c' : Int} {E X Y X' Y' : Nat → Int} {ed : Nat → Nat → Prop} {T : Nat} (hc : c < 0 ∨ 2 < c) (hc' : c' < 0 ∨ 2 < c') (hT : ∀ s, s < T → E s = 3 → ∀ u, ed s u → u < T) (h : ∀ s, s < T → kt_sol c E ed X Y s) (h' : ∀ s, s < T → kt_sol c' E ed X' Y' s) (n : Nat) : ∀ s, s < T → ∀ t : Int, 0 ≤ t → t ≤ 1 → ((X s = t ∧ Y s = (n : Int)) ↔ (X' s = t ∧ Y' s = (n : Int))) := by
  induction n using Nat.strongRecOn with
  | _ n ih =>
    intro s hs t h0 h1
    exact ⟨fun hx => kt_sol_half hc hT h h' n ih s hs t h0 h1 hx.1 hx.2, fun hx => kt_sol_half hc' hT h' h n (fun m hm s hs t h0 h1 => (ih m hm s hs t h0 h1).symm) s hs t h0 h1 hx.1 hx.2⟩
/-- there is one solved table -/
theorem kt_sol_eq {c c' : Int} {E X Y X' Y' : Nat → Int} {ed : Nat → Nat → Prop} {T : Nat} (hc : c < 0 ∨ 2 < c) (hc' : c' < 0 ∨ 2 < c') (hT : ∀ s, s < T → E s = 3 → ∀ u, ed s u → u < T) (h : ∀ s, s < T → kt_sol c E ed X Y s) (h' : ∀ s, s < T → kt_sol c' E ed X' Y' s) (s : Nat) (hs : s < T) : Y s = Y' s ∧ ((E s = 4 ∧ X s = c ∧ X' s = c') ∨ (¬ E s = 4 ∧ X s = X' s ∧ 0 ≤ X s ∧ X s ≤ 2)) := by
  have ho := kt_own_r s
  have hn := kt_sol_nn (h s hs)
  have hn' := kt_sol_nn (h' s hs)
  have hl := fun t h0 h1 => (kt_sol_lev hc hc' hT h h' (Y s).toNat s hs t h0 h1).mp
  have hr := fun t h0 h1 => (kt_sol_lev hc hc' hT h h' (Y' s).toNat s hs t h0 h1).mpr
  rcases h s hs with ⟨a, b, d⟩ | ⟨a1, a2, b, d⟩ | ⟨a, b, d, -, -⟩ | ⟨a, b, d, -, -⟩ | ⟨a, b, d, -, -⟩
  · rcases h' s hs with ⟨a', b', d'⟩ | ⟨a1', a2', b', d'⟩ | ⟨a', b', d', -, -⟩ | ⟨a', b', d', -, -⟩ | ⟨a', b', d', -, -⟩
    · exact ⟨by omega, Or.inl ⟨a, b, b'⟩⟩
    · exfalso; omega
    · exfalso; omega
    · exfalso; omega
    · exfalso; omega
  · have h1 := hl (E s) a1 a2 ⟨b, by omega⟩
    exact ⟨by omega, Or.inr ⟨by omega, by omega, by omega, by omega⟩⟩
  · rcases h' s hs with ⟨a', b', d'⟩ | ⟨a1', a2', b', d'⟩ | ⟨a', b', d', -, -⟩ | ⟨a', b', d', -, -⟩ | ⟨a', b', d', -, -⟩
    · exfalso; omega
    · exfalso; omega
    · exact ⟨by omega, Or.inr ⟨by omega, by omega, by omega, by omega⟩⟩
    · exfalso
      have h1 := hr (kt_own s) ho.1 ho.2 ⟨b', by omega⟩
      omega
    · exfalso
      have h1 := hr (1 - kt_own s) (by omega) (by omega) ⟨b', by omega⟩
      omega
  · have h1 := hl (kt_own s) ho.1 ho.2 ⟨b, by omega⟩
    exact ⟨by omega, Or.inr ⟨by omega, by omega, by omega, by omega⟩⟩
  · have h1 := hl (1 - kt_own s) (by omega) (by omega) ⟨b, by omega⟩
    exact ⟨by omega, Or.inr ⟨by omega, by omega, by omega, by omega⟩⟩
/-! ===== the reference's rounds ===== -/
noncomputable def kt_tr (ed : Nat → Nat → Prop) (w : Nat → Int) (s : Nat) : Int := @ite Int (∃ u, ed s u ∧ w u = kt_own s) (Classical.propDecidable _) (kt_own s) (@ite Int (∀ u, ed s u → w u = 1 - kt_own s) (Classical.propDecidable _) (1 - kt_own s) 3)
theorem kt_tr_c (ed : Nat → Nat → Prop) (w : Nat → Int) (s : Nat) : (kt_tr ed w s = kt_own s ∧ ∃ u, ed s u ∧ w u = kt_own s) ∨ (kt_tr ed w s = 1 - kt_own s ∧ ∀ u, ed s u → w u = 1 - kt_own s) ∨ (kt_tr ed w s = 3 ∧ (¬ ∃ u, ed s u ∧ w u = kt_own s) ∧ ¬ ∀ u, ed s u → w u = 1 - kt_own s) := by
  unfold kt_tr
  by_cases a : ∃ u, ed s u ∧ w u = kt_own s
  · rw [if_pos a]
    exact Or.inl ⟨rfl, a⟩
  · rw [if_neg a]
    by_cases b : ∀ u, ed s u → w u = 1 - kt_own s
    · rw [if_pos b]
      exact Or.inr (Or.inl ⟨rfl, b⟩)
    · rw [if_neg b]
      exact Or.inr (Or.inr ⟨rfl, a, b⟩)
noncomputable def kt_rw (E : Nat → Int) (ed : Nat → Nat → Prop) : Nat → Nat → Int
  | 0 => E
  | d + 1 => fun s => if kt_rw E ed d s = 3 then kt_tr ed (kt_rw E ed d) s else kt_rw E ed d s
noncomputable def kt_rk (E : Nat → Int) (ed : Nat → Nat → Prop) : Nat → Nat → Int
  | 0 => fun _ => 0
  | d + 1 => fun s => if kt_rw E ed d s = 3 ∧ ¬ kt_tr ed (kt_rw E ed d) s = 3 then ((d + 1 : Nat) : Int) else kt_rk E ed d s
theorem kt_rw_s (E : Nat → Int) (ed : Nat → Nat → Prop) (d s : Nat) : (kt_rw E ed d s = 3 → kt_rw E ed (d + 1) s = kt_tr ed (kt_rw E ed d) s) ∧ (¬ kt_rw E ed d s = 3 → kt_rw E ed (d + 1) s = kt_rw E ed d s) := by
  constructor
  · intro h
    show (if kt_rw E ed d s = 3 then kt_tr ed (kt_rw E ed d) s else kt_rw E ed d s) = _
    rw [if_pos h]
  · intro h
    show (if kt_rw E ed d s = 3 then kt_tr ed (kt_rw E ed d) s else kt_rw E ed d s) = _
    rw [if_neg h]
theorem kt_rk_s (E : Nat → Int) (ed : Nat → Nat → Prop) (d s : Nat) : (kt_rw E ed d s = 3 ∧ ¬ kt_tr ed (kt_rw E ed d) s = 3 → kt_rk E ed (d + 1) s = ((d + 1 : Nat) : Int)) ∧ (¬ (kt_rw E ed d s = 3 ∧ ¬ kt_tr ed (kt_rw E ed d) s = 3) → kt_rk E ed (d + 1) s = kt_rk E ed d s) := by
  constructor
  · intro h
    show (if kt_rw E ed d s = 3 ∧ ¬ kt_tr ed (kt_rw E ed d) s = 3 then ((d + 1 : Nat) : Int) else kt_rk E ed d s) = _
    rw [if_pos h]
  · intro h
    show (if kt_rw E ed d s = 3 ∧ ¬ kt_tr ed (kt_rw E ed d) s = 3 then ((d + 1 : Nat) : Int) else kt_rk E ed d s) = _
    rw [if_neg h]
theorem kt_rw_up (E : Nat → Int) (ed : Nat → Nat → Prop) {d s : Nat} (h : ¬ kt_rw E ed d s = 3) : ∀ k, kt_rw E ed (d + k) s = kt_rw E ed d s
  | 0 => rfl
  | k + 1 => by
    have h1 := kt_rw_up E ed h k
    rw [← Nat.add_assoc, (kt_rw_s E ed (d + k) s).2 (by rw [h1]; exact h)]
    exact h1
theorem kt_rw_le (E : Nat → Int) (ed : Nat → Nat → Prop) {d k s : Nat} (h : ¬ kt_rw E ed d s = 3) (hk : d ≤ k) : kt_rw E ed k s = kt_rw E ed d s := by
  have h1 := kt_rw_up E ed h (k - d)
  rw [show d + (k - d) = k by omega] at h1
  exact h1
/-- how a round left a stand -/
theorem kt_rw_inv (E : Nat → Int) (ed : Nat → Nat → Prop) (s : Nat) (hE : E s = 3) : ∀ d, (kt_rw E ed d s = 3 ∧ kt_rk E ed d s = 0 ∧ ∀ k, k < d → kt_tr ed (kt_rw E ed k) s = 3) ∨ (∃ m, m < d ∧ kt_rk E ed d s = ((m + 1 : Nat) : Int) ∧ kt_rw E ed d s = kt_tr ed (kt_rw E ed m) s ∧ ¬ kt_tr ed (kt_rw E ed m) s = 3 ∧ ∀ k, k < m → kt_tr ed (kt_rw E ed k) s = 3)
  | 0 => Or.inl ⟨hE, rfl, fun k hk => absurd hk (Nat.not_lt_zero k)⟩
  | d + 1 => by
    rcases kt_rw_inv E ed s hE d with ⟨a, b, c⟩ | ⟨m, a, b, c, g, f⟩
    · by_cases e : kt_tr ed (kt_rw E ed d) s = 3
      · refine Or.inl ⟨?_, ?_, ?_⟩
        · rw [(kt_rw_s E ed d s).1 a]; exact e
        · rw [(kt_rk_s E ed d s).2 (fun h => h.2 e)]; exact b
        · intro k hk
          by_cases e2 : k = d
          · rw [e2]; exact e
          · exact c k (by omega)
      · exact Or.inr ⟨d, by omega, (kt_rk_s E ed d s).1 ⟨a, e⟩, (kt_rw_s E ed d s).1 a, e, c⟩
    · have h3 : ¬ kt_rw E ed d s = 3 := by rw [c]; exact g
      exact Or.inr ⟨m, by omega, by rw [(kt_rk_s E ed d s).2 (fun h => h3 h.1)]; exact b, by rw [(kt_rw_s E ed d s).2 h3]; exact c, g, f⟩
theorem kt_rw_not (E : Nat → Int) (ed : Nat → Nat → Prop) (s : Nat) (hE : ¬ E s = 3) : ∀ d, kt_rw E ed d s = E s ∧ kt_rk E ed d s = 0
  | 0 => ⟨rfl, rfl⟩
  | d + 1 => by
    obtain ⟨a, b⟩ := kt_rw_not E ed s hE d
    have h3 : ¬ kt_rw E ed d s = 3 := by rw [a]; exact hE
    exact ⟨by rw [(kt_rw_s E ed d s).2 h3]; exact a, by rw [(kt_rk_s E ed d s).2 (fun h => h3 h.1)]; exact b⟩
theorem kt_rk_nn (E : Nat → Int) (ed : Nat → Nat → Prop) (d s : Nat) : 0 ≤ kt_rk E ed d s ∧ kt_rk E ed d s ≤ (d : Int) := by
  by_cases e : E s = 3
  · rcases kt_rw_inv E ed s e d with ⟨-, b, -⟩ | ⟨m, a, b, -, -, -⟩
    · omega
    · omega
  · have h := (kt_rw_not E ed s e d).2
    omega
/-- a stand that is told by round k is told no later -/
theorem kt_rk_le (E : Nat → Int) (ed : Nat → Nat → Prop) {d k s : Nat} (hk : k ≤ d) (h : ¬ kt_rw E ed k s = 3) : kt_rk E ed d s ≤ (k : Int) := by
  by_cases e : E s = 3
  · rcases kt_rw_inv E ed s e d with ⟨a, b, c⟩ | ⟨m, a, b, c, g, f⟩
    · omega
    · by_cases hm : m < k
      · omega
      · exfalso
        rcases kt_rw_inv E ed s e k with ⟨a', b', c'⟩ | ⟨m', a', b', c', g', f'⟩
        · exact h a'
        · exact g' (f m' (by omega))
  · have h2 := (kt_rw_not E ed s e d).2
    omega
/-- its round told what stands at the end -/
theorem kt_rk_at (E : Nat → Int) (ed : Nat → Nat → Prop) {d s : Nat} (h : ¬ kt_rw E ed d s = 3) : kt_rw E ed (kt_rk E ed d s).toNat s = kt_rw E ed d s := by
  by_cases e : E s = 3
  · rcases kt_rw_inv E ed s e d with ⟨a, b, c⟩ | ⟨m, a, b, c, g, f⟩
    · exact absurd a h
    · rw [b, show ((m + 1 : Nat) : Int).toNat = m + 1 by omega]
      have h3 : kt_rw E ed m s = 3 := by
        rcases kt_rw_inv E ed s e m with ⟨a', -, -⟩ | ⟨m', a', b', c', g', f'⟩
        · exact a'
        · exact absurd (f m' a') g'
      rw [(kt_rw_s E ed m s).1 h3]
      exact c.symm
  · have h2 := kt_rw_not E ed s e
    rw [(h2 _).1, (h2 d).1]
noncomputable def kt_rx (E : Nat → Int) (ed : Nat → Nat → Prop) (d s : Nat) : Int := if kt_rw E ed d s = 3 then 2 else kt_rw E ed d s
theorem kt_rx_i (E : Nat → Int) (ed : Nat → Nat → Prop) {d s : Nat} {t : Int} (h1 : 0 ≤ t ∧ t ≤ 1) : kt_rx E ed d s = t ↔ kt_rw E ed d s = t := by
  unfold kt_rx
  by_cases e : kt_rw E ed d s = 3
  · rw [if_pos e, e]
    constructor <;> intro h <;> omega
  · rw [if_neg e]
/-- the rounds' end is a solved table -/
theorem kt_rw_sol {E : Nat → Int} {ed : Nat → Nat → Prop} {d T : Nat} (hEr : ∀ s, s < T → E s = 4 ∨ E s = 3 ∨ (0 ≤ E s ∧ E s ≤ 1)) (hEx : ∀ s, s < T → E s = 3 → ∃ u, ed s u) (hfix : ∀ s, s < T → kt_rw E ed d s = 3 → kt_tr ed (kt_rw E ed d) s = 3) : ∀ s, s < T → kt_sol 4 E ed (kt_rx E ed d) (kt_rk E ed d) s := by
  intro s hs
  have ho := kt_own_r s
  have ho2 : 0 ≤ 1 - kt_own s ∧ 1 - kt_own s ≤ 1 := by omega
  by_cases e : E s = 3
  · rcases kt_rw_inv E ed s e d with ⟨a, b, c⟩ | ⟨m, a, b, c, g, f⟩
    · refine Or.inr (Or.inr (Or.inl ⟨e, if_pos a, b, ?_, ?_⟩))
      · intro u hu hx
        rw [kt_rx_i E ed ho] at hx
        rcases kt_tr_c ed (kt_rw E ed d) s with ⟨h1, -⟩ | ⟨h1, -⟩ | ⟨-, h1, -⟩
        · have h2 := hfix s hs a
          omega
        · have h2 := hfix s hs a
          omega
        · exact h1 ⟨u, hu, hx⟩
      · rcases kt_tr_c ed (kt_rw E ed d) s with ⟨h1, -⟩ | ⟨h1, -⟩ | ⟨-, -, h1⟩
        · have h2 := hfix s hs a
          omega
        · have h2 := hfix s hs a
          omega
        · refine Classical.byContradiction (fun hne => h1 (fun u hu => ?_))
          refine Classical.byContradiction (fun h5 => hne ⟨u, hu, fun h6 => h5 ?_⟩)
          rw [kt_rx_i E ed ho2] at h6
          exact h6
    · have hX : kt_rx E ed d s = kt_tr ed (kt_rw E ed m) s := by
        unfold kt_rx
        rw [if_neg (by rw [c]; exact g), c]
      rcases kt_tr_c ed (kt_rw E ed m) s with ⟨h1, ⟨u, h2, h3⟩⟩ | ⟨h1, h2⟩ | ⟨h1, -, -⟩
      · have hmin : ∀ u, ed s u → kt_rx E ed d u = kt_own s → kt_rk E ed d s ≤ kt_rk E ed d u + 1 := by
          intro u hu hx
          rw [kt_rx_i E ed ho] at hx
          have hn := kt_rk_nn E ed d u
          have h5 := kt_rk_at E ed (d := d) (s := u) (by omega)
          refine Classical.byContradiction (fun hlt => ?_)
          have h6 := f (kt_rk E ed d u).toNat (by omega)
          rcases kt_tr_c ed (kt_rw E ed (kt_rk E ed d u).toNat) s with ⟨h7, -⟩ | ⟨h7, -⟩ | ⟨-, h7, -⟩
          · omega
          · omega
          · exact h7 ⟨u, hu, by rw [h5]; exact hx⟩
        have h4 : ¬ kt_rw E ed m u = 3 := by omega
        have h5 := kt_rw_le E ed h4 (show m ≤ d by omega)
        have h6 := kt_rk_le E ed (show m ≤ d by omega) h4
        have h7 : kt_rx E ed d u = kt_own s := (kt_rx_i E ed ho).mpr (by rw [h5]; exact h3)
        have h8 := hmin u h2 h7
        exact Or.inr (Or.inr (Or.inr (Or.inl ⟨e, by rw [hX]; exact h1, by omega, ⟨u, h2, h7, by omega⟩, hmin⟩)))
      · have hall : ∀ u, ed s u → kt_rx E ed d u = 1 - kt_own s ∧ kt_rk E ed d u + 1 ≤ kt_rk E ed d s := by
          intro u hu
          have h3 := h2 u hu
          have h4 : ¬ kt_rw E ed m u = 3 := by omega
          have h5 := kt_rw_le E ed h4 (show m ≤ d by omega)
          have h6 := kt_rk_le E ed (show m ≤ d by omega) h4
          exact ⟨(kt_rx_i E ed ho2).mpr (by rw [h5]; exact h3), by omega⟩
        refine Or.inr (Or.inr (Or.inr (Or.inr ⟨e, by rw [hX]; exact h1, by omega, ?_, hall⟩)))
        by_cases hm : m = 0
        · obtain ⟨u, hu⟩ := hEx s hs e
          have h5 := (hall u hu).2
          have h6 := kt_rk_nn E ed d u
          exact ⟨u, hu, by omega⟩
        · obtain ⟨k, hk⟩ : ∃ k, m = k + 1 := ⟨m - 1, by omega⟩
          have h3 := f k (by omega)
          rcases kt_tr_c ed (kt_rw E ed k) s with ⟨h4, -⟩ | ⟨h4, -⟩ | ⟨-, -, h4⟩
          · exfalso; omega
          · exfalso; omega
          · refine Classical.byContradiction (fun hne => h4 (fun u hu => ?_))
            have h5 := hall u hu
            have h6 := kt_rk_nn E ed d u
            have h7 : kt_rk E ed d u ≤ (k : Int) := by
              have h8 : ¬ kt_rk E ed d u + 1 = kt_rk E ed d s := fun h9 => hne ⟨u, hu, h9⟩
              omega
            have h9 := (kt_rx_i E ed ho2).mp h5.1
            have h10 := kt_rk_at E ed (d := d) (s := u) (by omega)
            rw [← h9, ← h10]
            exact kt_rw_le E ed (by rw [h10]; omega) (by omega)
      · exact absurd h1 g
  · obtain ⟨a, b⟩ := kt_rw_not E ed s e d
    have hX : kt_rx E ed d s = E s := by
      unfold kt_rx
      rw [if_neg (by rw [a]; exact e), a]
    rcases hEr s hs with h | h | h
    · exact Or.inl ⟨h, by rw [hX]; exact h, b⟩
    · exact absurd h e
    · exact Or.inr (Or.inl ⟨h.1, h.2, hX, b⟩)

/-! ===== the class's queue ===== -/
def kt_up {α : Type} (f : Nat → α) (n : Nat) (x : α) : Nat → α := fun e => if e = n then x else f e
theorem kt_up_s {α : Type} {f : Nat → α} {n : Nat} {x : α} : kt_up f n x n = x := if_pos rfl
theorem kt_up_n {α : Type} {f : Nat → α} {n e : Nat} {x : α} (h : ¬ e = n) : kt_up f n x e = f e := if_neg h
theorem kt_up_i (f : Nat → Int32) (n : Nat) (x : Int32) : (fun j => (upd f n x j).toInt) = kt_up (fun j => (f j).toInt) n x.toInt := by
  funext j
  by_cases e : j = n
  · rw [e, kt_up_s, pk_us]
  · rw [kt_up_n e, pk_un e]
theorem kt_up_t (f : Nat → Int32) (n : Nat) (x : Int32) : (fun j => (upd f n x j).toInt.toNat) = kt_up (fun j => (f j).toInt.toNat) n x.toInt.toNat := by
  funext j
  by_cases e : j = n
  · rw [e, kt_up_s, pk_us]
  · rw [kt_up_n e, pk_un e]
/-- the last link before n with this target -/
def kt_lst (et : Nat → Nat) (t : Nat) : Nat → Int
  | 0 => -1
  | n + 1 => if et n = t then (n : Int) else kt_lst et t n
theorem kt_lst_c (et : Nat → Nat) (t : Nat) : ∀ n, (kt_lst et t n = -1 ∧ ∀ e, e < n → ¬ et e = t) ∨ ∃ m, m < n ∧ kt_lst et t n = (m : Int) ∧ et m = t ∧ ∀ e, m < e → e < n → ¬ et e = t
  | 0 => Or.inl ⟨rfl, fun e h => absurd h (Nat.not_lt_zero e)⟩
  | n + 1 => by
    by_cases g : et n = t
    · exact Or.inr ⟨n, by omega, if_pos g, g, fun e h1 h2 => absurd h1 (by omega)⟩
    · have hs : kt_lst et t (n + 1) = kt_lst et t n := if_neg g
      rw [hs]
      rcases kt_lst_c et t n with ⟨a, b⟩ | ⟨m, a, b, c, d⟩
      · refine Or.inl ⟨a, fun e he => ?_⟩
        by_cases e2 : e = n
        · rw [e2]; exact g
        · exact b e (by omega)
      · refine Or.inr ⟨m, by omega, b, c, fun e h1 h2 => ?_⟩
        by_cases e2 : e = n
        · rw [e2]; exact g
        · exact d e h1 (by omega)
theorem kt_lst_cong {et et' : Nat → Nat} {t : Nat} : ∀ {n : Nat}, (∀ e, e < n → et e = et' e) → kt_lst et t n = kt_lst et' t n
  | 0, _ => rfl
  | n + 1, h => by
    show (if et n = t then (n : Int) else kt_lst et t n) = (if et' n = t then (n : Int) else kt_lst et' t n)
    rw [h n (by omega), kt_lst_cong (n := n) (fun e he => h e (by omega))]
/-- the links as the arrays keep them: et tells the targets of the first U -/
def kt_LI (T U : Nat) (et : Nat → Nat) (he ne : Nat → Int32) : Prop := (∀ t, t < T → (he t).toInt = kt_lst et t U) ∧ (∀ e, e < U → (ne e).toInt = kt_lst et (et e) e) ∧ ∀ e, e < U → et e < T
theorem kt_LI.new {T : Nat} {et : Nat → Nat} {ne : Nat → Int32} : kt_LI T 0 et (fun _ => -1) ne := ⟨fun t _ => kt_cm1, fun e h => absurd h (Nat.not_lt_zero e), fun e h => absurd h (Nat.not_lt_zero e)⟩
theorem kt_LI.add {T U t : Nat} {et : Nat → Nat} {he ne : Nat → Int32} {x : Int32} (h : kt_LI T U et he ne) (ht : t < T) (hx : x.toInt = (U : Int)) : kt_LI T (U + 1) (kt_up et U t) (upd he t x) (upd ne U (he t)) := by
  have hc : ∀ s n, n ≤ U → kt_lst (kt_up et U t) s n = kt_lst et s n := fun s n hn => kt_lst_cong (fun e he => kt_up_n (by omega))
  refine ⟨fun s hs => ?_, fun e he2 => ?_, fun e he2 => ?_⟩
  · show _ = (if kt_up et U t U = s then (U : Int) else kt_lst (kt_up et U t) s U)
    rw [kt_up_s, hc s U (Nat.le_refl U)]
    by_cases e : s = t
    · rw [e, pk_us, if_pos rfl]; exact hx
    · rw [pk_un e, if_neg (fun h2 => e h2.symm)]; exact h.1 s hs
  · by_cases e2 : e = U
    · rw [e2, pk_us, kt_up_s, hc t U (Nat.le_refl U)]; exact h.1 t ht
    · rw [pk_un e2, kt_up_n e2, hc (et e) e (by omega)]; exact h.2.1 e (by omega)
  · by_cases e2 : e = U
    · rw [e2, kt_up_s]; exact ht
    · rw [kt_up_n e2]; exact h.2.2 e (by omega)
def kt_dc (X : Nat → Int) (s : Nat) : Prop := 0 ≤ X s ∧ X s ≤ 1
def kt_lk (U : Nat) (es et : Nat → Nat) (s u : Nat) : Prop := ∃ e, e < U ∧ es e = s ∧ et e = u
/-- a stand that isn't told yet -/
def kt_opn (U : Nat) (E : Nat → Int) (es et : Nat → Nat) (X Y O : Nat → Int) (pr : Nat → Prop) (s : Nat) : Prop :=
  E s = 3 ∧ X s = 2 ∧ Y s = 0 ∧ O s = ((kt_gc (fun e => es e = s ∧ ¬ pr e) U : Nat) : Int) ∧ 1 ≤ O s ∧ ∀ e, e < U → es e = s → pr e → X (et e) = 1 - kt_own s
/-- the queue: N stands told, those before i spread; pr: the links that were followed, all with targets before m -/
def kt_J (T U : Nat) (E : Nat → Int) (es et : Nat → Nat) (X Y O : Nat → Int) (q : Nat → Nat) (N i m : Nat) (pr : Nat → Prop) : Prop :=
  N = kt_gc (kt_dc X) T ∧
  (∀ j, j < N → q j < T ∧ kt_dc X (q j)) ∧
  (∀ s, s < T → kt_dc X s → ∃ j, j < N ∧ q j = s) ∧
  (∀ j k, j < k → k < N → ¬ q j = q k) ∧
  (∀ j k, j ≤ k → k < N → Y (q j) ≤ Y (q k)) ∧
  (∀ k, i < N → k < N → Y (q k) ≤ Y (q i) + 1) ∧
  (∀ e, e < U → pr e → ∃ j, j < m ∧ j < N ∧ q j = et e) ∧
  (∀ e, e < U → ∀ j, j < i → j < N → q j = et e → pr e) ∧
  ∀ s, s < T → (kt_sol (-1) E (kt_lk U es et) X Y s ∧ ¬ X s = 2) ∨ kt_opn U E es et X Y O pr s
theorem kt_J.two {T U N i m : Nat} {E X Y O : Nat → Int} {es et q : Nat → Nat} {pr : Nat → Prop} (h : kt_J T U E es et X Y O q N i m pr) {s : Nat} (hs : s < T) (h2 : X s = 2) : kt_opn U E es et X Y O pr s := by
  rcases h.2.2.2.2.2.2.2.2 s hs with ⟨-, h3⟩ | h3
  · exact absurd h2 h3
  · exact h3
theorem kt_J.room {T U N i m : Nat} {E X Y O : Nat → Int} {es et q : Nat → Nat} {pr : Nat → Prop} (h : kt_J T U E es et X Y O q N i m pr) {s : Nat} (hs : s < T) (h2 : X s = 2) : N < T := by
  rw [h.1]
  exact kt_gc_lt (fun h3 => by
    have h4 := h3.2
    omega) hs
/-- a link to a stand that is told already -/
theorem kt_J.skip {T U N i : Nat} {E X Y O : Nat → Int} {es et q : Nat → Nat} {pr : Nat → Prop} (h : kt_J T U E es et X Y O q N i (i + 1) pr) {e0 : Nat} (hi : i < N) (ht : et e0 = q i) (hx : ¬ X (es e0) = 2) : kt_J T U E es et X Y O q N i (i + 1) (fun e => pr e ∨ e = e0) := by
  obtain ⟨h1, h2, h3, h4, h5, h6, h7, h8, h9⟩ := h
  refine ⟨h1, h2, h3, h4, h5, h6, ?_, ?_, ?_⟩
  · intro e he hp
    rcases hp with hp | hp
    · exact h7 e he hp
    · exact ⟨i, by omega, hi, by rw [hp]; exact ht.symm⟩
  · intro e he j hj hj2 hq
    exact Or.inl (h8 e he j hj hj2 hq)
  · intro s hs
    rcases h9 s hs with h10 | ⟨a, b, c, d, f, g⟩
    · exact Or.inl h10
    · have hne : ∀ e, es e = s → ¬ e = e0 := fun e h10 h11 => hx (by rw [← h11, h10]; exact b)
      refine Or.inr ⟨a, b, c, ?_, f, ?_⟩
      · rw [d, kt_gc_cong (n := U) (G' := fun e => es e = s ∧ ¬ (pr e ∨ e = e0)) (fun e _ => ⟨fun h10 => ⟨h10.1, fun h11 => h11.elim h10.2 (hne e h10.1)⟩, fun h10 => ⟨h10.1, fun h11 => h10.2 (Or.inl h11)⟩⟩)]
      · intro e he h10 hp
        exact g e he h10 (hp.elim id (fun h11 => absurd h11 (hne e h10)))
theorem kt_gc_less {U e0 s : Nat} {es : Nat → Nat} {pr : Nat → Prop} (he0 : e0 < U) (hs : es e0 = s) (hp : ¬ pr e0) : kt_gc (fun e => es e = s ∧ ¬ pr e) U = kt_gc (fun e => es e = s ∧ ¬ (pr e ∨ e = e0)) U + 1 :=
  kt_gc_one (s := e0) (fun h => h.2 (Or.inr rfl)) ⟨hs, hp⟩ he0 (fun e _ hne => ⟨fun h => ⟨h.1, fun h2 => h.2 (Or.inl h2)⟩, fun h => ⟨h.1, fun h2 => h2.elim h.2 hne⟩⟩)
/-- a link to a stand that stays open -/
theorem kt_J.told {T U N i : Nat} {E X Y O : Nat → Int} {es et q : Nat → Nat} {pr : Nat → Prop} (h : kt_J T U E es et X Y O q N i (i + 1) pr) {e0 : Nat} (he0 : e0 < U) (hes : es e0 < T) (hp0 : ¬ pr e0) (hi : i < N) (ht : et e0 = q i) (hx : X (es e0) = 2) (hw : ¬ X (q i) = kt_own (es e0)) (hO : ¬ O (es e0) - 1 = 0) : kt_J T U E es et X Y (kt_up O (es e0) (O (es e0) - 1)) q N i (i + 1) (fun e => pr e ∨ e = e0) := by
  have ho := kt_own_r (es e0)
  have hdq := (h.2.1 i hi).2
  have hop := h.two hes hx
  obtain ⟨h1, h2, h3, h4, h5, h6, h7, h8, h9⟩ := h
  refine ⟨h1, h2, h3, h4, h5, h6, ?_, ?_, ?_⟩
  · intro e he hp
    rcases hp with hp | hp
    · exact h7 e he hp
    · exact ⟨i, by omega, hi, by rw [hp]; exact ht.symm⟩
  · intro e he j hj hj2 hq
    exact Or.inl (h8 e he j hj hj2 hq)
  · intro s hs
    by_cases es0 : s = es e0
    · obtain ⟨a, b, c, d, f, g⟩ := hop
      have hl := kt_gc_less (pr := pr) he0 (rfl : es e0 = es e0) hp0
      rw [es0]
      refine Or.inr ⟨a, b, c, ?_, ?_, ?_⟩
      · rw [kt_up_s]
        try dsimp only
        omega
      · rw [kt_up_s]
        omega
      · intro e he h10 hp
        rcases hp with hp | hp
        · exact g e he h10 hp
        · rw [hp, ht]
          have h11 := hdq.1
          have h12 := hdq.2
          omega
    · rcases h9 s hs with h10 | ⟨a, b, c, d, f, g⟩
      · exact Or.inl h10
      · have hne : ∀ e, es e = s → ¬ e = e0 := fun e h10 h11 => es0 (by rw [← h11, h10])
        refine Or.inr ⟨a, b, c, ?_, ?_, ?_⟩
        · rw [kt_up_n es0, d, kt_gc_cong (n := U) (G' := fun e => es e = s ∧ ¬ (pr e ∨ e = e0)) (fun e _ => ⟨fun h10 => ⟨h10.1, fun h11 => h11.elim h10.2 (hne e h10.1)⟩, fun h10 => ⟨h10.1, fun h11 => h10.2 (Or.inl h11)⟩⟩)]
        · rw [kt_up_n es0]; exact f
        · intro e he h10 hp
          exact g e he h10 (hp.elim id (fun h11 => absurd h11 (hne e h10)))
/-- a link that tells a stand -/
theorem kt_J.put {T U N i : Nat} {E X Y O : Nat → Int} {es et q : Nat → Nat} {pr : Nat → Prop} (h : kt_J T U E es et X Y O q N i (i + 1) pr) (het : ∀ e, e < U → et e < T) {e0 : Nat} (he0 : e0 < U) (hes : es e0 < T) (hp0 : ¬ pr e0) (hi : i < N) (ht : et e0 = q i) (hx : X (es e0) = 2) (hw : X (q i) = kt_own (es e0) ∨ O (es e0) - 1 = 0) : kt_J T U E es et (kt_up X (es e0) (X (q i))) (kt_up Y (es e0) (Y (q i) + 1)) (kt_up O (es e0) (O (es e0) - 1)) (kt_up q N (es e0)) (N + 1) i (i + 1) (fun e => pr e ∨ e = e0) := by
  have ho := kt_own_r (es e0)
  have hdq := (h.2.1 i hi).2
  have hop := h.two hes hx
  obtain ⟨h1, h2, h3, h4, h5, h6, h7, h8, h9⟩ := h
  have hdn : ∀ u, kt_dc X u → ¬ u = es e0 := fun u hu e => by
    have h11 := hu.2
    rw [e] at h11
    omega
  have hXo : ∀ u, kt_dc X u → kt_up X (es e0) (X (q i)) u = X u := fun u hu => kt_up_n (hdn u hu)
  have hYo : ∀ u, kt_dc X u → kt_up Y (es e0) (Y (q i) + 1) u = Y u := fun u hu => kt_up_n (hdn u hu)
  have hqo : ∀ j, j < N → kt_up q N (es e0) j = q j := fun j hj => kt_up_n (by omega)
  have hYq : ∀ j, j < N → kt_up Y (es e0) (Y (q i) + 1) (q j) = Y (q j) := fun j hj => hYo _ (h2 j hj).2
  have hprd : ∀ e, e < U → pr e → kt_dc X (et e) ∧ Y (et e) ≤ Y (q i) := by
    intro e he hp
    obtain ⟨j, a, b, c⟩ := h7 e he hp
    rw [← c]
    exact ⟨(h2 j b).2, h5 j i (by omega) hi⟩
  have hdb : ∀ u, u < T → kt_dc X u → Y u ≤ Y (q i) + 1 := by
    intro u hu hd
    obtain ⟨j, a, b⟩ := h3 u hu hd
    rw [← b]
    exact h6 j hi a
  have hsq : ∀ u, u < T → kt_dc X u → (∃ j, j < i ∧ j < N ∧ q j = u) ∨ Y (q i) ≤ Y u := by
    intro u hu hd
    obtain ⟨j, a, b⟩ := h3 u hu hd
    by_cases c : j < i
    · exact Or.inl ⟨j, c, a, b⟩
    · rw [← b]
      exact Or.inr (h5 i j (by omega) a)
  refine ⟨?_, ?_, ?_, ?_, ?_, ?_, ?_, ?_, ?_⟩
  · rw [h1]
    refine (kt_gc_one (s := es e0) (fun hd => hdn _ hd rfl) ?_ hes ?_).symm
    · show 0 ≤ kt_up X (es e0) (X (q i)) (es e0) ∧ kt_up X (es e0) (X (q i)) (es e0) ≤ 1
      rw [kt_up_s]
      exact hdq
    · intro j _ hj
      show (0 ≤ X j ∧ X j ≤ 1) ↔ (0 ≤ kt_up X (es e0) (X (q i)) j ∧ kt_up X (es e0) (X (q i)) j ≤ 1)
      rw [kt_up_n hj]
  · intro j hj
    by_cases e : j = N
    · rw [e, kt_up_s]
      refine ⟨hes, ?_⟩
      show 0 ≤ kt_up X (es e0) (X (q i)) (es e0) ∧ kt_up X (es e0) (X (q i)) (es e0) ≤ 1
      rw [kt_up_s]
      exact hdq
    · have hj2 : j < N := by omega
      rw [hqo j hj2]
      refine ⟨(h2 j hj2).1, ?_⟩
      show 0 ≤ kt_up X (es e0) (X (q i)) (q j) ∧ kt_up X (es e0) (X (q i)) (q j) ≤ 1
      rw [hXo _ (h2 j hj2).2]
      exact (h2 j hj2).2
  · intro s hs hd
    by_cases e : s = es e0
    · exact ⟨N, by omega, by rw [kt_up_s, e]⟩
    · have hd2 : kt_dc X s := by
        have h10 : kt_up X (es e0) (X (q i)) s = X s := kt_up_n e
        have h11 := hd.1
        have h12 := hd.2
        rw [h10] at h11 h12
        exact ⟨h11, h12⟩
      obtain ⟨j, a, b⟩ := h3 s hs hd2
      exact ⟨j, by omega, by rw [hqo j a]; exact b⟩
  · intro j k hjk hk
    rw [hqo j (by omega)]
    by_cases e : k = N
    · rw [e, kt_up_s]
      exact hdn _ (h2 j (by omega)).2
    · rw [hqo k (by omega)]
      exact h4 j k hjk (by omega)
  · intro j k hjk hk
    by_cases e : k = N
    · by_cases e2 : j = N
      · rw [e, e2]
        exact Int.le_refl _
      · rw [hqo j (by omega), e, kt_up_s, kt_up_s, hYq j (by omega)]
        exact h6 j hi (by omega)
    · rw [hqo j (by omega), hqo k (by omega), hYq j (by omega), hYq k (by omega)]
      exact h5 j k hjk (by omega)
  · intro k hi2 hk
    rw [hqo i hi, hYq i hi]
    by_cases e : k = N
    · rw [e, kt_up_s, kt_up_s]
      exact Int.le_refl _
    · rw [hqo k (by omega), hYq k (by omega)]
      exact h6 k hi (by omega)
  · intro e he hp
    rcases hp with hp | hp
    · obtain ⟨j, a, b, c⟩ := h7 e he hp
      exact ⟨j, a, by omega, by rw [hqo j b]; exact c⟩
    · exact ⟨i, by omega, by omega, by rw [hqo i hi, hp]; exact ht.symm⟩
  · intro e he j hj hj2 hq
    rw [hqo j (by omega)] at hq
    exact Or.inl (h8 e he j hj (by omega) hq)
  · intro s hs
    by_cases es0 : s = es e0
    · obtain ⟨a, b, c, d, f, g⟩ := hop
      have hXs : kt_up X (es e0) (X (q i)) s = X (q i) := by rw [es0, kt_up_s]
      have hYs : kt_up Y (es e0) (Y (q i) + 1) s = Y (q i) + 1 := by rw [es0, kt_up_s]
      have hqn : 0 ≤ Y (q i) := by
        rcases h9 (q i) (h2 i hi).1 with ⟨h10, -⟩ | h10
        · exact kt_sol_nn h10
        · have h11 := hdq.2
          have h12 := h10.2.1
          omega
      have hXq := hXo _ hdq
      have hYq0 := hYo _ hdq
      have hE : E s = 3 := by rw [es0]; exact a
      have hos : kt_own s = kt_own (es e0) := by rw [es0]
      refine Or.inl ⟨?_, ?_⟩
      · by_cases hwo : X (q i) = kt_own (es e0)
        · refine Or.inr (Or.inr (Or.inr (Or.inl ⟨hE, by rw [hXs, hos]; exact hwo, by rw [hYs]; omega, ⟨q i, ⟨e0, he0, es0.symm, ht⟩, by rw [hXq, hos]; exact hwo, by rw [hYq0, hYs]⟩, ?_⟩)))
          rintro u ⟨e, he, hse, hte⟩ hu
          rw [hYs]
          by_cases eu : u = es e0
          · rw [eu, kt_up_s]
            omega
          · rw [kt_up_n eu, hos] at hu
            rw [kt_up_n eu]
            have hud : kt_dc X u := ⟨by omega, by omega⟩
            rcases hsq u (by rw [← hte]; exact het e he) hud with ⟨j, hj, hj2, hj3⟩ | h10
            · have hp := h8 e he j hj hj2 (by rw [hj3, hte])
              have h11 := g e he (by rw [hse]; exact es0) hp
              rw [hte] at h11
              omega
            · omega
        · have hO0 : O (es e0) - 1 = 0 := hw.elim (fun h10 => absurd h10 hwo) id
          have hX1 : X (q i) = 1 - kt_own (es e0) := by
            have h11 := hdq.1
            have h12 := hdq.2
            omega
          have hone : kt_gc (fun e => es e = es e0 ∧ ¬ pr e) U = 1 := by omega
          refine Or.inr (Or.inr (Or.inr (Or.inr ⟨hE, by rw [hXs, hos]; exact hX1, by rw [hYs]; omega, ⟨q i, ⟨e0, he0, es0.symm, ht⟩, by rw [hYq0, hYs]⟩, ?_⟩)))
          rintro u ⟨e, he, hse, hte⟩
          rw [hYs, hos]
          by_cases hpe : pr e
          · have h11 := g e he (by rw [hse]; exact es0) hpe
            have h12 := hprd e he hpe
            rw [hte] at h11 h12
            rw [hXo u h12.1, hYo u h12.1]
            exact ⟨h11, by have h13 := h12.2; omega⟩
          · have h11 := kt_gc_only hone he he0 ⟨by rw [hse]; exact es0, hpe⟩ ⟨rfl, hp0⟩
            have h12 : u = q i := by rw [← hte, h11]; exact ht
            rw [h12, hXq, hYq0]
            exact ⟨hX1, Int.le_refl _⟩
      · rw [hXs]
        have h12 := hdq.2
        omega
    · have hXs : kt_up X (es e0) (X (q i)) s = X s := kt_up_n es0
      have hYs : kt_up Y (es e0) (Y (q i) + 1) s = Y s := kt_up_n es0
      have hOs : kt_up O (es e0) (O (es e0) - 1) s = O s := kt_up_n es0
      have hor := kt_own_r s
      rcases h9 s hs with ⟨h10, h11⟩ | ⟨a, b, c, d, f, g⟩
      · refine Or.inl ⟨?_, by rw [hXs]; exact h11⟩
        rcases h10 with ⟨a, b, c⟩ | ⟨a1, a2, b, c⟩ | ⟨a, b, c, -, -⟩ | ⟨a, b, c, ⟨u, f1, f2, f3⟩, g⟩ | ⟨a, b, c, ⟨u, f1, f3⟩, g⟩
        · exact Or.inl ⟨a, by rw [hXs]; exact b, by rw [hYs]; exact c⟩
        · exact Or.inr (Or.inl ⟨a1, a2, by rw [hXs]; exact b, by rw [hYs]; exact c⟩)
        · exact absurd b h11
        · have hud : kt_dc X u := ⟨by omega, by omega⟩
          refine Or.inr (Or.inr (Or.inr (Or.inl ⟨a, by rw [hXs]; exact b, by rw [hYs]; exact c, ⟨u, f1, by rw [hXo u hud]; exact f2, by rw [hYo u hud, hYs]; exact f3⟩, ?_⟩)))
          intro v hv hxv
          rw [hYs]
          by_cases ev : v = es e0
          · rw [ev, kt_up_s]
            have h12 := hdb s hs ⟨by omega, by omega⟩
            omega
          · rw [kt_up_n ev] at hxv
            rw [kt_up_n ev]
            exact g v hv hxv
        · have hud : ∀ v, kt_lk U es et s v → kt_dc X v := fun v hv => by
            have h12 := (g v hv).1
            exact ⟨by omega, by omega⟩
          refine Or.inr (Or.inr (Or.inr (Or.inr ⟨a, by rw [hXs]; exact b, by rw [hYs]; exact c, ⟨u, f1, by rw [hYo u (hud u f1), hYs]; exact f3⟩, ?_⟩)))
          intro v hv
          rw [hXo v (hud v hv), hYo v (hud v hv), hYs]
          exact g v hv
      · have hne : ∀ e, es e = s → ¬ e = e0 := fun e h10 h11 => es0 (by rw [← h11, h10])
        refine Or.inr ⟨a, by rw [hXs]; exact b, by rw [hYs]; exact c, ?_, by rw [hOs]; exact f, ?_⟩
        · rw [hOs, d, kt_gc_cong (n := U) (G' := fun e => es e = s ∧ ¬ (pr e ∨ e = e0)) (fun e _ => ⟨fun h10 => ⟨h10.1, fun h11 => h11.elim h10.2 (hne e h10.1)⟩, fun h10 => ⟨h10.1, fun h11 => h10.2 (Or.inl h11)⟩⟩)]
        · intro e he h10 hp
          rcases hp with hp | hp
          · rw [hXo _ (hprd e he hp).1]
            exact g e he h10 hp
          · exact absurd hp (hne e h10)
/-- all links to one stand are followed: the next one -/
theorem kt_J.next {T U N i : Nat} {E X Y O : Nat → Int} {es et q : Nat → Nat} {pr : Nat → Prop} (h : kt_J T U E es et X Y O q N i (i + 1) pr) (hi : i < N) (hall : ∀ e, e < U → et e = q i → pr e) : kt_J T U E es et X Y O q N (i + 1) (i + 1) pr := by
  obtain ⟨h1, h2, h3, h4, h5, h6, h7, h8, h9⟩ := h
  refine ⟨h1, h2, h3, h4, h5, ?_, h7, ?_, h9⟩
  · intro k h10 hk
    have h11 := h5 i (i + 1) (by omega) h10
    have h12 := h6 k hi hk
    omega
  · intro e he j hj hj2 hq
    by_cases e2 : j = i
    · rw [e2] at hq
      exact hall e he hq.symm
    · exact h8 e he j (by omega) hj2 hq
/-- at a stand's beginning no link to it is followed -/
theorem kt_J.none {T U N i : Nat} {E X Y O : Nat → Int} {es et q : Nat → Nat} {pr : Nat → Prop} (h : kt_J T U E es et X Y O q N i i pr) (hi : i < N) : kt_J T U E es et X Y O q N i (i + 1) pr ∧ ∀ e, e < U → et e = q i → ¬ pr e := by
  obtain ⟨h1, h2, h3, h4, h5, h6, h7, h8, h9⟩ := h
  refine ⟨⟨h1, h2, h3, h4, h5, h6, ?_, h8, h9⟩, ?_⟩
  · intro e he hp
    obtain ⟨j, a, b, c⟩ := h7 e he hp
    exact ⟨j, by omega, b, c⟩
  · intro e he hq hp
    obtain ⟨j, a, b, c⟩ := h7 e he hp
    exact h4 j i a hi (by rw [c, hq])
/-- the queue's end is a solved table -/
theorem kt_J.fin {T U N i m : Nat} {E X Y O : Nat → Int} {es et q : Nat → Nat} {pr : Nat → Prop} (h : kt_J T U E es et X Y O q N i m pr) (het : ∀ e, e < U → et e < T) (hi : N ≤ i) : ∀ s, s < T → kt_sol (-1) E (kt_lk U es et) X Y s := by
  obtain ⟨h1, h2, h3, h4, h5, h6, h7, h8, h9⟩ := h
  intro s hs
  have ho := kt_own_r s
  rcases h9 s hs with ⟨h10, -⟩ | ⟨a, b, c, d, f, g⟩
  · exact h10
  · have hdp : ∀ e, e < U → es e = s → kt_dc X (et e) → X (et e) = 1 - kt_own s := by
      intro e he hse hd
      obtain ⟨j, hj, hq⟩ := h3 (et e) (het e he) hd
      exact g e he hse (h8 e he j (by omega) hj hq)
    refine Or.inr (Or.inr (Or.inl ⟨a, b, c, ?_, ?_⟩))
    · rintro u ⟨e, he, hse, hte⟩ hx
      have h11 := hdp e he hse (by rw [hte]; exact ⟨by omega, by omega⟩)
      rw [hte] at h11
      omega
    · have h11 : 1 ≤ kt_gc (fun e => es e = s ∧ ¬ pr e) U := by omega
      obtain ⟨e, he, hse, hpe⟩ := kt_gc_has h11
      refine ⟨et e, ⟨e, he, hse, rfl⟩, fun hx => hpe ?_⟩
      obtain ⟨j, hj, hq⟩ := h3 (et e) (het e he) ⟨by omega, by omega⟩
      exact h8 e he j (by omega) hj hq
/-- before the queue runs -/
def kt_J0 (T U : Nat) (E : Nat → Int) (es : Nat → Nat) (X Y O : Nat → Int) (q : Nat → Nat) (N : Nat) : Prop :=
  N = kt_gc (kt_dc X) T ∧
  (∀ j, j < N → q j < T ∧ kt_dc X (q j) ∧ Y (q j) = 0) ∧
  (∀ s, s < T → kt_dc X s → ∃ j, j < N ∧ q j = s) ∧
  (∀ j k, j < k → k < N → ¬ q j = q k) ∧
  ∀ s, s < T → (E s = 4 ∧ X s = -1 ∧ Y s = 0) ∨ (0 ≤ E s ∧ E s ≤ 1 ∧ X s = E s ∧ Y s = 0) ∨ (E s = 3 ∧ X s = 2 ∧ Y s = 0 ∧ O s = ((kt_gc (fun e => es e = s) U : Nat) : Int) ∧ 1 ≤ O s)
theorem kt_J0.run {T U N : Nat} {E X Y O : Nat → Int} {es et q : Nat → Nat} (h : kt_J0 T U E es X Y O q N) : kt_J T U E es et X Y O q N 0 0 (fun _ => False) := by
  obtain ⟨h1, h2, h3, h4, h5⟩ := h
  refine ⟨h1, fun j hj => ⟨(h2 j hj).1, (h2 j hj).2.1⟩, h3, h4, ?_, ?_, fun e _ hp => absurd hp id, fun e _ j hj => absurd hj (Nat.not_lt_zero j), ?_⟩
  · intro j k hjk hk
    have h6 := (h2 j (by omega)).2.2
    have h7 := (h2 k hk).2.2
    omega
  · intro k h0 hk
    have h6 := (h2 0 h0).2.2
    have h7 := (h2 k hk).2.2
    omega
  · intro s hs
    rcases h5 s hs with ⟨a, b, c⟩ | ⟨a1, a2, b, c⟩ | ⟨a, b, c, d, f⟩
    · exact Or.inl ⟨Or.inl ⟨a, b, c⟩, by omega⟩
    · exact Or.inl ⟨Or.inr (Or.inl ⟨a1, a2, b, c⟩), by omega⟩
    · exact Or.inr ⟨a, b, c, by rw [d, kt_gc_cong (n := U) (G' := fun e => es e = s ∧ ¬ False) (fun e _ => ⟨fun h6 => ⟨h6, id⟩, fun h6 => h6.1⟩)], f, fun e _ _ hp => absurd hp id⟩
/-! ===== the queue over the class's rows ===== -/
theorem kt_J.cast {T U N N' i m : Nat} {E X X' Y Y' O O' : Nat → Int} {es et q q' : Nat → Nat} {pr : Nat → Prop} (h : kt_J T U E es et X Y O q N i m pr) (hX : X' = X) (hY : Y' = Y) (hO : O' = O) (hq : q' = q) (hN : N' = N) : kt_J T U E es et X' Y' O' q' N' i m pr := by
  subst hX
  subst hY
  subst hO
  subst hq
  subst hN
  exact h
def kt_JJ (T U : Nat) (E : Nat → Int) (et : Nat → Nat) (sr wo de op qu : Nat → Int32) (N i m : Nat) (pr : Nat → Prop) : Prop := kt_J T U E (fun e => (sr e).toInt.toNat) et (fun s => (wo s).toInt) (fun s => (de s).toInt) (fun s => (op s).toInt) (fun j => (qu j).toInt.toNat) N i m pr
def kt_YK (de qu : Nat → Int32) (N : Nat) : Prop := ∀ k : Nat, k < N → 0 ≤ (de (qu k).toInt.toNat).toInt ∧ (de (qu k).toInt.toNat).toInt ≤ (k : Int)
def kt_JH (T U : Nat) (E : Nat → Int) (et : Nat → Nat) (sr wo de op qu : Nat → Int32) (N i : Nat) : Prop := (∃ pr, kt_JJ T U E et sr wo de op qu N i i pr) ∧ kt_YK de qu N
def kt_JC (T U : Nat) (E : Nat → Int) (et : Nat → Nat) (sr wo de op qu : Nat → Int32) (N i t : Nat) (x : Int) : Prop := (∃ pr, kt_JJ T U E et sr wo de op qu N i (i + 1) pr ∧ ∀ e, e < U → et e = t → (pr e ↔ x < (e : Int))) ∧ kt_YK de qu N
theorem kt_lst_r (et : Nat → Nat) (t n : Nat) : -1 ≤ kt_lst et t n ∧ kt_lst et t n < (n : Int) ∧ (kt_lst et t n = -1 ∨ (0 ≤ kt_lst et t n ∧ et (kt_lst et t n).toNat = t)) := by
  rcases kt_lst_c et t n with ⟨a, b⟩ | ⟨m, a, b, c, d⟩
  · rw [a]
    exact ⟨by omega, by omega, Or.inl rfl⟩
  · rw [b]
    exact ⟨by omega, by omega, Or.inr ⟨by omega, by rw [show ((m : Nat) : Int).toNat = m by omega]; exact c⟩⟩
theorem kt_JH.start {T U N i t : Nat} {E : Nat → Int} {et : Nat → Nat} {sr wo de op qu : Nat → Int32} (h : kt_JH T U E et sr wo de op qu N i) (hi : i < N) (ht : (qu i).toInt.toNat = t) : t < T ∧ kt_JC T U E et sr wo de op qu N i t (kt_lst et t U) := by
  obtain ⟨⟨pr, hj⟩, hy⟩ := h
  have hT := (hj.2.1 i hi).1
  obtain ⟨hj2, hn⟩ := kt_J.none hj hi
  refine ⟨by rw [← ht]; exact hT, ⟨pr, hj2, fun e he hte => ⟨fun hp => absurd hp (hn e he (hte.trans ht.symm)), fun hx => ?_⟩⟩, hy⟩
  rcases kt_lst_c et t U with ⟨a, b⟩ | ⟨m, a, b, c, d⟩
  · exact absurd hte (b e he)
  · exact absurd hte (d e (by omega) he)
theorem kt_JC.stop {T U N i t : Nat} {x : Int} {E : Nat → Int} {et : Nat → Nat} {sr wo de op qu : Nat → Int32} (h : kt_JC T U E et sr wo de op qu N i t x) (hi : i < N) (ht : (qu i).toInt.toNat = t) (hx : x = -1) : kt_JH T U E et sr wo de op qu N (i + 1) := by
  obtain ⟨⟨pr, hj, hc⟩, hy⟩ := h
  exact ⟨⟨pr, kt_J.next hj hi (fun e he hq => (hc e he (hq.trans ht)).mpr (by omega))⟩, hy⟩
theorem kt_JC.ops {T U N i t : Nat} {x : Int} {E : Nat → Int} {et : Nat → Nat} {sr wo de op qu : Nat → Int32} (h : kt_JC T U E et sr wo de op qu N i t x) {s : Nat} (hs : s < T) (h2 : (wo s).toInt = 2) : 1 ≤ (op s).toInt ∧ (op s).toInt ≤ (U : Int) ∧ N < T := by
  obtain ⟨⟨pr, hj, -⟩, -⟩ := h
  have ho := kt_J.two hj hs h2
  have h3 : (op s).toInt = ((kt_gc (fun e => (sr e).toInt.toNat = s ∧ ¬ pr e) U : Nat) : Int) := ho.2.2.2.1
  have h4 : 1 ≤ (op s).toInt := ho.2.2.2.2.1
  have h5 := kt_gc_le (fun e => (sr e).toInt.toNat = s ∧ ¬ pr e) U
  exact ⟨h4, by omega, kt_J.room hj hs h2⟩
theorem kt_JC.yk {T U N i t : Nat} {x : Int} {E : Nat → Int} {et : Nat → Nat} {sr wo de op qu : Nat → Int32} (h : kt_JC T U E et sr wo de op qu N i t x) (hi : i < N) (ht : (qu i).toInt.toNat = t) : 0 ≤ (de t).toInt ∧ (de t).toInt ≤ (i : Int) := by
  have h1 := h.2 i hi
  rw [ht] at h1
  exact h1
/-- what one word to a stand does -/
def kt_INF (s : Nat) (sv p2 p3 : Int32) (wo de op qu wo2 de2 op2 qu2 : Nat → Int32) (qd qd2 : Int32) : Prop :=
  (¬ (wo s).toInt = 2 ∧ qd2 = qd ∧ wo2 = wo ∧ de2 = de ∧ qu2 = qu ∧ op2 = op) ∨
  ((wo s).toInt = 2 ∧ ¬ p2.toInt = kt_own s ∧ ¬ (op s).toInt - 1 = 0 ∧ qd2 = qd ∧ wo2 = wo ∧ de2 = de ∧ qu2 = qu ∧ ∃ y : Int32, y.toInt = (op s).toInt - 1 ∧ op2 = upd op s y) ∨
  ((wo s).toInt = 2 ∧ (p2.toInt = kt_own s ∨ (op s).toInt - 1 = 0) ∧ qd2.toInt = qd.toInt + 1 ∧ wo2 = upd wo s p2 ∧ de2 = upd de s p3 ∧ qu2 = upd qu qd.toInt.toNat sv ∧ ∃ y : Int32, y.toInt = (op s).toInt - 1 ∧ op2 = upd op s y)
theorem kt_chain {U m t : Nat} {x : Int} {et : Nat → Nat} {pr : Nat → Prop} (hc : ∀ e, e < U → et e = t → (pr e ↔ x < (e : Int))) (hx : x = (m : Int)) : ∀ e, e < U → et e = t → ((pr e ∨ e = m) ↔ kt_lst et t m < (e : Int)) := by
  intro e he hte
  have h1 := hc e he hte
  have hr := kt_lst_r et t m
  constructor
  · rintro (h2 | h2)
    · have h3 := h1.mp h2
      omega
    · omega
  · intro h2
    by_cases e1 : e = m
    · exact Or.inr e1
    · refine Or.inl (h1.mpr ?_)
      refine Classical.byContradiction (fun h3 => ?_)
      rcases kt_lst_c et t m with ⟨a, b⟩ | ⟨k, a, b, c, d⟩
      · exact b e (by omega) hte
      · exact d e (by omega) (by omega) hte
theorem kt_JC.step {T U i t m : Nat} {x : Int} {E : Nat → Int} {et : Nat → Nat} {sr wo de op qu wo2 de2 op2 qu2 : Nat → Int32} {qd qd2 sv p2 p3 : Int32} (h : kt_JC T U E et sr wo de op qu qd.toInt.toNat i t x) (het : ∀ e, e < U → et e < T) (hq0 : 0 ≤ qd.toInt) (hi : i < qd.toInt.toNat) (ht : (qu i).toInt.toNat = t) (hx : x = (m : Int)) (hm : m < U) (hmt : et m = t) (hsv : sv = sr m) (hs : sv.toInt.toNat < T) (hp2 : p2 = wo t) (hp3 : p3.toInt = (de t).toInt + 1) (hI : kt_INF sv.toInt.toNat sv p2 p3 wo de op qu wo2 de2 op2 qu2 qd qd2) : kt_JC T U E et sr wo2 de2 op2 qu2 qd2.toInt.toNat i t (kt_lst et t m) ∧ i < qd2.toInt.toNat ∧ (qu2 i).toInt.toNat = t ∧ 0 ≤ qd2.toInt := by
  obtain ⟨⟨pr, hj, hc⟩, hy⟩ := h
  have hch := kt_chain hc hx
  have hnp : ¬ pr m := fun hp => by
    have h1 := (hc m hm hmt).mp hp
    omega
  have hsm : (sr m).toInt.toNat = sv.toInt.toNat := by rw [hsv]
  have htq : et m = (qu i).toInt.toNat := by rw [hmt, ht]
  rcases hI with ⟨a, b1, b2, b3, b4, b5⟩ | ⟨a, a2, a3, b1, b2, b3, b4, y, c1, c2⟩ | ⟨a, a2, b1, b2, b3, b4, y, c1, c2⟩
  · rw [b1, b2, b3, b4, b5]
    exact ⟨⟨⟨_, kt_J.skip hj hi htq (by show ¬ (wo (sr m).toInt.toNat).toInt = 2; rw [hsm]; exact a), hch⟩, hy⟩, hi, ht, hq0⟩
  · rw [b1, b2, b3, b4]
    refine ⟨⟨⟨_, ?_, hch⟩, hy⟩, hi, ht, hq0⟩
    have h1 := kt_J.told hj hm (by show (sr m).toInt.toNat < T; rw [hsm]; exact hs) hnp hi htq (by show (wo (sr m).toInt.toNat).toInt = 2; rw [hsm]; exact a) (by show ¬ (wo (qu i).toInt.toNat).toInt = kt_own (sr m).toInt.toNat; rw [hsm, ht, ← hp2]; exact a2) (by show ¬ (op (sr m).toInt.toNat).toInt - 1 = 0; rw [hsm]; exact a3)
    exact kt_J.cast h1 rfl rfl (by
      rw [c2]
      show _ = kt_up (fun s => (op s).toInt) (sr m).toInt.toNat ((op (sr m).toInt.toNat).toInt - 1)
      rw [hsm, ← c1]
      exact kt_up_i op sv.toInt.toNat y) rfl rfl
  · have hqi : ¬ i = qd.toInt.toNat := by omega
    have hN : qd2.toInt.toNat = qd.toInt.toNat + 1 := by omega
    have hqo : ∀ k, k < qd.toInt.toNat → qu2 k = qu k := fun k hk => by rw [b4, pk_un (by omega)]
    have hsu : ∀ k, k < qd.toInt.toNat → ¬ (qu k).toInt.toNat = sv.toInt.toNat := fun k hk e => by
      have h1 : (wo (qu k).toInt.toNat).toInt ≤ 1 := (hj.2.1 k hk).2.2
      rw [e] at h1
      omega
    have h1 := kt_J.put hj het hm (by show (sr m).toInt.toNat < T; rw [hsm]; exact hs) hnp hi htq (by show (wo (sr m).toInt.toNat).toInt = 2; rw [hsm]; exact a) (by show (wo (qu i).toInt.toNat).toInt = kt_own (sr m).toInt.toNat ∨ (op (sr m).toInt.toNat).toInt - 1 = 0; rw [hsm, ht, ← hp2]; exact a2)
    refine ⟨⟨⟨_, ?_, hch⟩, ?_⟩, by omega, by rw [hqo i hi]; exact ht, by omega⟩
    · exact kt_J.cast h1 (by
        rw [b2]
        show _ = kt_up (fun s => (wo s).toInt) (sr m).toInt.toNat (wo (qu i).toInt.toNat).toInt
        rw [hsm, ht, ← hp2]
        exact kt_up_i wo sv.toInt.toNat p2) (by
        rw [b3]
        show _ = kt_up (fun s => (de s).toInt) (sr m).toInt.toNat ((de (qu i).toInt.toNat).toInt + 1)
        rw [hsm, ht, ← hp3]
        exact kt_up_i de sv.toInt.toNat p3) (by
        rw [c2]
        show _ = kt_up (fun s => (op s).toInt) (sr m).toInt.toNat ((op (sr m).toInt.toNat).toInt - 1)
        rw [hsm, ← c1]
        exact kt_up_i op sv.toInt.toNat y) (by
        rw [b4]
        show _ = kt_up (fun j => (qu j).toInt.toNat) qd.toInt.toNat (sr m).toInt.toNat
        rw [hsm]
        exact kt_up_t qu qd.toInt.toNat sv) hN
    · intro k hk
      by_cases e : k = qd.toInt.toNat
      · have h2 := hy i hi
        rw [ht] at h2
        rw [e, b4, pk_us, b3, pk_us]
        omega
      · have hk2 : k < qd.toInt.toNat := by omega
        rw [hqo k hk2, b3, pk_un (hsu k hk2)]
        exact hy k hk2
theorem kt_JH.fin {T U N i : Nat} {E : Nat → Int} {et : Nat → Nat} {sr wo de op qu : Nat → Int32} (h : kt_JH T U E et sr wo de op qu N i) (het : ∀ e, e < U → et e < T) (hi : N ≤ i) : ∀ s, s < T → kt_sol (-1) E (kt_lk U (fun e => (sr e).toInt.toNat) et) (fun s => (wo s).toInt) (fun s => (de s).toInt) s := by
  obtain ⟨⟨pr, hj⟩, -⟩ := h
  exact kt_J.fin hj het hi
