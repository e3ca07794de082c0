/-! ===== the run of a play, as the class keeps it ===== -/
/-- a piece leaves the board -/
theorem kt_ST.take {w L : Int} {P v : Nat} {ff fh : Nat → Int32} (h : kt_ST w L P ff fh) (hS : L * w ≤ 81) (hP : P ≤ 40) (hv : v < P) (hx : 0 ≤ (ff v).toInt) (q : Int32) : kt_ST w L P (upd ff v (-1)) (kt_plc fh (ff v) q (-1)) := by
  obtain ⟨h1, h2, h3, h4⟩ := h
  have hr := h1 v hv
  have ef := kt_nIof (x := ff v) hx
  rw [kt_pl_off (by omega) (by decide)]
  refine ⟨h1.upd (by decide) (by rw [kt_cm1]; omega), h2.drop ef (by omega), h3.drop hP hv ef (by omega) (by decide), fun k hk hk2 => ?_⟩
  rw [pk_un (by omega)]
  exact h4 k hk hk2
/-- a piece comes to the board -/
theorem kt_ST.put {w L : Int} {P v : Nat} {ff fh : Nat → Int32} {T : Int32} (h : kt_ST w L P ff fh) (hS : L * w ≤ 81) (hP : P ≤ 40) (hv : v < P) (hx : ff v = -1) (hT : 0 ≤ T.toInt ∧ T.toInt < L * w) (hfree : ∀ q, q < P → ¬ ff q = nI T.toInt.toNat) : kt_ST w L P (upd ff v T) (kt_plc fh (ff v) (nI v) T) := by
  obtain ⟨h1, h2, h3, h4⟩ := h
  have eT := kt_nIof (x := T) hT.1
  rw [hx, kt_pl_in (by decide) (by omega)]
  refine ⟨h1.upd (by omega) (by omega), fun f hf hne => ?_, fun q hq f hf hg => ?_, fun k hk hk2 => ?_⟩
  · by_cases e : f = T.toInt.toNat
    · exact ⟨v, hv, by rw [e, pk_us], by rw [pk_us, e]; exact eT⟩
    · rw [pk_un e] at hne ⊢
      obtain ⟨q, b1, b2, b3⟩ := h2 f hf hne
      have hqv : q ≠ v := fun e2 => by rw [e2, hx] at b3; exact kt_nIm1 (by omega) b3.symm
      exact ⟨q, b1, b2, by rw [pk_un hqv]; exact b3⟩
  · by_cases e : q = v
    · rw [e, pk_us, eT] at hg
      have := kt_nIinj (by omega) (by omega) hg
      rw [← this, pk_us, e]
    · rw [pk_un e] at hg
      have hne : f ≠ T.toInt.toNat := fun e2 => hfree q hq (by rw [hg, e2])
      rw [pk_un hne]
      exact h3 q hq f hf hg
  · rw [pk_un (by omega)]
    exact h4 k hk hk2
def kt_sdk (s0 : Int) (k : Nat) : Int := if k % 2 = 0 then s0 else 1 - s0
theorem kt_sdk_s (s0 : Int) (k : Nat) : kt_sdk s0 (k + 1) = 1 - kt_sdk s0 k := by
  unfold kt_sdk
  by_cases e : k % 2 = 0
  · rw [if_pos e, if_neg (by omega)]
  · rw [if_neg e, if_pos (by omega)]; omega
theorem kt_sdk_eq {s0 : Int} (h : 0 ≤ s0 ∧ s0 ≤ 1) {i k : Nat} : kt_sdk s0 i = kt_sdk s0 k ↔ i % 2 = k % 2 := by
  unfold kt_sdk
  by_cases e1 : i % 2 = 0
  · by_cases e2 : k % 2 = 0
    · rw [if_pos e1, if_pos e2, e1, e2]; exact ⟨fun _ => rfl, fun _ => rfl⟩
    · rw [if_pos e1, if_neg e2]; exact ⟨fun h1 => by omega, fun h1 => by omega⟩
  · by_cases e2 : k % 2 = 0
    · rw [if_neg e1, if_pos e2]; exact ⟨fun h1 => by omega, fun h1 => by omega⟩
    · rw [if_neg e1, if_neg e2]; exact ⟨fun _ => by omega, fun _ => rfl⟩
/-- what a move leaves of a stand -/
theorem kt_stepf_c {P : Nat} {w L : Int} {fr fk A : Nat → Int32} {mkt mhd m : Int32} (hP : P ≤ 40) (hw : 2 ≤ w ∧ w ≤ 9) (hL : 2 ≤ L ∧ L ≤ 9) (hA : kt_r A P (-1) (L * w - 1)) (hl : kt_lgl P w L A m) :
    (kt_stepf P w L fr fk mkt mhd A m (m.toInt / 32).toNat = nI (kt_al (A (m.toInt / 32).toNat).toInt w L (m.toInt / 8 % 4) (m.toInt % 8 + 1)).toNat) ∧ (0 ≤ kt_al (A (m.toInt / 32).toNat).toInt w L (m.toInt / 8 % 4) (m.toInt % 8 + 1) ∧ kt_al (A (m.toInt / 32).toNat).toInt w L (m.toInt / 8 % 4) (m.toInt % 8 + 1) < L * w) ∧ (∀ j, j < P → j ≠ (m.toInt / 32).toNat → kt_stepf P w L fr fk mkt mhd A m j = A j ∨ kt_stepf P w L fr fk mkt mhd A m j = -1) ∧ (∀ j, P ≤ j → kt_stepf P w L fr fk mkt mhd A m j = -1) := by
  obtain ⟨l1, l2, l3, l4⟩ := hl
  have hp : (m.toInt / 32).toNat < P := by omega
  have hx := hA _ hp
  have ht : 0 ≤ kt_al (A (m.toInt / 32).toNat).toInt w L (m.toInt / 8 % 4) (m.toInt % 8 + 1) ∧ kt_al (A (m.toInt / 32).toNat).toInt w L (m.toInt / 8 % 4) (m.toInt % 8 + 1) < L * w := by
    rcases kt_al_r (a := m.toInt / 8 % 4) (n := m.toInt % 8 + 1) hw hL (show 0 ≤ (A (m.toInt / 32).toNat).toInt ∧ (A (m.toInt / 32).toNat).toInt < L * w by omega) (by omega) with h | h
    · exact absurd l3 h.2
    · omega
  refine ⟨kt_mk_p hp, ht, fun j hj hne => ?_, fun j hj => ?_⟩
  · rcases (kt_mk_j (w := w) (L := L) (fr := fr) (fk := fk) (A := A) (mkt := mkt) (mhd := mhd) (p := (m.toInt / 32).toNat) (a := m.toInt / 8 % 4) (n := m.toInt % 8 + 1) hj).2 with h | h
    · exact Or.inr h
    · rw [pk_un hne] at h; exact Or.inl h
  · unfold kt_stepf kt_mk
    rw [if_neg (by omega)]
theorem kt_stepf_r {P : Nat} {w L : Int} {fr fk A : Nat → Int32} {mkt mhd m : Int32} (hP : P ≤ 40) (hw : 2 ≤ w ∧ w ≤ 9) (hL : 2 ≤ L ∧ L ≤ 9) (hA : kt_r A P (-1) (L * w - 1)) (hl : kt_lgl P w L A m) : kt_r (kt_stepf P w L fr fk mkt mhd A m) P (-1) (L * w - 1) := by
  obtain ⟨c1, c2, c3, c4⟩ := kt_stepf_c (fr := fr) (fk := fk) (mkt := mkt) (mhd := mhd) hP hw hL hA hl
  have hB := kt_mulb hL hw
  intro j hj
  by_cases e : j = (m.toInt / 32).toNat
  · rw [e, c1, kt_nI (by omega)]; omega
  · rcases c3 j hj e with h | h
    · rw [h]; exact hA j hj
    · rw [h, kt_cm1]; omega
/-- the stands of a play -/
theorem kt_S_r {P : Nat} {w L : Int} {fr fk A0 mv : Nat → Int32} {mkt mhd : Int32} {N : Nat} (hP : P ≤ 40) (hw : 2 ≤ w ∧ w ≤ 9) (hL : 2 ≤ L ∧ L ≤ 9) (h0 : kt_r A0 P (-1) (L * w - 1)) (hl : ∀ k, k < N → kt_lgl P w L (kt_S (kt_stepf P w L fr fk mkt mhd) A0 mv k) (mv k)) : ∀ k, k ≤ N → kt_r (kt_S (kt_stepf P w L fr fk mkt mhd) A0 mv k) P (-1) (L * w - 1)
  | 0, _ => h0
  | k + 1, h => kt_stepf_r hP hw hL (kt_S_r hP hw hL h0 hl k (by omega)) (hl k (by omega))
/-- what is taken stays taken -/
theorem kt_S_gone {P : Nat} {w L : Int} {fr fk A0 mv : Nat → Int32} {mkt mhd : Int32} {N : Nat} (hP : P ≤ 40) (hw : 2 ≤ w ∧ w ≤ 9) (hL : 2 ≤ L ∧ L ≤ 9) (h0 : kt_r A0 P (-1) (L * w - 1)) (hl : ∀ k, k < N → kt_lgl P w L (kt_S (kt_stepf P w L fr fk mkt mhd) A0 mv k) (mv k)) {i j : Nat} (hj : j < P) (hi : kt_S (kt_stepf P w L fr fk mkt mhd) A0 mv i j = -1) : ∀ k, i + k ≤ N → kt_S (kt_stepf P w L fr fk mkt mhd) A0 mv (i + k) j = -1
  | 0, _ => hi
  | k + 1, h => by
    have ih := kt_S_gone hP hw hL h0 hl hj hi k (by omega)
    have hr := kt_S_r hP hw hL h0 hl (i + k) (by omega)
    have hk := hl (i + k) (by omega)
    obtain ⟨c1, c2, c3, c4⟩ := kt_stepf_c (fr := fr) (fk := fk) (mkt := mkt) (mhd := mhd) hP hw hL hr hk
    have hne : j ≠ ((mv (i + k)).toInt / 32).toNat := by
      intro e
      have h1 := hk.2.1
      rw [← e, ih] at h1
      exact absurd h1 (by decide)
    show kt_stepf P w L fr fk mkt mhd (kt_S (kt_stepf P w L fr fk mkt mhd) A0 mv (i + k)) (mv (i + k)) j = -1
    rcases c3 j hj hne with h1 | h1
    · rw [h1]; exact ih
    · exact h1
theorem kt_S_out {P : Nat} {w L : Int} {fr fk A0 mv : Nat → Int32} {mkt mhd : Int32} (h0 : ∀ j, P ≤ j → A0 j = -1) : ∀ k j, P ≤ j → kt_S (kt_stepf P w L fr fk mkt mhd) A0 mv k j = -1
  | 0, j, hj => h0 j hj
  | k + 1, j, hj => by
    show kt_mk P w L fr fk mkt mhd _ _ _ _ j = -1
    unfold kt_mk
    rw [if_neg (by omega)]
/-- one move as the class has it written down -/
def kt_LK (P : Nat) (A B : Nat → Int32) (m x0 x1 x2 x3 : Int32) (v4 v5 : Nat → Int32) : Prop := x0 = nI (m.toInt / 32).toNat ∧ x1 = A (m.toInt / 32).toNat ∧ x2 = B (m.toInt / 32).toNat ∧ (0 ≤ x3.toInt ∧ x3.toInt ≤ 4) ∧ kt_VL v4 x3.toInt.toNat (fun j => j < P ∧ kt_gone A B j) ∧ ∀ i : Nat, (i : Int) < x3.toInt → v5 i = A (v4 i).toInt.toNat
/-- a play of the class -/
def kt_CI (w L : Int) (P : Nat) (fr fk : Nat → Int32) (lt lh : Int32) (A0 mv : Nat → Int32) (s0 : Int) (dn kn tu : Int32) (ff fh m0 m1 m2 m3 m4 m5 : Nat → Int32) : Prop :=
  ((0 ≤ dn.toInt ∧ dn.toInt ≤ kn.toInt ∧ kn.toInt ≤ 512) ∧ (0 ≤ s0 ∧ s0 ≤ 1) ∧ tu.toInt = kt_sdk s0 dn.toInt.toNat) ∧ kt_ST w L P ff fh ∧ kt_cut P ff = kt_S (kt_stepf P w L fr fk lt lh) A0 mv dn.toInt.toNat ∧ (kt_r A0 P (-1) (L * w - 1) ∧ kt_inj A0 P ∧ ∀ j, P ≤ j → A0 j = -1) ∧ ∀ k : Nat, (k : Int) < kn.toInt → kt_lgl P w L (kt_S (kt_stepf P w L fr fk lt lh) A0 mv k) (mv k) ∧ kt_LK P (kt_S (kt_stepf P w L fr fk lt lh) A0 mv k) (kt_S (kt_stepf P w L fr fk lt lh) A0 mv (k + 1)) (mv k) (m0 k) (m1 k) (m2 k) (m3 k) (fun i => m4 (4 * k + i)) (fun i => m5 (4 * k + i))
/-- victims come back, one by one -/
def kt_UW (P : Nat) (A B v4 : Nat → Int32) (i : Nat) (ff : Nat → Int32) : Prop := (∀ j, j < P → ff j = A j ∨ (ff j = -1 ∧ kt_gone A B j ∧ ∀ k, k < i → ¬ v4 k = nI j)) 
theorem kt_UW.done {P c : Nat} {A B v4 ff : Nat → Int32} (hP : P ≤ 40) (h : kt_UW P A B v4 c ff) (hv : kt_VL v4 c (fun j => j < P ∧ kt_gone A B j)) : ∀ j, j < P → ff j = A j := by
  intro j hj
  rcases h j hj with h1 | ⟨h1, h2, h3⟩
  · exact h1
  · obtain ⟨i, b1, b2⟩ := hv.2.2.1 j (by omega) ⟨hj, h2⟩
    exact absurd b2 (h3 i b1)
theorem kt_UW.step {P i j : Nat} {A B v4 ff : Nat → Int32} (h : kt_UW P A B v4 i ff) (hj : j < P) (hi : v4 i = nI j) (hP : P ≤ 40) : kt_UW P A B v4 (i + 1) (upd ff j (A j)) := by
  intro k hk
  by_cases e : k = j
  · rw [e, pk_us]; exact Or.inl rfl
  · rw [pk_un e]
    rcases h k hk with h1 | ⟨h1, h2, h3⟩
    · exact Or.inl h1
    · refine Or.inr ⟨h1, h2, fun n hn => ?_⟩
      by_cases e2 : n = i
      · rw [e2, hi]
        exact fun e3 => e (kt_nIinj (by omega) (by omega) e3).symm
      · exact h3 n (by omega)
/-- how many places differ -/
def kt_df (T D : Nat → Int32) : Nat → Nat
  | 0 => 0
  | n + 1 => kt_df T D n + (if T n = D n then 0 else 1)
theorem kt_df_0 {T D : Nat → Int32} : ∀ {n : Nat}, kt_df T D n = 0 ↔ ∀ j, j < n → T j = D j
  | 0 => ⟨fun _ j hj => absurd hj (Nat.not_lt_zero j), fun _ => rfl⟩
  | n + 1 => by
    show kt_df T D n + (if T n = D n then 0 else 1) = 0 ↔ _
    have ih := kt_df_0 (T := T) (D := D) (n := n)
    constructor
    · intro h j hj
      by_cases e : T n = D n
      · by_cases e2 : j = n
        · rw [e2]; exact e
        · exact ih.mp (by omega) j (by omega)
      · rw [if_neg e] at h; omega
    · intro h
      rw [if_pos (h n (by omega)), ih.mpr (fun j hj => h j (by omega))]
theorem kt_df_le (T D : Nat → Int32) : ∀ n, kt_df T D n ≤ n
  | 0 => Nat.le_refl 0
  | n + 1 => by
    have := kt_df_le T D n
    unfold kt_df
    split <;> omega
theorem kt_df_out {T D : Nat → Int32} {q : Nat} {x : Int32} : ∀ {n : Nat}, n ≤ q → kt_df (upd T q x) D n = kt_df T D n
  | 0, _ => rfl
  | n + 1, h => by
    show kt_df (upd T q x) D n + (if upd T q x n = D n then 0 else 1) = kt_df T D n + (if T n = D n then 0 else 1)
    rw [kt_df_out (by omega), pk_un (by omega)]
theorem kt_df_upd {T D : Nat → Int32} {q : Nat} {x : Int32} : ∀ {n : Nat}, q < n → (kt_df (upd T q x) D n : Int) = (kt_df T D n : Int) + (if T q = D q then 1 else 0) - (if x = D q then 1 else 0)
  | 0, h => absurd h (Nat.not_lt_zero q)
  | n + 1, h => by
    show ((kt_df (upd T q x) D n + (if upd T q x n = D n then 0 else 1) : Nat) : Int) = ((kt_df T D n + (if T n = D n then 0 else 1) : Nat) : Int) + _ - _
    by_cases e : n = q
    · rw [e, kt_df_out (Nat.le_refl q), pk_us]
      by_cases c1 : T q = D q
      · by_cases c2 : x = D q
        · rw [if_pos c1, if_pos c2, if_pos c1, if_pos c2]; omega
        · rw [if_pos c1, if_neg c2, if_pos c1, if_neg c2]; omega
      · by_cases c2 : x = D q
        · rw [if_neg c1, if_pos c2, if_neg c1, if_pos c2]; omega
        · rw [if_neg c1, if_neg c2, if_neg c1, if_neg c2]; omega
    · have ih := kt_df_upd (T := T) (D := D) (q := q) (x := x) (n := n) (by omega)
      rw [pk_un e]
      omega
theorem kt_df_one {T : Nat → Int32} {q : Nat} {x : Int32} (hne : ¬ T q = x) {n : Nat} (hq : q < n) : kt_df T (upd T q x) n = 1 := by
  have h0 : kt_df T T n = 0 := kt_df_0.mpr (fun _ _ => rfl)
  have h1 := kt_df_upd (T := T) (D := upd T q x) (q := q) (x := x) (n := n) hq
  have h2 : kt_df (upd T q x) (upd T q x) n = 0 := kt_df_0.mpr (fun _ _ => rfl)
  rw [pk_us, if_neg hne, if_pos rfl, h2] at h1
  omega
theorem kt_and1m {x : Int32} (h : 0 ≤ x.toInt) : (x &&& 1).toInt = x.toInt % 2 := by
  have e := kt_nIof h
  have hr := kt_rng x
  have h1 : nI x.toInt.toNat &&& 1 = nI (x.toInt.toNat % 2 ^ 1) := pk_andN (by omega) (m := 1) 1 (by decide)
  rw [← e] at h1
  rw [h1, kt_nI (by omega)]
  omega
theorem kt_cpy_at {f g : Nat → Int32} {j : Nat} (hj : j < 40) : va_cpy f g (0 : Int32).toNatClampNeg (0 : Int32).toNatClampNeg (40 : Int32).toNatClampNeg j = f j := by
  show va_cpy f g 0 0 40 j = f j
  rw [pk_cpy_in (Nat.zero_le j) (by omega)]
  show f (0 + (j - 0)) = f j
  rw [show 0 + (j - 0) = j by omega]
theorem kt_df_cong {T T' D : Nat → Int32} : ∀ {n : Nat}, (∀ j, j < n → T j = T' j) → kt_df T D n = kt_df T' D n
  | 0, _ => rfl
  | n + 1, h => by
    show kt_df T D n + (if T n = D n then 0 else 1) = kt_df T' D n + (if T' n = D n then 0 else 1)
    rw [kt_df_cong (fun j hj => h j (by omega)), h n (by omega)]
theorem kt_seen_iff {P p : Nat} {Si Sd g ff : Nat → Int32} {x : Int32} (hP : P ≤ 40) (hp : p < P) (h1 : ∀ q, q < P → g q = Si q) (h2 : ∀ q, P ≤ q → q < 40 → g q = -1) (h3 : ∀ q, q < P → ff q = Sd q) (h4 : ∀ q, P ≤ q → q < 40 → ff q = -1) (o1 : ∀ q, P ≤ q → Si q = -1) (o2 : ∀ q, P ≤ q → Sd q = -1) : kt_df g (upd ff p x) 40 = 0 ↔ Si = upd Sd p x := by
  rw [kt_df_0]
  constructor
  · intro h
    funext j
    by_cases e : j < P
    · rw [← h1 j e, h j (by omega)]
      by_cases e2 : j = p
      · rw [e2, pk_us, pk_us]
      · rw [pk_un e2, pk_un e2]; exact h3 j e
    · rw [o1 j (by omega), pk_un (by omega), o2 j (by omega)]
  · intro h j hj
    by_cases e : j < P
    · rw [h1 j e, h]
      by_cases e2 : j = p
      · rw [e2, pk_us, pk_us]
      · rw [pk_un e2, pk_un e2]; exact (h3 j e).symm
    · rw [h2 j (by omega) hj, pk_un (by omega), h4 j (by omega) hj]
/-- the stand before a move that took nothing -/
theorem kt_quiet {P : Nat} {w L : Int} {fr fk A v4 v5 : Nat → Int32} {mkt mhd m x0 x1 x2 x3 : Int32} (hP : P ≤ 40) (hw : 2 ≤ w ∧ w ≤ 9) (hL : 2 ≤ L ∧ L ≤ 9) (hA : kt_r A P (-1) (L * w - 1)) (hl : kt_lgl P w L A m) (hk : kt_LK P A (kt_stepf P w L fr fk mkt mhd A m) m x0 x1 x2 x3 v4 v5) (h0 : x3.toInt = 0) : ∀ j, j < P → j ≠ (m.toInt / 32).toNat → kt_stepf P w L fr fk mkt mhd A m j = A j := by
  intro j hj hne
  obtain ⟨c1, c2, c3, c4⟩ := kt_stepf_c (fr := fr) (fk := fk) (mkt := mkt) (mhd := mhd) hP hw hL hA hl
  rcases c3 j hj hne with h | h
  · exact h
  · by_cases e : A j = -1
    · rw [h, e]
    · obtain ⟨i, b1, -⟩ := hk.2.2.2.2.1.2.2.1 j (by omega) ⟨hj, e, h⟩
      omega
/-- a stand before a taking is none of those behind it -/
theorem kt_loud {P : Nat} {w L : Int} {fr fk A0 mv v4 v5 : Nat → Int32} {mkt mhd x0 x1 x2 x3 : Int32} {N i d p : Nat} {x : Int32} (hP : P ≤ 40) (hw : 2 ≤ w ∧ w ≤ 9) (hL : 2 ≤ L ∧ L ≤ 9) (h0 : kt_r A0 P (-1) (L * w - 1)) (hl : ∀ k, k < N → kt_lgl P w L (kt_S (kt_stepf P w L fr fk mkt mhd) A0 mv k) (mv k)) (hid : i < d) (hdN : d ≤ N) (hk : kt_LK P (kt_S (kt_stepf P w L fr fk mkt mhd) A0 mv i) (kt_S (kt_stepf P w L fr fk mkt mhd) A0 mv (i + 1)) (mv i) x0 x1 x2 x3 v4 v5) (h3 : ¬ x3.toInt = 0) (hp : ¬ kt_S (kt_stepf P w L fr fk mkt mhd) A0 mv d p = -1) : ∀ k, k ≤ i → ¬ kt_S (kt_stepf P w L fr fk mkt mhd) A0 mv k = upd (kt_S (kt_stepf P w L fr fk mkt mhd) A0 mv d) p x := by
  intro k hki he
  obtain ⟨k1, k2, k3, k4, k5, k6⟩ := hk
  obtain ⟨j, b1, b2, b3, b4⟩ := k5.2.1 0 (by omega)
  have hd := kt_S_gone hP hw hL h0 hl b3 b4.2 (d - (i + 1)) (by omega)
  rw [show i + 1 + (d - (i + 1)) = d by omega] at hd
  have hjp : j ≠ p := fun e => hp (by rw [← e]; exact hd)
  have h5 : kt_S (kt_stepf P w L fr fk mkt mhd) A0 mv k j = -1 := by rw [he, pk_un hjp]; exact hd
  have h6 := kt_S_gone hP hw hL h0 hl b3 h5 (i - k) (by omega)
  rw [show k + (i - k) = i by omega] at h6
  exact b4.1 h6
