/-! ===== what a move takes, as the class finds it ===== -/
theorem kt_who_inv {A : Nat → Int32} {f j : Nat} (hj : j < 1000000) : ∀ {n : Nat}, n ≤ 1000000 → kt_who A n f = nI j → j < n ∧ A j = nI f
  | 0, _, h => absurd h.symm (kt_nIm1 (by omega))
  | n + 1, hn, h => by
    have h0 : (if A n = nI f then nI n else kt_who A n f) = nI j := h
    by_cases e : A n = nI f
    · rw [if_pos e] at h0
      have := kt_nIinj (by omega) (by omega) h0
      subst this
      exact ⟨by omega, e⟩
    · rw [if_neg e] at h0
      obtain ⟨h1, h2⟩ := kt_who_inv hj (by omega) h0
      exact ⟨by omega, h2⟩
/-- the pieces of a set, in their order -/
def kt_VL (fv : Nat → Int32) (c : Nat) (V : Nat → Prop) : Prop := c ≤ 4 ∧ (∀ i, i < c → ∃ j : Nat, j < 40 ∧ fv i = nI j ∧ V j) ∧ (∀ j, j < 40 → V j → ∃ i, i < c ∧ fv i = nI j) ∧ ∀ i k, i < k → k < c → (fv i).toInt < (fv k).toInt
theorem kt_VL.nil (fv : Nat → Int32) {V : Nat → Prop} (h : ∀ j, j < 40 → ¬ V j) : kt_VL fv 0 V := ⟨by omega, fun i hi => absurd hi (Nat.not_lt_zero i), fun j hj hv => absurd hv (h j hj), fun i k _ hk => absurd hk (Nat.not_lt_zero k)⟩
theorem kt_VL.iff {fv : Nat → Int32} {c : Nat} {V W : Nat → Prop} (h : kt_VL fv c V) (hi : ∀ j, j < 40 → (V j ↔ W j)) : kt_VL fv c W := by
  obtain ⟨h1, h2, h3, h4⟩ := h
  refine ⟨h1, fun i hi2 => ?_, fun j hj hw => h3 j hj ((hi j hj).mpr hw), h4⟩
  obtain ⟨j, a, b, d⟩ := h2 i hi2
  exact ⟨j, a, b, (hi j a).mp d⟩
/-- how a row looks into which q was put at its place i -/
def kt_ins (fv fv2 : Nat → Int32) (c : Nat) (q : Int32) : Prop := ∃ i : Nat, i ≤ c ∧ (∀ k, k < i → fv2 k = fv k) ∧ fv2 i = q ∧ (∀ k, i < k → k ≤ c → fv2 k = fv (k - 1)) ∧ (∀ k, i ≤ k → k < c → q.toInt < (fv k).toInt) ∧ (0 < i → (fv (i - 1)).toInt ≤ q.toInt)
theorem kt_VL.add {fv fv2 : Nat → Int32} {c j : Nat} {V : Nat → Prop} (h : kt_VL fv c V) (hc : c < 4) (hj : j < 40) (hn : ¬ V j) (hi : kt_ins fv fv2 c (nI j)) : kt_VL fv2 (c + 1) (fun x => V x ∨ x = j) := by
  obtain ⟨h1, h2, h3, h4⟩ := h
  obtain ⟨i, a1, a2, a3, a4, a5, a6⟩ := hi
  have hj0 := kt_nI (n := j) (by omega)
  have hlow : ∀ k, k < i → (fv k).toInt < (nI j).toInt := by
    intro k hk
    have h6 := a6 (by omega)
    have hne : ¬ fv (i - 1) = nI j := by
      intro e
      obtain ⟨x, b1, b2, b3⟩ := h2 (i - 1) (by omega)
      rw [e] at b2
      have := kt_nIinj (by omega) (by omega) b2
      subst this
      exact hn b3
    have hne2 : ¬ (fv (i - 1)).toInt = (nI j).toInt := fun e => hne ((kt_eq _ _).mpr e)
    by_cases e : k = i - 1
    · rw [e]; omega
    · have := h4 k (i - 1) (by omega) (by omega)
      omega
  refine ⟨by omega, fun k hk => ?_, fun x hx hv => ?_, fun x y hxy hy => ?_⟩
  · by_cases e1 : k < i
    · obtain ⟨y, b1, b2, b3⟩ := h2 k (by omega)
      exact ⟨y, b1, by rw [a2 k e1]; exact b2, Or.inl b3⟩
    · by_cases e2 : k = i
      · exact ⟨j, hj, by rw [e2]; exact a3, Or.inr rfl⟩
      · obtain ⟨y, b1, b2, b3⟩ := h2 (k - 1) (by omega)
        exact ⟨y, b1, by rw [a4 k (by omega) (by omega)]; exact b2, Or.inl b3⟩
  · rcases hv with hv | hv
    · obtain ⟨k, b1, b2⟩ := h3 x hx hv
      by_cases e1 : k < i
      · exact ⟨k, by omega, by rw [a2 k e1]; exact b2⟩
      · exact ⟨k + 1, by omega, by rw [a4 (k + 1) (by omega) (by omega), Nat.add_sub_cancel]; exact b2⟩
    · exact ⟨i, by omega, by rw [hv]; exact a3⟩
  · by_cases e1 : y < i
    · rw [a2 x (by omega), a2 y e1]; exact h4 x y hxy (by omega)
    · by_cases e2 : y = i
      · rw [a2 x (by omega), e2, a3]; exact hlow x (by omega)
      · rw [a4 y (by omega) (by omega)]
        by_cases e3 : x < i
        · rw [a2 x e3]
          have := hlow x e3
          have := a5 (y - 1) (by omega) (by omega)
          omega
        · by_cases e4 : x = i
          · rw [e4, a3]; exact a5 (y - 1) (by omega) (by omega)
          · rw [a4 x (by omega) (by omega)]; exact h4 (x - 1) (y - 1) (by omega) (by omega)
/-- the row tells how many are gone below each number -/
theorem kt_VL.cnt {fv A B : Nat → Int32} {c P : Nat} (h : kt_VL fv c (fun j => j < P ∧ kt_gone A B j)) : ∀ n, n ≤ P → n ≤ 40 → ∃ m, m ≤ c ∧ kt_tn A B n = m ∧ (∀ i, i < m → (fv i).toInt < (n : Int)) ∧ ∀ i, m ≤ i → i < c → (n : Int) ≤ (fv i).toInt
  | 0, _, _ => ⟨0, Nat.zero_le c, rfl, fun i hi => absurd hi (Nat.not_lt_zero i), fun i _ hi => by
    obtain ⟨j, b1, b2, -⟩ := h.2.1 i hi
    rw [b2, kt_nI (by omega)]
    omega⟩
  | n + 1, hn, h40 => by
    obtain ⟨m, c1, c2, c3, c4⟩ := kt_VL.cnt h n (by omega) (by omega)
    obtain ⟨h1, h2, h3, h4⟩ := h
    have hn0 := kt_nI (n := n) (by omega)
    by_cases e : kt_gone A B n
    · obtain ⟨i, i1, i2⟩ := h3 n (by omega) ⟨by omega, e⟩
      have hfi : (fv i).toInt = (n : Int) := by rw [i2]; exact hn0
      have him : i = m := by
        rcases Nat.lt_trichotomy i m with x | x | x
        · have := c3 i x; omega
        · exact x
        · have := h4 m i x i1
          have := c4 m (Nat.le_refl m) (by omega)
          omega
      refine ⟨m + 1, by omega, ?_, fun k hk => ?_, fun k hk hk2 => ?_⟩
      · show kt_tn A B n + (if ¬ A n = -1 ∧ B n = -1 then 1 else 0) = m + 1
        rw [if_pos (show ¬ A n = -1 ∧ B n = -1 from e), c2]
      · by_cases e2 : k = m
        · rw [e2, ← him]; omega
        · have := c3 k (by omega); omega
      · have := h4 m k (by omega) hk2
        rw [← him, hfi] at this
        omega
    · refine ⟨m, c1, ?_, fun k hk => by have := c3 k hk; omega, fun k hk hk2 => ?_⟩
      · show kt_tn A B n + (if ¬ A n = -1 ∧ B n = -1 then 1 else 0) = m
        rw [if_neg (show ¬ (¬ A n = -1 ∧ B n = -1) from e), c2]; rfl
      · have h5 := c4 k hk hk2
        obtain ⟨j, b1, b2, b3⟩ := h2 k hk2
        have hj0 := kt_nI (n := j) (by omega)
        have hne : j ≠ n := fun e2 => e (by rw [← e2]; exact b3.2)
        rw [b2] at h5 ⊢
        omega
theorem kt_VL.tn {fv A B : Nat → Int32} {c P : Nat} (h : kt_VL fv c (fun j => j < P ∧ kt_gone A B j)) (hP : P ≤ 40) : kt_tn A B P = c := by
  obtain ⟨m, c1, c2, c3, c4⟩ := h.cnt P (Nat.le_refl P) hP
  rcases Nat.lt_or_ge m c with x | x
  · obtain ⟨j, b1, b2, b3⟩ := h.2.1 m x
    have := c4 m (Nat.le_refl m) x
    rw [b2, kt_nI (by omega)] at this
    have := b3.1
    omega
  · omega
/-- what a move takes is what is gone behind it -/
theorem kt_mk_gone {P : Nat} {w L : Int} {fr fk A : Nat → Int32} {mkt mhd : Int32} {p : Nat} {a n : Int} (hP : P ≤ 40) (hw : 2 ≤ w ∧ w ≤ 9) (hL : 2 ≤ L ∧ L ≤ 9) (ht : 0 ≤ kt_al (A p).toInt w L a n ∧ kt_al (A p).toInt w L a n < L * w) {j : Nat} (hj : j < P) : kt_gone A (kt_mk P w L fr fk mkt mhd A p a n) j ↔ (kt_tks mkt (fk p) ∧ ∃ b : Nat, b < 4 ∧ kt_vic (kt_who (upd A p (nI (kt_al (A p).toInt w L a n).toNat)) P) fr fk mkt mhd w L p (kt_al (A p).toInt w L a n) b j) := by
  have hB := kt_mulb hL hw
  unfold kt_gone kt_mk
  rw [if_pos hj]
  constructor
  · intro ⟨h1, h2⟩
    by_cases e : kt_tks mkt (fk p) ∧ ∃ b : Nat, b < 4 ∧ kt_vic (kt_who (upd A p (nI (kt_al (A p).toInt w L a n).toNat)) P) fr fk mkt mhd w L p (kt_al (A p).toInt w L a n) b j
    · exact e
    · rw [if_neg e] at h2
      by_cases e2 : j = p
      · rw [e2, pk_us] at h2
        exact absurd h2 (kt_nIm1 (by omega))
      · rw [pk_un e2] at h2
        exact absurd h2 h1
  · intro h
    refine ⟨?_, by rw [if_pos h]⟩
    obtain ⟨b, hb, h1, h2, h3, h4⟩ := h.2
    obtain ⟨-, h5⟩ := kt_who_inv (by omega) (by omega) h2
    have hne : j ≠ p := fun e => h3 (by rw [e])
    rw [pk_un hne] at h5
    rw [h5]
    rcases kt_al_r (a := (b : Int)) (n := 1) hw hL ht (by omega) with h6 | h6
    · exact absurd h6.1 h1
    · exact kt_nIm1 (by omega)
theorem kt_mk_j {P : Nat} {w L : Int} {fr fk A : Nat → Int32} {mkt mhd : Int32} {p : Nat} {a n : Int} {j : Nat} (hj : j < P) : (kt_gone A (kt_mk P w L fr fk mkt mhd A p a n) j → kt_mk P w L fr fk mkt mhd A p a n j = -1) ∧ (kt_mk P w L fr fk mkt mhd A p a n j = -1 ∨ kt_mk P w L fr fk mkt mhd A p a n j = upd A p (nI (kt_al (A p).toInt w L a n).toNat) j) := by
  refine ⟨fun h => h.2, ?_⟩
  unfold kt_mk
  rw [if_pos hj]
  split
  · exact Or.inl rfl
  · exact Or.inr rfl
/-- the one that goes isn't taken -/
theorem kt_mk_p {P : Nat} {w L : Int} {fr fk A : Nat → Int32} {mkt mhd : Int32} {p : Nat} {a n : Int} (hp : p < P) : kt_mk P w L fr fk mkt mhd A p a n p = nI (kt_al (A p).toInt w L a n).toNat := by
  unfold kt_mk
  rw [if_pos hp, if_neg, pk_us]
  intro h
  obtain ⟨b, hb, h1, h2, h3, h4⟩ := h.2
  exact h3 rfl
theorem kt_pl_on {h : Nat → Int32} {o p f : Int32} (ho : 0 ≤ o.toInt ∧ o.toInt < 81) (hf : 0 ≤ f.toInt ∧ f.toInt < 81) : kt_plc h o p f = upd (upd h o.toInt.toNat (-1)) f.toInt.toNat p := by
  unfold kt_plc kt_off
  rw [if_pos hf, if_pos ho]
  rfl
theorem kt_pl_off {h : Nat → Int32} {o p f : Int32} (ho : 0 ≤ o.toInt ∧ o.toInt < 81) (hf : f.toInt < 0) : kt_plc h o p f = upd h o.toInt.toNat (-1) := by
  unfold kt_plc kt_off
  rw [if_neg (by omega), if_pos ho]
  rfl
theorem kt_pl_in {h : Nat → Int32} {o p f : Int32} (ho : o.toInt < 0) (hf : 0 ≤ f.toInt ∧ f.toInt < 81) : kt_plc h o p f = upd h f.toInt.toNat p := by
  unfold kt_plc kt_off
  rw [if_pos hf, if_neg (by omega)]
  rfl
theorem kt_upd_same (f : Nat → Int32) (i : Nat) : upd f i (f i) = f := by
  funext j
  by_cases e : j = i
  · rw [e, pk_us]
  · rw [pk_un e]
/-- a piece goes to an empty field -/
theorem kt_ST.move {w L : Int} {P p : Nat} {ff fh : Nat → Int32} {T : Int32} (h : kt_ST w L P ff fh) (hS : L * w ≤ 81) (hP : P ≤ 40) (hp : p < P) (hx : 0 ≤ (ff p).toInt) (hT : 0 ≤ T.toInt ∧ T.toInt < L * w) (hfree : ∀ q, q < P → ¬ ff q = nI T.toInt.toNat) : kt_ST w L P (upd ff p T) (kt_plc fh (ff p) (nI p) T) := by
  obtain ⟨h1, h2, h3, h4⟩ := h
  have hr := h1 p hp
  have eT := kt_nIof (x := T) hT.1
  have ef := kt_nIof (x := ff p) hx
  rw [kt_pl_on (by omega) (by omega)]
  have g2 := h2.move (t := T.toInt.toNat) hp ef (by omega)
  have g3 := h3.move (t := T.toInt.toNat) hP hp ef (by omega) (by omega) hfree
  rw [← eT] at g2 g3
  refine ⟨h1.upd (by omega) (by omega), g2, g3, fun q hq hq2 => ?_⟩
  rw [pk_un (by omega)]
  exact h4 q hq hq2
/-- and back -/
theorem kt_ST.undo {w L : Int} {P p : Nat} {ff fh : Nat → Int32} {T : Int32} (h : kt_ST w L P ff fh) (hS : L * w ≤ 81) (hP : P ≤ 40) (hp : p < P) (hx : 0 ≤ (ff p).toInt) (hT : 0 ≤ T.toInt ∧ T.toInt < L * w) (hfree : ∀ q, q < P → ¬ ff q = nI T.toInt.toNat) : kt_plc (kt_plc fh (ff p) (nI p) T) T (nI p) (ff p) = fh := by
  obtain ⟨h1, h2, h3, h4⟩ := h
  have hr := h1 p hp
  have ef := kt_nIof (x := ff p) hx
  rw [kt_pl_on (o := ff p) (f := T) (by omega) (by omega), kt_pl_on (o := T) (f := ff p) (by omega) (by omega), fa_upd_twice_]
  have e1 : fh (ff p).toInt.toNat = nI p := h3 p hp _ (by omega) ef
  have e2 : fh T.toInt.toNat = -1 := by
    by_cases e : fh T.toInt.toNat = -1
    · exact e
    · obtain ⟨q, b1, b2, b3⟩ := h2 T.toInt.toNat (by omega) e
      exact absurd b3 (hfree q b1)
  funext j
  by_cases c1 : j = (ff p).toInt.toNat
  · rw [c1, pk_us, e1]
  · rw [pk_un c1]
    by_cases c2 : j = T.toInt.toNat
    · rw [c2, pk_us, e2]
    · rw [pk_un c2, pk_un c1]
