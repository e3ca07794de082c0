/-! ===== why a piece can't go; how the play is behind a move ===== -/
def kt_WYR (how p a n : Int) (P : Nat) (A fk fo fr : Nat → Int32) (re w L s : Int) (BK : Prop) (r : Int) : Prop :=
  if ¬ how = 1 then r = 1 else if ¬ (0 ≤ p ∧ p < (P : Int)) then r = 2 else if A p.toNat = -1 then r = 3 else if ¬ kt_side (fk p.toNat) = s then r = 4 else if ¬ ((0 ≤ a ∧ a ≤ 3) ∧ 1 ≤ n) then r = 5 else if ¬ kt_bar fo fr (fk p.toNat) re (A p.toNat).toInt w L a n = 0 then r = kt_bar fo fr (fk p.toNat) re (A p.toNat).toInt w L a n else ((BK ∧ r = 10) ∨ (¬ BK ∧ r = 0))
theorem kt_WYR.c1 {how p a n : Int} {P : Nat} {A fk fo fr : Nat → Int32} {re w L s : Int} {BK : Prop} {r : Int} (h1 : ¬ how = 1) (hr : r = 1) : kt_WYR how p a n P A fk fo fr re w L s BK r := by
  unfold kt_WYR; rw [if_pos h1]; exact hr
theorem kt_WYR.c2 {how p a n : Int} {P : Nat} {A fk fo fr : Nat → Int32} {re w L s : Int} {BK : Prop} {r : Int} (h1 : how = 1) (h2 : ¬ (0 ≤ p ∧ p < (P : Int))) (hr : r = 2) : kt_WYR how p a n P A fk fo fr re w L s BK r := by
  unfold kt_WYR; rw [if_neg (fun h => h h1), if_pos h2]; exact hr
theorem kt_WYR.c3 {how p a n : Int} {P : Nat} {A fk fo fr : Nat → Int32} {re w L s : Int} {BK : Prop} {r : Int} (h1 : how = 1) (h2 : 0 ≤ p ∧ p < (P : Int)) (h3 : A p.toNat = -1) (hr : r = 3) : kt_WYR how p a n P A fk fo fr re w L s BK r := by
  unfold kt_WYR; rw [if_neg (fun h => h h1), if_neg (fun h => h h2), if_pos h3]; exact hr
theorem kt_WYR.c4 {how p a n : Int} {P : Nat} {A fk fo fr : Nat → Int32} {re w L s : Int} {BK : Prop} {r : Int} (h1 : how = 1) (h2 : 0 ≤ p ∧ p < (P : Int)) (h3 : ¬ A p.toNat = -1) (h4 : ¬ kt_side (fk p.toNat) = s) (hr : r = 4) : kt_WYR how p a n P A fk fo fr re w L s BK r := by
  unfold kt_WYR; rw [if_neg (fun h => h h1), if_neg (fun h => h h2), if_neg h3, if_pos h4]; exact hr
theorem kt_WYR.c5 {how p a n : Int} {P : Nat} {A fk fo fr : Nat → Int32} {re w L s : Int} {BK : Prop} {r : Int} (h1 : how = 1) (h2 : 0 ≤ p ∧ p < (P : Int)) (h3 : ¬ A p.toNat = -1) (h4 : kt_side (fk p.toNat) = s) (h5 : ¬ ((0 ≤ a ∧ a ≤ 3) ∧ 1 ≤ n)) (hr : r = 5) : kt_WYR how p a n P A fk fo fr re w L s BK r := by
  unfold kt_WYR; rw [if_neg (fun h => h h1), if_neg (fun h => h h2), if_neg h3, if_neg (fun h => h h4), if_pos h5]; exact hr
theorem kt_WYR.c6 {how p a n : Int} {P : Nat} {A fk fo fr : Nat → Int32} {re w L s : Int} {BK : Prop} {r : Int} (h1 : how = 1) (h2 : 0 ≤ p ∧ p < (P : Int)) (h3 : ¬ A p.toNat = -1) (h4 : kt_side (fk p.toNat) = s) (h5 : (0 ≤ a ∧ a ≤ 3) ∧ 1 ≤ n) (h6 : r = kt_bar fo fr (fk p.toNat) re (A p.toNat).toInt w L a n) (h7 : ¬ r = 0) : kt_WYR how p a n P A fk fo fr re w L s BK r := by
  unfold kt_WYR; rw [if_neg (fun h => h h1), if_neg (fun h => h h2), if_neg h3, if_neg (fun h => h h4), if_neg (fun h => h h5), if_pos (by rw [← h6]; exact h7)]; exact h6
theorem kt_WYR.c7 {how p a n : Int} {P : Nat} {A fk fo fr : Nat → Int32} {re w L s : Int} {BK : Prop} {r : Int} (h1 : how = 1) (h2 : 0 ≤ p ∧ p < (P : Int)) (h3 : ¬ A p.toNat = -1) (h4 : kt_side (fk p.toNat) = s) (h5 : (0 ≤ a ∧ a ≤ 3) ∧ 1 ≤ n) (h6 : kt_bar fo fr (fk p.toNat) re (A p.toNat).toInt w L a n = 0) (h7 : (BK ∧ r = 10) ∨ (¬ BK ∧ r = 0)) : kt_WYR how p a n P A fk fo fr re w L s BK r := by
  unfold kt_WYR; rw [if_neg (fun h => h h1), if_neg (fun h => h h2), if_neg h3, if_neg (fun h => h h4), if_neg (fun h => h h5), if_neg (fun h => h h6)]; exact h7
/-- a piece can go -/
theorem kt_WYR.z {how p a n : Int} {P : Nat} {A fk fo fr : Nat → Int32} {re w L s : Int} {BK : Prop} {r : Int} (h : kt_WYR how p a n P A fk fo fr re w L s BK r) (hr : r = 0) : how = 1 ∧ (0 ≤ p ∧ p < (P : Int)) ∧ ¬ A p.toNat = -1 ∧ kt_side (fk p.toNat) = s ∧ ((0 ≤ a ∧ a ≤ 3) ∧ 1 ≤ n) ∧ kt_bar fo fr (fk p.toNat) re (A p.toNat).toInt w L a n = 0 ∧ ¬ BK := by
  unfold kt_WYR at h
  by_cases h1 : ¬ how = 1
  · rw [if_pos h1] at h; omega
  · rw [if_neg h1] at h
    by_cases h2 : ¬ (0 ≤ p ∧ p < (P : Int))
    · rw [if_pos h2] at h; omega
    · rw [if_neg h2] at h
      by_cases h3 : A p.toNat = -1
      · rw [if_pos h3] at h; omega
      · rw [if_neg h3] at h
        by_cases h4 : ¬ kt_side (fk p.toNat) = s
        · rw [if_pos h4] at h; omega
        · rw [if_neg h4] at h
          by_cases h5 : ¬ ((0 ≤ a ∧ a ≤ 3) ∧ 1 ≤ n)
          · rw [if_pos h5] at h; omega
          · rw [if_neg h5] at h
            by_cases h6 : ¬ kt_bar fo fr (fk p.toNat) re (A p.toNat).toInt w L a n = 0
            · rw [if_pos h6] at h; exact absurd (h.symm.trans hr) h6
            · rw [if_neg h6] at h
              rcases h with h | h
              · omega
              · exact ⟨by omega, by omega, h3, by omega, by omega, by omega, h.1⟩
theorem kt_WYR.uniq {how p a n : Int} {P : Nat} {A fk fo fr : Nat → Int32} {re w L s : Int} {BK : Prop} {r r' : Int} (h : kt_WYR how p a n P A fk fo fr re w L s BK r) (h' : kt_WYR how p a n P A fk fo fr re w L s BK r') : r = r' := by
  unfold kt_WYR at h h'
  by_cases h1 : ¬ how = 1
  · rw [if_pos h1] at h h'; omega
  · rw [if_neg h1] at h h'
    by_cases h2 : ¬ (0 ≤ p ∧ p < (P : Int))
    · rw [if_pos h2] at h h'; omega
    · rw [if_neg h2] at h h'
      by_cases h3 : A p.toNat = -1
      · rw [if_pos h3] at h h'; omega
      · rw [if_neg h3] at h h'
        by_cases h4 : ¬ kt_side (fk p.toNat) = s
        · rw [if_pos h4] at h h'; omega
        · rw [if_neg h4] at h h'
          by_cases h5 : ¬ ((0 ≤ a ∧ a ≤ 3) ∧ 1 ≤ n)
          · rw [if_pos h5] at h h'; omega
          · rw [if_neg h5] at h h'
            by_cases h6 : ¬ kt_bar fo fr (fk p.toNat) re (A p.toNat).toInt w L a n = 0
            · rw [if_pos h6] at h h'; omega
            · rw [if_neg h6] at h h'
              rcases h with ⟨a1, a2⟩ | ⟨a1, a2⟩ <;> rcases h' with ⟨b1, b2⟩ | ⟨b1, b2⟩
              · omega
              · exact absurd a1 b1
              · exact absurd b1 a1
              · omega
theorem kt_bar_cong {fo fo' fr : Nat → Int32} {kp : Int32} {re x w L a n : Int} (hw : 2 ≤ w ∧ w ≤ 9) (hL : 2 ≤ L ∧ L ≤ 9) (hx : 0 ≤ x ∧ x < L * w) (h : ∀ f, f < 81 → fo f = fo' f) : kt_bar fo fr kp re x w L a n = kt_bar fo' fr kp re x w L a n := by
  have hB := kt_mulb hL hw
  unfold kt_bar
  rw [kt_pth_cong h (fun k => by
    rcases kt_al_r (a := a) (n := (k : Int) + 1) hw hL hx (by omega) with h1 | h1
    · rw [h1.1]; decide
    · omega)]
theorem kt_WYR.conv {how p a n : Int} {P : Nat} {A A' fk fo fo' fr : Nat → Int32} {re w L s : Int} {BK BK' : Prop} {r : Int} (h : kt_WYR how p a n P A fk fo fr re w L s BK r) (hw : 2 ≤ w ∧ w ≤ 9) (hL : 2 ≤ L ∧ L ≤ 9) (hr : kt_r A P (-1) (L * w - 1)) (hA : ∀ q, q < P → A q = A' q) (hf : ∀ f, f < 81 → fo f = fo' f) (hB : BK ↔ BK') : kt_WYR how p a n P A' fk fo' fr re w L s BK' r := by
  unfold kt_WYR at h ⊢
  by_cases h1 : ¬ how = 1
  · rw [if_pos h1] at h ⊢; exact h
  · rw [if_neg h1] at h ⊢
    by_cases h2 : ¬ (0 ≤ p ∧ p < (P : Int))
    · rw [if_pos h2] at h ⊢; exact h
    · rw [if_neg h2] at h ⊢
      rw [← hA p.toNat (by omega)]
      by_cases h3 : A p.toNat = -1
      · rw [if_pos h3] at h ⊢; exact h
      · rw [if_neg h3] at h ⊢
        have hx := hr p.toNat (by omega)
        have h3' : ¬ (A p.toNat).toInt = -1 := fun e => h3 ((kt_eq _ _).mpr (e.trans kt_cm1.symm))
        rw [← kt_bar_cong (fo := fo) (fo' := fo') hw hL (by omega) hf, ← hB]
        exact h
theorem kt_can_cong {P : Nat} {fo fo' fr fk A A' : Nat → Int32} {re w L s : Int} (hw : 2 ≤ w ∧ w ≤ 9) (hL : 2 ≤ L ∧ L ≤ 9) (hr : kt_r A P (-1) (L * w - 1)) (hA : ∀ q, q < P → A q = A' q) (hf : ∀ f, f < 81 → fo f = fo' f) : kt_can P fo fr fk A re w L s ↔ kt_can P fo' fr fk A' re w L s := by
  have key : ∀ p a, p < P → ¬ A p = -1 → kt_bar fo fr (fk p) re (A p).toInt w L a 1 = kt_bar fo' fr (fk p) re (A p).toInt w L a 1 := fun p a hp hne => kt_bar_cong hw hL (by
    have hx := hr p hp
    have h3' : ¬ (A p).toInt = -1 := fun e => hne ((kt_eq _ _).mpr (e.trans kt_cm1.symm))
    omega) hf
  constructor
  · intro ⟨p, h1, h2, h3, a, h4, h5⟩
    exact ⟨p, h1, h2, by rw [← hA p h1]; exact h3, a, h4, by rw [← hA p h1, ← key p a h1 h3]; exact h5⟩
  · intro ⟨p, h1, h2, h3, a, h4, h5⟩
    rw [← hA p h1] at h3 h5
    exact ⟨p, h1, h2, h3, a, h4, by rw [key p a h1 h3]; exact h5⟩
/-- how the play is, by the stand alone -/
def kt_hows (P : Nat) (w L : Int) (fr fk : Nat → Int32) (re : Int) (lg : Int32) (kg : Nat) (T : Nat → Int32) (s : Int) (B : Prop) (h : Int) : Prop := kt_HW (T kg = -1) (kt_goR lg w L (fr (T kg).toInt.toNat) (T kg).toInt) (kt_can P (kt_who T P) fr fk T re w L s) B s h
theorem kt_hows.uniq {P : Nat} {w L : Int} {fr fk : Nat → Int32} {re : Int} {lg : Int32} {kg : Nat} {T : Nat → Int32} {s : Int} {B : Prop} {h h' : Int} (a : kt_hows P w L fr fk re lg kg T s B h) (b : kt_hows P w L fr fk re lg kg T s B h') : h = h' := kt_HW.eq a b Iff.rfl (fun _ => Iff.rfl) (fun _ _ => Iff.rfl) (fun _ _ _ => Iff.rfl)
theorem kt_hows.of {P : Nat} {w L : Int} {fr fk ff fh T : Nat → Int32} {re : Int} {lg : Int32} {kg : Nat} {s h : Int} {B B' : Prop} (hw : 2 ≤ w ∧ w ≤ 9) (hL : 2 ≤ L ∧ L ≤ 9) (hP : P ≤ 40) (hr : kt_r ff P (-1) (L * w - 1)) (hc : kt_con fh ff P) (hk : kt_coc fh ff P) (hT : ∀ q, q < P → ff q = T q) (hkg : kg < P) (hB : B ↔ B') (a : kt_HW (ff kg = -1) (kt_goR lg w L (fr (ff kg).toInt.toNat) (ff kg).toInt) (kt_can P fh fr fk ff re w L s) B s h) : kt_hows P w L fr fk re lg kg T s B' h := by
  unfold kt_hows
  rw [← hT kg hkg]
  have hC := kt_can_cong (fr := fr) (fk := fk) (re := re) (s := s) hw hL hr hT (fun f hf => (kt_who_of hc hk hP hf).trans (kt_who_cong hT))
  rcases a with a | a | a | a | a
  · exact Or.inl a
  · exact Or.inr (Or.inl a)
  · exact Or.inr (Or.inr (Or.inl ⟨a.1, a.2.1, fun h => a.2.2.1 (hC.mpr h), a.2.2.2⟩))
  · exact Or.inr (Or.inr (Or.inr (Or.inl ⟨a.1, a.2.1, hC.mp a.2.2.1, hB.mp a.2.2.2.1, a.2.2.2.2⟩)))
  · exact Or.inr (Or.inr (Or.inr (Or.inr ⟨a.1, a.2.1, hC.mp a.2.2.1, fun h => a.2.2.2.1 (hB.mpr h), a.2.2.2.2⟩)))
theorem kt_WYR.off {how p a n : Int} {P : Nat} {A fk fo fr : Nat → Int32} {re w L s : Int} {BK : Prop} {r : Int} (h : kt_WYR how p a n P A fk fo fr re w L s BK r) (h1 : ¬ how = 1) : r = 1 := by
  unfold kt_WYR at h
  rw [if_pos h1] at h
  exact h