/-! ===== both tables ===== -/
theorem kt_tabs {T : Nat} {E X Y X' Y' : Nat → Int} {ed : Nat → Nat → Prop} (hT : ∀ s, s < T → E s = 3 → ∀ u, ed s u → u < T) (h : ∀ s, s < T → kt_sol (-1) E ed X Y s) (h' : ∀ s, s < T → kt_sol 4 E ed X' Y' s) (s : Nat) (hs : s < T) : Y s = Y' s ∧ ((E s = 4 ∧ X s = -1 ∧ X' s = 4) ∨ (¬ E s = 4 ∧ X s = X' s ∧ 0 ≤ X s ∧ X s ≤ 2)) :=
  kt_sol_eq (Or.inl (by decide)) (Or.inr (by decide)) hT h h' s hs
/-! ===== stands of a play count ===== -/
def kt_GS (P : Nat) (fr fk : Nat → Int32) (S : Nat → Nat → Int32) (N : Int) : Prop := ∀ k : Nat, (k : Int) ≤ N → ∀ p, p < P → ¬ S k p = -1 → fr (S k p).toInt.toNat = 0 ∨ fk p = 2
theorem kt_bar_bear {fo fr : Nat → Int32} {kp : Int32} {re x w L a n : Int} (h : kt_bar fo fr kp re x w L a n = 0) (hn : 1 ≤ n) : fr (kt_al x w L a n).toNat = 0 ∨ kp = 2 := by
  obtain ⟨-, -, h3⟩ := kt_bar_0.mp h
  obtain ⟨m, hm⟩ : ∃ m : Nat, n.toNat = m + 1 := ⟨n.toNat - 1, by omega⟩
  rw [hm] at h3
  have e : ((m : Int) + 1) = n := by omega
  by_cases h0 : kt_pth fo fr kp x w L a m = 0
  · have hs := kt_pth_s h0
    rw [e] at hs
    by_cases hf : fo (kt_al x w L a n).toNat = -1
    · refine Classical.byContradiction (fun hb => ?_)
      have h5 := hs.2.1 hf hb
      omega
    · have h5 := hs.1 hf
      omega
  · rw [kt_pth_n h0] at h3
    exact absurd h3 h0
theorem kt_GS.go {P d : Nat} {w L re p a n N : Int} {fr fk A0 mv mv2 fo : Nat → Int32} {lt lh m : Int32} (h : kt_GS P fr fk (fun k => kt_S (kt_stepf P w L fr fk lt lh) A0 mv k) N) (hd : (d : Int) ≤ N) (hw : 2 ≤ w ∧ w ≤ 9) (hL : 2 ≤ L ∧ L ≤ 9) (hm : m.toInt = 32 * p + 8 * a + n - 1) (hp : 0 ≤ p ∧ p < (P : Int)) (ha : 0 ≤ a ∧ a ≤ 3) (hn : 1 ≤ n ∧ n ≤ 8) (hmv : mv2 = upd mv d m) (hx : 0 ≤ (kt_S (kt_stepf P w L fr fk lt lh) A0 mv d p.toNat).toInt ∧ (kt_S (kt_stepf P w L fr fk lt lh) A0 mv d p.toNat).toInt < L * w) (hb : kt_bar fo fr (fk p.toNat) re (kt_S (kt_stepf P w L fr fk lt lh) A0 mv d p.toNat).toInt w L a n = 0) : kt_GS P fr fk (fun k => kt_S (kt_stepf P w L fr fk lt lh) A0 mv2 k) ((d : Int) + 1) := by
  intro k hk q hq
  have hold : ∀ k, k ≤ d → kt_S (kt_stepf P w L fr fk lt lh) A0 mv2 k = kt_S (kt_stepf P w L fr fk lt lh) A0 mv k := fun k hk => kt_S_cong (fun j hj => by rw [hmv, pk_un (by omega)])
  by_cases e : k ≤ d
  · show ¬ kt_S (kt_stepf P w L fr fk lt lh) A0 mv2 k q = -1 → fr (kt_S (kt_stepf P w L fr fk lt lh) A0 mv2 k q).toInt.toNat = 0 ∨ fk q = 2
    rw [hold k e]
    exact h k (by omega) q hq
  · have ek : k = d + 1 := by omega
    rw [ek]
    show ¬ kt_stepf P w L fr fk lt lh (kt_S (kt_stepf P w L fr fk lt lh) A0 mv2 d) (mv2 d) q = -1 → fr (kt_stepf P w L fr fk lt lh (kt_S (kt_stepf P w L fr fk lt lh) A0 mv2 d) (mv2 d) q).toInt.toNat = 0 ∨ fk q = 2
    rw [hold d (Nat.le_refl d), hmv, pk_us]
    have h1 : ∀ q, q < P → ¬ kt_S (kt_stepf P w L fr fk lt lh) A0 mv d q = -1 → fr (kt_S (kt_stepf P w L fr fk lt lh) A0 mv d q).toInt.toNat = 0 ∨ fk q = 2 := h d hd
    show ¬ kt_mk P w L fr fk lt lh (kt_S (kt_stepf P w L fr fk lt lh) A0 mv d) (m.toInt / 32).toNat (m.toInt / 8 % 4) (m.toInt % 8 + 1) q = -1 → fr (kt_mk P w L fr fk lt lh (kt_S (kt_stepf P w L fr fk lt lh) A0 mv d) (m.toInt / 32).toNat (m.toInt / 8 % 4) (m.toInt % 8 + 1) q).toInt.toNat = 0 ∨ fk q = 2
    rw [show m.toInt / 32 = p by omega, show m.toInt / 8 % 4 = a by omega, show m.toInt % 8 + 1 = n by omega]
    generalize kt_S (kt_stepf P w L fr fk lt lh) A0 mv d = SD at hx hb h1 ⊢
    intro hne
    have hr := kt_al_r (a := a) (n := n) hw hL hx hn.1
    have hbe := kt_bar_bear hb hn.1
    have hfr := (kt_bar_free hb hn.1).1
    rcases (kt_mk_j (w := w) (L := L) (fr := fr) (fk := fk) (A := SD) (mkt := lt) (mhd := lh) (p := p.toNat) (a := a) (n := n) hq).2 with h5 | h5
    · exact absurd h5 hne
    · rw [h5] at hne ⊢
      by_cases e2 : q = p.toNat
      · rw [e2, pk_us, kt_nI (by omega), Int.toNat_natCast]
        exact hbe
      · rw [pk_un e2] at hne ⊢
        exact h1 q hq hne
/-- the play's stand counts -/
theorem kt_GS.gdp {B P : Nat} {F : Int} {fr fk A : Nat → Int32} (hB : (B : Int) = F + 1) (hF : 4 ≤ F ∧ F ≤ 81) (hA : ∀ j, j < P → A j = -1 ∨ (0 ≤ (A j).toInt ∧ (A j).toInt < (B : Int) - 1)) (hi : kt_inj A P) (hg : ∀ p, p < P → ¬ A p = -1 → fr (A p).toInt.toNat = 0 ∨ fk p = 2) : kt_gdp F fr fk (fun p => ((kt_dg B (kt_pn B A P) p : Nat) : Int)) P := by
  have hd : ∀ j, j < P → kt_dgt B (A j) < B := fun j hj => kt_dgt_lt (by omega) (hA j hj)
  have hdg := kt_pn_dg (B := B) (A := A) (by omega) hd
  have hin : ∀ j, j < P → ((kt_dg B (kt_pn B A P) j : Nat) : Int) < F → ¬ A j = -1 ∧ 0 ≤ (A j).toInt ∧ kt_dg B (kt_pn B A P) j = (A j).toInt.toNat ∧ (A j).toInt < F := by
    intro j hj hl
    rw [hdg j hj] at hl ⊢
    rcases hA j hj with h | h
    · exfalso
      rw [h] at hl
      have h5 := kt_dgt_m1 (B := B) (by omega)
      omega
    · have h5 := kt_dgt_of (B := B) h.1
      refine ⟨fun h6 => ?_, h.1, by omega, by omega⟩
      rw [h6, kt_cm1] at h
      omega
  intro p hp hl
  have hl2 : ((kt_dg B (kt_pn B A P) p : Nat) : Int) < F := hl
  obtain ⟨h1, h2, h3, h4⟩ := hin p hp hl2
  refine ⟨fun q hq he => ?_, ?_⟩
  · have he2 : ((kt_dg B (kt_pn B A P) q : Nat) : Int) = ((kt_dg B (kt_pn B A P) p : Nat) : Int) := he
    obtain ⟨g1, g2, g3, g4⟩ := hin q (by omega) (by omega)
    have e1 := kt_nIof (x := A p) h2
    have e2 := kt_nIof (x := A q) g2
    have e3 : (A q).toInt.toNat = (A p).toInt.toNat := by omega
    rw [e3] at e2
    have h9 := hi q p (A p).toInt.toNat (by omega) hp (by omega) e2 e1
    omega
  · show fr (((kt_dg B (kt_pn B A P) p : Nat) : Int)).toNat = 0 ∨ fk p = 2
    rw [show (((kt_dg B (kt_pn B A P) p : Nat) : Int)).toNat = (A p).toInt.toNat by omega]
    exact hg p hp h1
theorem kt_iP_grd {s : Int32} (h : kt_iP s = true) : kt_grd s = 0 ∨ kt_kd s = 2 := by
  unfold kt_iP at h
  have h1 : ¬ kt_kd s = 0 := of_decide_eq_true h
  unfold kt_grd
  by_cases e7 : s = 7
  · refine Or.inr ?_
    unfold kt_kd
    rw [if_pos e7]
  · by_cases e5 : s = 5
    · exfalso
      rw [e5] at h1
      exact h1 (by decide)
    · by_cases e6 : s = 6
      · exfalso
        rw [e6] at h1
        exact h1 (by decide)
      · rw [if_neg (fun h2 => h2.elim e5 e7), if_neg e6]
        exact Or.inl rfl
