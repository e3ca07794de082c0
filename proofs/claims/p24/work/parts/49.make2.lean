def kt_nz (x : Int32) : Bool := decide (¬ x = 0)
theorem kt_vic_one {fo fa fr fk : Nat → Int32} {mkt mhd : Int32} {w L t : Int} {p a b j P : Nat} (hc : kt_con fo fa P) (hP : P ≤ 40) (hw : 2 ≤ w ∧ w ≤ 9) (hL : 2 ≤ L ∧ L ≤ 9) (ht : 0 ≤ t ∧ t < L * w) (ha : a < 4) (hb : b < 4) (h1 : kt_vic fo fr fk mkt mhd w L p t a j) (hj : j < P) (hf : fa j = nI (kt_al t w L b 1).toNat) (hb2 : ¬ kt_al t w L b 1 = -1) : a = b := by
  rcases kt_al_r (a := (a : Int)) (n := 1) hw hL ht (by omega) with h | h
  · exact absurd h.1 h1.1
  · rcases kt_al_r (a := (b : Int)) (n := 1) hw hL ht (by omega) with h2 | h2
    · exact absurd h2.1 hb2
    · have h3 := h1.2.1
      obtain ⟨q, hq, e1, e2⟩ := hc (kt_al t w L a 1).toNat (by omega) (by rw [h3]; exact kt_nIm1 (by omega))
      rw [h3] at e1
      have e3 := kt_nIinj (by omega) (by omega) e1
      rw [← e3, hf] at e2
      have e4 := kt_nIinj (by omega) (by omega) e2
      exact kt_al_inj hw.1 ha hb (by omega) h1.1
