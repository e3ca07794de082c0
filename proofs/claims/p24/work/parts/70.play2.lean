/-! ===== a move of the class ===== -/
theorem kt_mk_none {P : Nat} {w L : Int} {fr fk A : Nat → Int32} {mkt mhd : Int32} {p : Nat} {a n : Int} (hL81 : L * w ≤ 81) (hA : ∀ j, P ≤ j → A j = -1) (hp : p < P) (ht : 0 ≤ kt_al (A p).toInt w L a n ∧ kt_al (A p).toInt w L a n < L * w) (hno : ∀ j, j < P → ¬ kt_gone A (kt_mk P w L fr fk mkt mhd A p a n) j) : kt_mk P w L fr fk mkt mhd A p a n = upd A p (nI (kt_al (A p).toInt w L a n).toNat) := by
  funext j
  by_cases e : j < P
  · by_cases e2 : j = p
    · rw [e2, kt_mk_p hp, pk_us]
    · rcases (kt_mk_j (w := w) (L := L) (fr := fr) (fk := fk) (A := A) (mkt := mkt) (mhd := mhd) (p := p) (a := a) (n := n) e).2 with h | h
      · by_cases e3 : A j = -1
        · rw [h, pk_un e2, e3]
        · exact absurd ⟨e3, h⟩ (hno j e)
      · exact h
  · rw [pk_un (by omega), hA j (by omega)]
    unfold kt_mk
    rw [if_neg e]
theorem kt_vl_gone {P p c : Nat} {w L a n : Int} {fr fk A ff fh fv : Nat → Int32} {lt lh T : Int32} (hst : kt_ST w L P ff fh) (hcut : ∀ j, j < P → ff j = A j) (hP : P ≤ 40) (hw : 2 ≤ w ∧ w ≤ 9) (hL : 2 ≤ L ∧ L ≤ 9) (hp : p < P) (hx : 0 ≤ (ff p).toInt) (hT : T.toInt = kt_al (A p).toInt w L a n) (hTr : 0 ≤ T.toInt ∧ T.toInt < L * w) (hfree : ∀ q, q < P → ¬ ff q = nI T.toInt.toNat)
    (hVL : kt_VL fv c (fun j => kt_tks lt (fk p) ∧ ∃ b : Nat, b < 4 ∧ kt_vic (kt_plc fh (ff p) (nI p) T) fr fk lt lh w L p T.toInt b j)) : kt_VL fv c (fun j => j < P ∧ kt_gone A (kt_mk P w L fr fk lt lh A p a n) j) := by
  have hsz := kt_mulb hL hw
  obtain ⟨-, hco, hcc, -⟩ := hst.move hsz.2 hP hp hx hTr hfree
  have eT := kt_nIof (x := T) hTr.1
  have hwh : ∀ f, f < 81 → kt_plc fh (ff p) (nI p) T f = kt_who (upd A p (nI (kt_al (A p).toInt w L a n).toNat)) P f := by
    intro f hf
    rw [kt_who_of hco hcc hP hf]
    refine kt_who_cong (fun j hj => ?_)
    by_cases e : j = p
    · rw [e, pk_us, pk_us, ← hT]; exact eT
    · rw [pk_un e, pk_un e]; exact hcut j hj
  refine hVL.iff (fun j hj => ⟨fun ⟨h1, b, hb, hv⟩ => ?_, fun ⟨h1, h2⟩ => ?_⟩)
  · have hjP : j < P := by
      rcases kt_al_r (a := (b : Int)) (n := 1) hw hL hTr (by omega) with h | h
      · exact absurd h.1 hv.1
      · obtain ⟨q, q1, q2, q3⟩ := hco _ (show (kt_al T.toInt w L b 1).toNat < 81 by omega) (by rw [hv.2.1]; exact kt_nIm1 (by omega))
        rw [hv.2.1] at q2
        have := kt_nIinj (by omega) (by omega) q2
        omega
    have hv2 := (kt_vic_cong hw hL hTr hwh).mp hv
    rw [hT] at hv2
    exact ⟨hjP, (kt_mk_gone hP hw hL (by rw [← hT]; exact hTr) hjP).mpr ⟨h1, b, hb, hv2⟩⟩
  · obtain ⟨g1, b, hb, hv⟩ := (kt_mk_gone hP hw hL (by rw [← hT]; exact hTr) h1).mp h2
    rw [← hT] at hv
    exact ⟨g1, b, hb, (kt_vic_cong hw hL hTr (fun f hf => by rw [hwh f hf, hT])).mpr hv⟩
theorem kt_bk_iff {S : Nat → Nat → Int32} {M D : Nat → Int32} {s0 : Int} {d : Nat} {dI : Int} (hd : dI = (d : Int)) (hs : 0 ≤ s0 ∧ s0 ≤ 1) (hM : M = D) : (∃ k : Nat, (k : Int) < dI ∧ S k = D ∧ (d - k) % 2 = 1) ↔ (∃ k : Nat, k < d + 1 ∧ S k = M ∧ kt_sdk s0 k = kt_sdk s0 (d + 1)) := by
  constructor
  · intro ⟨k, h1, h2, h3⟩
    exact ⟨k, by omega, by rw [hM]; exact h2, (kt_sdk_eq hs).mpr (by omega)⟩
  · intro ⟨k, h1, h2, h3⟩
    have h4 := (kt_sdk_eq hs).mp h3
    exact ⟨k, by omega, by rw [← hM]; exact h2, by omega⟩
theorem kt_bk_no {P : Nat} {w L : Int} {fr fk A0 mv M : Nat → Int32} {mkt mhd : Int32} {N d : Nat} {s0 : Int} (hP : P ≤ 40) (hw : 2 ≤ w ∧ w ≤ 9) (hL : 2 ≤ L ∧ L ≤ 9) (h0 : kt_r A0 P (-1) (L * w - 1)) (hl : ∀ k, k < N → kt_lgl P w L (kt_S (kt_stepf P w L fr fk mkt mhd) A0 mv k) (mv k)) (hdN : d ≤ N) {j : Nat} (hj : j < P) (hg : kt_gone (kt_S (kt_stepf P w L fr fk mkt mhd) A0 mv d) M j) : ¬ ∃ k : Nat, k < d + 1 ∧ kt_S (kt_stepf P w L fr fk mkt mhd) A0 mv k = M ∧ kt_sdk s0 k = kt_sdk s0 (d + 1) := by
  intro ⟨k, h1, h2, h3⟩
  have h5 := kt_S_gone hP hw hL h0 hl hj (i := k) (by rw [h2]; exact hg.2) (d - k) (by omega)
  rw [show k + (d - k) = d by omega] at h5
  exact hg.1 h5
/-- pieces leave the board one by one -/
def kt_TK (fv F f1 : Nat → Int32) (k : Nat) : Prop := ∀ j, j < 40 → ((∃ i, i < k ∧ fv i = nI j) → f1 j = -1) ∧ ((¬ ∃ i, i < k ∧ fv i = nI j) → f1 j = F j)
theorem kt_TK.step {fv F f1 : Nat → Int32} {k v : Nat} (h : kt_TK fv F f1 k) (hv : fv k = nI v) (hv2 : v < 40) : kt_TK fv F (upd f1 v (-1)) (k + 1) := by
  intro j hj
  by_cases e : j = v
  · rw [e, pk_us]
    exact ⟨fun _ => rfl, fun h1 => absurd ⟨k, by omega, hv⟩ h1⟩
  · rw [pk_un e]
    obtain ⟨a, b⟩ := h j hj
    refine ⟨fun ⟨i, h1, h2⟩ => a ⟨i, ?_, h2⟩, fun h1 => b (fun ⟨i, h2, h3⟩ => h1 ⟨i, by omega, h3⟩)⟩
    refine Nat.lt_of_le_of_ne (by omega) (fun e2 => e ?_)
    rw [e2, hv] at h2
    exact (kt_nIinj (by omega) (by omega) h2).symm
/-- the stand behind a move is the reference's -/
theorem kt_TK.mk {P p c : Nat} {w L a n : Int} {fr fk A ff f1 fv : Nat → Int32} {lt lh T : Int32} (hcut : ∀ j, j < P → ff j = A j) (hA : ∀ j, P ≤ j → A j = -1) (hP : P ≤ 40) (hL81 : L * w ≤ 81) (hp : p < P) (hT : T.toInt = kt_al (A p).toInt w L a n) (hTr : 0 ≤ T.toInt ∧ T.toInt < L * w) (hVL : kt_VL fv c (fun j => j < P ∧ kt_gone A (kt_mk P w L fr fk lt lh A p a n) j)) (h : kt_TK fv (upd ff p T) f1 c) : kt_cut P f1 = kt_mk P w L fr fk lt lh A p a n := by
  have eT := kt_nIof (x := T) hTr.1
  funext j
  by_cases e : j < P
  · rw [kt_cut_in e]
    obtain ⟨h1, h2⟩ := h j (by omega)
    by_cases g : kt_gone A (kt_mk P w L fr fk lt lh A p a n) j
    · rw [h1 (hVL.2.2.1 j (by omega) ⟨e, g⟩), g.2]
    · rw [h2 (fun ⟨i, b1, b2⟩ => by
        obtain ⟨x, y1, y2, y3⟩ := hVL.2.1 i b1
        rw [b2] at y2
        have := kt_nIinj (by omega) (by omega) y2
        rw [← this] at y3
        exact g y3.2)]
      by_cases e2 : j = p
      · rw [e2, pk_us, kt_mk_p hp, ← hT]; exact eT
      · rw [pk_un e2, hcut j e]
        rcases (kt_mk_j (w := w) (L := L) (fr := fr) (fk := fk) (A := A) (mkt := lt) (mhd := lh) (p := p) (a := a) (n := n) e).2 with h3 | h3
        · by_cases e3 : A j = -1
          · rw [h3, e3]
          · exact absurd ⟨e3, h3⟩ g
        · rw [h3, pk_un e2]
  · unfold kt_cut kt_mk
    rw [if_neg e, if_neg e]
/-- one move more in the class's log -/
theorem kt_CI.step {w L s0 : Int} {P : Nat} {fr fk A0 mv ff fh m0 m1 m2 m3 m4 m5 ff2 fh2 w0 w1 w2 w3 w4 w5 fv : Nat → Int32} {lt lh dn kn tu dn2 kn2 tu2 m p1 p2 vc : Int32} (h : kt_CI w L P fr fk lt lh A0 mv s0 dn kn tu ff fh m0 m1 m2 m3 m4 m5) (hP : P ≤ 40) (hw : 2 ≤ w ∧ w ≤ 9) (hL : 2 ≤ L ∧ L ≤ 9) (hd : dn.toInt ≤ 511)
    (hl : kt_lgl P w L (kt_S (kt_stepf P w L fr fk lt lh) A0 mv dn.toInt.toNat) m) (hp1 : p1 = nI (m.toInt / 32).toNat) (hp2 : p2 = kt_stepf P w L fr fk lt lh (kt_S (kt_stepf P w L fr fk lt lh) A0 mv dn.toInt.toNat) m (m.toInt / 32).toNat)
    (hor : kn.toInt = dn.toInt ∨ (dn.toInt < kn.toInt ∧ mv dn.toInt.toNat = m)) (hd2 : dn2.toInt = dn.toInt + 1) (hk2 : (kn.toInt ≤ dn.toInt → kn2.toInt = dn.toInt + 1) ∧ (dn.toInt < kn.toInt → kn2 = kn)) (ht2 : tu2.toInt = 1 - tu.toInt)
    (e0 : w0 = upd m0 dn.toInt.toNat p1) (e1 : w1 = upd m1 dn.toInt.toNat (ff (m.toInt / 32).toNat)) (e2 : w2 = upd m2 dn.toInt.toNat p2) (e3 : w3 = upd m3 dn.toInt.toNat vc) (eo : ∀ j : Nat, (j < 4 * dn.toInt.toNat ∨ 4 * dn.toInt.toNat + 4 ≤ j) → w4 j = m4 j ∧ w5 j = m5 j) (ei : ∀ i : Nat, (i : Int) < vc.toInt → w4 (4 * dn.toInt.toNat + i) = fv i ∧ w5 (4 * dn.toInt.toNat + i) = ff (fv i).toInt.toNat) (hvc : 0 ≤ vc.toInt ∧ vc.toInt ≤ 4)
    (hVL : kt_VL fv vc.toInt.toNat (fun j => j < P ∧ kt_gone (kt_S (kt_stepf P w L fr fk lt lh) A0 mv dn.toInt.toNat) (kt_stepf P w L fr fk lt lh (kt_S (kt_stepf P w L fr fk lt lh) A0 mv dn.toInt.toNat) m) j)) (hst : kt_ST w L P ff2 fh2) (hcut : kt_cut P ff2 = kt_stepf P w L fr fk lt lh (kt_S (kt_stepf P w L fr fk lt lh) A0 mv dn.toInt.toNat) m) :
    kt_CI w L P fr fk lt lh A0 (upd mv dn.toInt.toNat m) s0 dn2 kn2 tu2 ff2 fh2 w0 w1 w2 w3 w4 w5 := by
  obtain ⟨⟨a1, a2, a3⟩, a4, a5, a6, a7⟩ := h
  have hSo : ∀ k, k ≤ dn.toInt.toNat → kt_S (kt_stepf P w L fr fk lt lh) A0 (upd mv dn.toInt.toNat m) k = kt_S (kt_stepf P w L fr fk lt lh) A0 mv k := fun k hk => kt_S_cong (fun j hj => by rw [pk_un (by omega)])
  have hSn : kt_S (kt_stepf P w L fr fk lt lh) A0 (upd mv dn.toInt.toNat m) (dn.toInt.toNat + 1) = kt_stepf P w L fr fk lt lh (kt_S (kt_stepf P w L fr fk lt lh) A0 mv dn.toInt.toNat) m := by
    show kt_stepf P w L fr fk lt lh (kt_S (kt_stepf P w L fr fk lt lh) A0 (upd mv dn.toInt.toNat m) dn.toInt.toNat) (upd mv dn.toInt.toNat m dn.toInt.toNat) = _
    rw [hSo _ (Nat.le_refl _), pk_us]
  have hfS : ∀ q, q < P → ff q = kt_S (kt_stepf P w L fr fk lt lh) A0 mv dn.toInt.toNat q := fun q hq => by rw [← a5, kt_cut_in hq]
  have hpP : (m.toInt / 32).toNat < P := by have := hl.1; omega
  have hkn : (kn.toInt ≤ dn.toInt ∧ kn2.toInt = dn.toInt + 1) ∨ (dn.toInt < kn.toInt ∧ kn2.toInt = kn.toInt) := by
    rcases Int.lt_or_le dn.toInt kn.toInt with h | h
    · exact Or.inr ⟨h, by rw [hk2.2 h]⟩
    · exact Or.inl ⟨h, hk2.1 h⟩
  refine ⟨⟨by omega, a2, ?_⟩, hst, ?_, a6, fun k hk => ?_⟩
  · rw [ht2, a3, show dn2.toInt.toNat = dn.toInt.toNat + 1 by omega, kt_sdk_s]
  · rw [hcut, show dn2.toInt.toNat = dn.toInt.toNat + 1 by omega, hSn]
  · by_cases c1 : k < dn.toInt.toNat
    · have h7 := a7 k (by omega)
      rw [hSo k (by omega), hSo (k + 1) (by omega), pk_un (show k ≠ dn.toInt.toNat by omega), e0, e1, e2, e3, pk_un (show k ≠ dn.toInt.toNat by omega), pk_un (show k ≠ dn.toInt.toNat by omega), pk_un (show k ≠ dn.toInt.toNat by omega), pk_un (show k ≠ dn.toInt.toNat by omega)]
      obtain ⟨g1, g2, g3, g4, g5, g6, g7⟩ := h7
      refine ⟨g1, g2, g3, g4, g5, ?_, fun i hi => ?_⟩
      · obtain ⟨v1, v2, v3, v4⟩ := g6
        have hw4 : ∀ i, i < (m3 k).toInt.toNat → w4 (4 * k + i) = m4 (4 * k + i) := fun i hi => (eo _ (by omega)).1
        refine ⟨v1, fun i hi => ?_, fun j hj hv => ?_, fun i j hij hj => ?_⟩
        · show ∃ j : Nat, j < 40 ∧ w4 (4 * k + i) = nI j ∧ _
          rw [hw4 i hi]; exact v2 i hi
        · obtain ⟨i, b1, b2⟩ := v3 j hj hv
          exact ⟨i, b1, by show w4 (4 * k + i) = nI j; rw [hw4 i b1]; exact b2⟩
        · show (w4 (4 * k + i)).toInt < (w4 (4 * k + j)).toInt
          rw [hw4 i (by omega), hw4 j hj]; exact v4 i j hij hj
      · show w5 (4 * k + i) = kt_S (kt_stepf P w L fr fk lt lh) A0 mv k (w4 (4 * k + i)).toInt.toNat
        rw [(eo _ (by omega)).2, (eo _ (by omega)).1]
        exact g7 i hi
    · by_cases c2 : k = dn.toInt.toNat
      · rw [c2, hSo _ (Nat.le_refl _), hSn, pk_us, e0, e1, e2, e3, pk_us, pk_us, pk_us, pk_us]
        refine ⟨hl, hp1, hfS _ hpP, hp2, hvc, ?_, fun i hi => ?_⟩
        · obtain ⟨v1, v2, v3, v4⟩ := hVL
          have hw4 : ∀ i, i < vc.toInt.toNat → w4 (4 * dn.toInt.toNat + i) = fv i := fun i hi => (ei i (by omega)).1
          refine ⟨v1, fun i hi => ?_, fun j hj hv => ?_, fun i j hij hj => ?_⟩
          · show ∃ j : Nat, j < 40 ∧ w4 (4 * dn.toInt.toNat + i) = nI j ∧ _
            rw [hw4 i hi]; exact v2 i hi
          · obtain ⟨i, b1, b2⟩ := v3 j hj hv
            exact ⟨i, b1, by show w4 (4 * dn.toInt.toNat + i) = nI j; rw [hw4 i b1]; exact b2⟩
          · show (w4 (4 * dn.toInt.toNat + i)).toInt < (w4 (4 * dn.toInt.toNat + j)).toInt
            rw [hw4 i (by omega), hw4 j hj]; exact v4 i j hij hj
        · show w5 (4 * dn.toInt.toNat + i) = kt_S (kt_stepf P w L fr fk lt lh) A0 mv dn.toInt.toNat (w4 (4 * dn.toInt.toNat + i)).toInt.toNat
          obtain ⟨x1, x2⟩ := ei i hi
          obtain ⟨j, b1, b2, b3⟩ := hVL.2.1 i (by omega)
          rw [x2, x1]
          have hc : (fv i).toInt.toNat = j := by rw [b2, kt_nI (by omega)]; omega
          rw [hc]
          exact hfS j b3.1
      · have hlt : dn.toInt < kn.toInt := by
          rcases hor with h | h
          · have := hk2.1 (by omega); omega
          · exact h.1
        have hkk := hk2.2 hlt
        rw [hkk] at hk
        have hmv : mv dn.toInt.toNat = m := by
          rcases hor with h | h
          · omega
          · exact h.2
        have hme : upd mv dn.toInt.toNat m = mv := by rw [← hmv]; exact kt_upd_same mv _
        have h7 := a7 k hk
        rw [hme, e0, e1, e2, e3, pk_un (show k ≠ dn.toInt.toNat by omega), pk_un (show k ≠ dn.toInt.toNat by omega), pk_un (show k ≠ dn.toInt.toNat by omega), pk_un (show k ≠ dn.toInt.toNat by omega)]
        obtain ⟨g1, g2, g3, g4, g5, g6, g7⟩ := h7
        refine ⟨g1, g2, g3, g4, g5, ?_, fun i hi => ?_⟩
        · obtain ⟨v1, v2, v3, v4⟩ := g6
          have hw4 : ∀ i, i < (m3 k).toInt.toNat → w4 (4 * k + i) = m4 (4 * k + i) := fun i hi => (eo _ (by omega)).1
          refine ⟨v1, fun i hi => ?_, fun j hj hv => ?_, fun i j hij hj => ?_⟩
          · show ∃ j : Nat, j < 40 ∧ w4 (4 * k + i) = nI j ∧ _
            rw [hw4 i hi]; exact v2 i hi
          · obtain ⟨i, b1, b2⟩ := v3 j hj hv
            exact ⟨i, b1, by show w4 (4 * k + i) = nI j; rw [hw4 i b1]; exact b2⟩
          · show (w4 (4 * k + i)).toInt < (w4 (4 * k + j)).toInt
            rw [hw4 i (by omega), hw4 j hj]; exact v4 i j hij hj
        · show w5 (4 * k + i) = kt_S (kt_stepf P w L fr fk lt lh) A0 mv k (w4 (4 * k + i)).toInt.toNat
          rw [(eo _ (by omega)).2, (eo _ (by omega)).1]
          exact g7 i hi
