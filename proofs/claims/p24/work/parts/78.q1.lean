/-! ===== stands by their digits ===== -/
def kt_dg (B v p : Nat) : Nat := v / B ^ p % B
theorem kt_dv_s (B v p : Nat) : v / B ^ (p + 1) = v / B ^ p / B := by rw [Nat.pow_succ, Nat.div_div_eq_div_mul]
theorem kt_carry {B v p : Nat} (hB : 1 ≤ B) (h : (v + 1) / B ^ p = v / B ^ p + 1) : (kt_dg B v p + 1 < B → kt_dg B (v + 1) p = kt_dg B v p + 1 ∧ (v + 1) / B ^ (p + 1) = v / B ^ (p + 1)) ∧ (¬ kt_dg B v p + 1 < B → kt_dg B (v + 1) p = 0 ∧ (v + 1) / B ^ (p + 1) = v / B ^ (p + 1) + 1) := by
  unfold kt_dg
  rw [kt_dv_s, kt_dv_s, h]
  generalize v / B ^ p = x
  have hm := Nat.mod_lt x hB
  have hd := Nat.div_add_mod x B
  refine ⟨fun hlt => ?_, fun hge => ?_⟩
  · have e : x + 1 = x % B + 1 + B * (x / B) := by omega
    rw [e]
    constructor
    · rw [Nat.add_mul_mod_self_left, Nat.mod_eq_of_lt hlt]
    · rw [Nat.add_mul_div_left _ _ hB, Nat.div_eq_of_lt hlt, Nat.zero_add]
  · have e : x + 1 = B * (x / B + 1) := by
      rw [Nat.mul_add, Nat.mul_one]
      omega
    rw [e]
    exact ⟨Nat.mul_mod_right _ _, Nat.mul_div_cancel_left _ hB⟩
theorem kt_still {B v p : Nat} (h : (v + 1) / B ^ p = v / B ^ p) : ∀ k, (v + 1) / B ^ (p + k) = v / B ^ (p + k)
  | 0 => h
  | k + 1 => by
    rw [← Nat.add_assoc, kt_dv_s, kt_dv_s, kt_still h k]
theorem kt_dg_still {B v p q : Nat} (h : (v + 1) / B ^ p = v / B ^ p) (hq : p ≤ q) : kt_dg B (v + 1) q = kt_dg B v q := by
  have h1 := kt_still h (q - p)
  rw [show p + (q - p) = q by omega] at h1
  unfold kt_dg
  rw [h1]
/-- the first k pieces' digits tell a stand that counts -/
def kt_gdp (F : Int) (fr fk : Nat → Int32) (d : Nat → Int) (k : Nat) : Prop := ∀ p, p < k → d p < F → (∀ q, q < p → ¬ d q = d p) ∧ (fr (d p).toNat = 0 ∨ fk p = 2)
theorem kt_gdp.skip {F : Int} {fr fk : Nat → Int32} {d : Nat → Int} {k : Nat} (h : kt_gdp F fr fk d k) (hk : ¬ d k < F) : kt_gdp F fr fk d (k + 1) := by
  intro p hp hlt
  by_cases e : p = k
  · rw [e] at hlt; exact absurd hlt hk
  · exact h p (by omega) hlt
theorem kt_gdp.add {F : Int} {fr fk : Nat → Int32} {d : Nat → Int} {k : Nat} (h : kt_gdp F fr fk d k) (h1 : ∀ q, q < k → ¬ d q = d k) (h2 : fr (d k).toNat = 0 ∨ fk k = 2) : kt_gdp F fr fk d (k + 1) := by
  intro p hp hlt
  by_cases e : p = k
  · rw [e]; exact ⟨h1, h2⟩
  · exact h p (by omega) hlt
/-- a piece is taken off, if it is there -/
theorem kt_ST.clr {w L : Int} {P v : Nat} {ff fh : Nat → Int32} (h : kt_ST w L P ff fh) (hS : L * w ≤ 81) (hP : P ≤ 40) (hv : v < P) (q : Int32) : kt_ST w L P (upd ff v (-1)) (kt_plc fh (ff v) q (-1)) := by
  by_cases e : 0 ≤ (ff v).toInt
  · exact h.take hS hP hv e q
  · have h1 := h.1 v hv
    have e1 : ff v = -1 := (kt_eq _ _).mpr (by rw [kt_cm1]; omega)
    have e2 : upd ff v (-1) = ff := by rw [← e1]; exact kt_upd_same ff v
    have e3 : kt_plc fh (ff v) q (-1) = fh := by
      unfold kt_plc kt_off
      rw [if_neg (by decide), if_neg (by omega)]
    rw [e2, e3]
    exact h
theorem kt_ST.none {w L : Int} {P : Nat} {ff fh : Nat → Int32} (h : kt_ST w L P ff fh) (hn : ∀ q, q < P → ff q = -1) : ∀ f, f < 81 → fh f = -1 := by
  intro f hf
  by_cases e : fh f = -1
  · exact e
  · obtain ⟨q, b1, b2, b3⟩ := h.2.1 f hf e
    rw [hn q b1] at b3
    exact absurd b3.symm (kt_nIm1 (by omega))
theorem kt_ST.clear {w L : Int} {P : Nat} (h : 0 ≤ L * w) : kt_ST w L P (fun _ => -1) (fun _ => -1) := ⟨fun q _ => by show -1 ≤ (-1 : Int32).toInt ∧ (-1 : Int32).toInt ≤ L * w - 1; rw [kt_cm1]; omega, fun f _ hne => absurd rfl hne, fun q _ f hf hg => absurd hg.symm (kt_nIm1 (by omega)), fun _ _ _ => rfl⟩
theorem kt_gdp_cong {F : Int} {fr fk : Nat → Int32} {d d' : Nat → Int} {k : Nat} (h : ∀ p, p < k → d p = d' p) : kt_gdp F fr fk d k ↔ kt_gdp F fr fk d' k := by
  constructor
  · intro g p hp hlt
    rw [← h p hp] at hlt
    obtain ⟨g1, g2⟩ := g p hp hlt
    exact ⟨fun q hq => by rw [← h p hp, ← h q (by omega)]; exact g1 q hq, by rw [← h p hp]; exact g2⟩
  · intro g p hp hlt
    rw [h p hp] at hlt
    obtain ⟨g1, g2⟩ := g p hp hlt
    exact ⟨fun q hq => by rw [h p hp, h q (by omega)]; exact g1 q hq, by rw [h p hp]; exact g2⟩
/-- how many of the first n places count -/
noncomputable def kt_gc (G : Nat → Prop) : Nat → Nat
  | 0 => 0
  | n + 1 => kt_gc G n + @ite Nat (G n) (Classical.propDecidable _) 1 0
theorem kt_gc_c (G : Nat → Prop) (n : Nat) : (G n → kt_gc G (n + 1) = kt_gc G n + 1) ∧ (¬ G n → kt_gc G (n + 1) = kt_gc G n) := by
  constructor
  · intro h
    show kt_gc G n + @ite Nat (G n) (Classical.propDecidable _) 1 0 = _
    rw [if_pos h]
  · intro h
    show kt_gc G n + @ite Nat (G n) (Classical.propDecidable _) 1 0 = _
    rw [if_neg h]; rfl
theorem kt_gc_le (G : Nat → Prop) : ∀ n, kt_gc G n ≤ n
  | 0 => Nat.le_refl 0
  | n + 1 => by
    have h := kt_gc_le G n
    by_cases e : G n
    · rw [(kt_gc_c G n).1 e]; omega
    · rw [(kt_gc_c G n).2 e]; omega
/-- the reference's digits: what is left of a stand's number -/
theorem kt_dg_i {B V i : Nat} {lf d b q : Int} (hb : b = (B : Int)) (hlf : lf = ((V / B ^ i : Nat) : Int)) (hd : d = lf % b) (hq : q = lf / b) : d = ((kt_dg B V i : Nat) : Int) ∧ q = ((V / B ^ (i + 1) : Nat) : Int) := by
  subst hb
  subst hlf
  refine ⟨?_, ?_⟩
  · rw [hd]
    exact (Int.natCast_emod _ _).symm
  · rw [hq, kt_dv_s]
    exact (Int.natCast_ediv _ _).symm
/-- the reference's setUp, piece by piece -/
theorem kt_su_hit {F : Int} {fr fk g o : Nat → Int32} {d : Nat → Nat} {i : Nat} (hF : F ≤ 81) (hi : ((d i : Nat) : Int) < F) (hg : ∀ q, q < i → g q = if ((d q : Nat) : Int) < F then nI (d q) else -1) (hc : kt_con o g i) (hne : ¬ o (d i) = -1) : ¬ kt_gdp F fr fk (fun p => ((d p : Nat) : Int)) (i + 1) := by
  intro h
  obtain ⟨q, b1, b2, b3⟩ := hc (d i) (by omega) hne
  have h6 := hg q b1
  rw [b3] at h6
  have h7 := (h i (by omega) hi).1 q b1
  by_cases c : ((d q : Nat) : Int) < F
  · rw [if_pos c] at h6
    have h8 := kt_nIinj (by omega) (by omega) h6
    exact h7 (show ((d q : Nat) : Int) = ((d i : Nat) : Int) by rw [h8])
  · rw [if_neg c] at h6
    exact absurd h6 (kt_nIm1 (by omega))
theorem kt_su_new {F : Int} {o : Nat → Int32} {d : Nat → Nat} {i : Nat} (hd : ∀ q, q < i → ((d q : Nat) : Int) < F → ¬ o (d q) = -1) (ho : o (d i) = -1) (hi : ((d i : Nat) : Int) < F) : ∀ q, q < i → ¬ ((d q : Nat) : Int) = ((d i : Nat) : Int) := by
  intro q hq e
  have e1 : d q = d i := by omega
  have h := hd q hq (by omega)
  rw [e1] at h
  exact h ho
theorem kt_su_df {F : Int} {o : Nat → Int32} {d : Nat → Nat} {i T : Nat} (hd : ∀ q, q < i → ((d q : Nat) : Int) < F → ¬ o (d q) = -1) (hT : T = d i) (hi : i < 1000000000) : ∀ q, q < i + 1 → ((d q : Nat) : Int) < F → ¬ upd o T (nI i) (d q) = -1 := by
  intro q hq hl
  by_cases e : d q = T
  · rw [e, pk_us]
    exact kt_nIm1 hi
  · rw [pk_un e]
    refine hd q ?_ hl
    have h : ¬ q = i := fun h => e (by rw [h, hT])
    omega
theorem kt_su_gv {F : Int} {g : Nat → Int32} {d : Nat → Nat} {i : Nat} {x : Int32} (hg : ∀ q, q < i → g q = if ((d q : Nat) : Int) < F then nI (d q) else -1) (hx : x = if ((d i : Nat) : Int) < F then nI (d i) else -1) : ∀ q, q < i + 1 → upd g i x q = if ((d q : Nat) : Int) < F then nI (d q) else -1 := by
  intro q hq
  by_cases e : q = i
  · rw [e, pk_us]
    exact hx
  · rw [pk_un e]
    exact hg q (by omega)
theorem kt_su_coc {F : Int} {fr fk g o : Nat → Int32} {d : Nat → Nat} {P : Nat} (hF : F ≤ 81) (hP : P ≤ 40) (hg : ∀ q, q < P → g q = if ((d q : Nat) : Int) < F then nI (d q) else -1) (hd : ∀ q, q < P → ((d q : Nat) : Int) < F → ¬ o (d q) = -1) (hc : kt_con o g P) (h : kt_gdp F fr fk (fun p => ((d p : Nat) : Int)) P) : kt_coc o g P := by
  intro q hq f hf hgq
  have h1 := hg q hq
  by_cases e : ((d q : Nat) : Int) < F
  · rw [if_pos e] at h1
    rw [h1] at hgq
    have e1 := kt_nIinj (by omega) (by omega) hgq
    have h2 := hd q hq e
    rw [e1] at h2
    obtain ⟨q2, b1, b2, b3⟩ := hc f hf h2
    have h3 := hg q2 b1
    rw [b3] at h3
    by_cases e2 : ((d q2 : Nat) : Int) < F
    · rw [if_pos e2] at h3
      have e3 := kt_nIinj (by omega) (by omega) h3
      rcases Nat.lt_trichotomy q2 q with hl | hl | hl
      · exact absurd (show ((d q2 : Nat) : Int) = ((d q : Nat) : Int) by rw [← e3, e1]) ((h q hq e).1 q2 hl)
      · rw [b2, hl]
      · exact absurd (show ((d q : Nat) : Int) = ((d q2 : Nat) : Int) by rw [← e3, e1]) ((h q2 b1 e2).1 q hl)
    · rw [if_neg e2] at h3
      exact absurd h3 (kt_nIm1 (by omega))
  · rw [if_neg e] at h1
    rw [h1] at hgq
    exact absurd hgq.symm (kt_nIm1 (by omega))
theorem kt_su_sk {F : Int} {o : Nat → Int32} {d : Nat → Nat} {i : Nat} (hd : ∀ q, q < i → ((d q : Nat) : Int) < F → ¬ o (d q) = -1) (hb : ¬ ((d i : Nat) : Int) < F) : ∀ q, q < i + 1 → ((d q : Nat) : Int) < F → ¬ o (d q) = -1 := by
  intro q hq hl
  have h5 : ¬ q = i := fun h => hb (by rw [← h]; exact hl)
  exact hd q (by omega) hl
theorem kt_gc_2 (G : Nat → Prop) : ∀ k, kt_gc (fun s => G (s / 2)) (2 * k) = 2 * kt_gc G k
  | 0 => rfl
  | k + 1 => by
    have h := kt_gc_2 G k
    have e0 : 2 * k / 2 = k := by omega
    have e1 : (2 * k + 1) / 2 = k := by omega
    show kt_gc (fun s => G (s / 2)) (2 * k + 1 + 1) = _
    by_cases e : G k
    · rw [(kt_gc_c (fun s => G (s / 2)) (2 * k + 1)).1 (by show G ((2 * k + 1) / 2); rw [e1]; exact e), (kt_gc_c (fun s => G (s / 2)) (2 * k)).1 (by show G (2 * k / 2); rw [e0]; exact e), (kt_gc_c G k).1 e, h]
      omega
    · rw [(kt_gc_c (fun s => G (s / 2)) (2 * k + 1)).2 (by show ¬ G ((2 * k + 1) / 2); rw [e1]; exact e), (kt_gc_c (fun s => G (s / 2)) (2 * k)).2 (by show ¬ G (2 * k / 2); rw [e0]; exact e), (kt_gc_c G k).2 e, h]

set_option maxHeartbeats 4000000 in
set_option maxRecDepth 100000 in
theorem c_X7_setUpE (l : Launch) (D : va_G) (cI cZ cB : ClassId) (sz : Nat) (so : Nat) (ru : Nat) (tr : Nat) (lk : Nat) (vp : Nat) (vd : Nat) (vt : Nat) (vg : Nat) (vw : Nat) (ve : Nat) (vo : Nat) (vq : Nat) (qd : Int32) (pp : Int32) (ct : Int32) (sv : Int32) (la : Nat) (gr : Nat) (rk : Nat) (rs : Nat) (rt : Nat) (rv : Nat) (tt : Int32) (kg : Int32) (vc : Int32) (gt : Nat) (gg : Nat) (gn : Nat) (gs : Int32) (gm : Int32) (tf : Nat) (th : Nat) (tn : Int32) (tg : Nat → Int32) (xf : Nat → Int32) (xh : Nat → Int32) (fd : Nat → Int32) (lg : Int32) (lt : Int32) (nb : Nat → Int32) (w_ : Int) (L_ : Int) (P_ : Nat) (gl : Nat → Int32) (fk : Nat → Int32) (fs : Nat → Int32) (ft : Nat → Int32) (fr : Nat → Int32) (ck : Nat → Int32) (htt : 0 ≤ tt.toInt ∧ tt.toInt ≤ 40) (hgs : 0 ≤ gs.toInt ∧ gs.toInt ≤ 81) (hgt : kt_r tg 81 0 2) (hxf : kt_r xf 40 (-1) 80) (hxh : kt_r xh 81 (-1) 39) (hfd : kt_r fd 40 0 81) (hrx : kt_RX w_ L_ P_ tt kg gs lg lt tg gl nb fk fs ft fr ck) (hstx : kt_ST w_ L_ P_ xf xh) : kt_Mi l yX7_setUp wsX7_setUp { frames := 1, cells := 0, slots := 0, locals := 23 } D (kt_ty cI cZ cB) [.ref so] sz [(so, .inr (7, [.ref ru, .ref tr, .ref lk, .ref vp, .ref vd, .ref vt, .ref vg, .ref vw, .ref ve, .ref vo, .ref vq, .int qd, .int pp, .int ct, .int sv])), (ru, .inr (6, [.ref la, .ref gr, .ref rk, .ref rs, .ref rt, .int tt, .int kg, .ref rv, .int vc])), (gr, .inr (0, [.ref gt, .ref gg, .ref gn, .int gs, .int gm])), (gt, .inl (cI, 81, .inl tg)), (tr, .inr (8, [.ref tf, .ref th, .int tn])), (tf, .inl (cI, 40, .inl xf)), (th, .inl (cI, 81, .inl xh)), (vd, .inl (cI, 40, .inl fd))] (fun (r : Int32) (u : (Nat → Int32) × (Nat → Int32)) => kt_B r (kt_gdp (L_ * w_) fr fk (fun p => (fd p).toInt) P_) ∧ kt_ST w_ L_ P_ u.1 u.2 ∧ (r = 1 → ∀ p, p < P_ → u.1 p = (if (fd p).toInt < L_ * w_ then fd p else -1)) ∧ kt_r u.1 40 (-1) 80 ∧ kt_r u.2 81 (-1) 39) (fun (u : (Nat → Int32) × (Nat → Int32)) => [(so, .inr (7, [.ref ru, .ref tr, .ref lk, .ref vp, .ref vd, .ref vt, .ref vg, .ref vw, .ref ve, .ref vo, .ref vq, .int qd, .int pp, .int ct, .int sv])), (ru, .inr (6, [.ref la, .ref gr, .ref rk, .ref rs, .ref rt, .int tt, .int kg, .ref rv, .int vc])), (gr, .inr (0, [.ref gt, .ref gg, .ref gn, .int gs, .int gm])), (gt, .inl (cI, 81, .inl tg)), (tr, .inr (8, [.ref tf, .ref th, .int tn])), (tf, .inl (cI, 40, .inl u.1)), (th, .inl (cI, 81, .inl u.2)), (vd, .inl (cI, 40, .inl fd))]) 0 0 := by
  refine kt_Mi.of (cc := cX7_setUp) (maxL := 3) (ret := some .boolean) (by decide) rfl (Nat.le_of_ble_eq_true rfl) ?_
  intro p e s m below meth c A ls H hAt hP hD hS hl
  obtain ⟨hx, hb, hr, hml, hown, hts, hN, hK, hlk, hnm, hA⟩ := hAt
  have hl : lv_has ls 3 [(0, .ref so)] := hl
  have hown : s.vm.findClass RX7 = some m.cls := hown
  have hrx0 := hrx
  obtain ⟨hgx, hnx, htf, ⟨htP, hP40⟩, hsd_, hkq, hck, hkr⟩ := hrx
  have hgx1 := hgx.1
  have hw_ := hgx.2.1
  have hL_ := hgx.2.2
  have httP : tt.toInt = (P_ : Int) := by rw [htP, kt_nI (by omega)]
  have hsz := kt_mulb hL_ hw_
  refine lv_iconst (v := 0) hx hb dX7_setUp_0 (by decide) ?_
  refine lv_istore_n (lv' := [(1, .int 0), (0, .ref so)]) hx hb dX7_setUp_1 rfl hl (by decide) rfl (fun ls hl => ?_)
  refine kt_loop (σ := Nat × (Nat → Int32) × (Nat → Int32)) 2 3 (fun u => [(so, .inr (7, [.ref ru, .ref tr, .ref lk, .ref vp, .ref vd, .ref vt, .ref vg, .ref vw, .ref ve, .ref vo, .ref vq, .int qd, .int pp, .int ct, .int sv])), (ru, .inr (6, [.ref la, .ref gr, .ref rk, .ref rs, .ref rt, .int tt, .int kg, .ref rv, .int vc])), (gr, .inr (0, [.ref gt, .ref gg, .ref gn, .int gs, .int gm])), (gt, .inl (cI, 81, .inl tg)), (tr, .inr (8, [.ref tf, .ref th, .int tn])), (tf, .inl (cI, 40, .inl u.2.1)), (th, .inl (cI, 81, .inl u.2.2)), (vd, .inl (cI, 40, .inl fd))]) (fun u => [(1, .int (nI u.1)), (0, .ref so)]) (fun n u => (u.1 ≤ 40 ∧ 40 < u.1 + n ∧ u.1 ≤ P_) ∧ kt_r u.2.1 40 (-1) 80 ∧ kt_r u.2.2 81 (-1) 39 ∧ kt_ST w_ L_ P_ u.2.1 u.2.2 ∧ ∀ q, q < u.1 → u.2.1 q = -1) (fun u h => by omega) (fun n_2 ih_2 u hI H locs hP hD hS ls hl => ?_) (41) (0, xf, xh) (by show (0 ≤ 40 ∧ 40 < 0 + 41 ∧ 0 ≤ P_) ∧ kt_r xf 40 (-1) 80 ∧ kt_r xh 81 (-1) 39 ∧ kt_ST w_ L_ P_ xf xh ∧ ∀ q, q < 0 → xf q = -1; exact ⟨⟨by decide, by decide, by omega⟩, hxf, hxh, hstx, fun q h => absurd h (Nat.not_lt_zero q)⟩) hP hD hS (lv_sub hl [0, 1] rfl)
  obtain ⟨k, f1, f2⟩ := u
  have hP : va_P D vwCl [(so, .inr (7, [.ref ru, .ref tr, .ref lk, .ref vp, .ref vd, .ref vt, .ref vg, .ref vw, .ref ve, .ref vo, .ref vq, .int qd, .int pp, .int ct, .int sv])), (ru, .inr (6, [.ref la, .ref gr, .ref rk, .ref rs, .ref rt, .int tt, .int kg, .ref rv, .int vc])), (gr, .inr (0, [.ref gt, .ref gg, .ref gn, .int gs, .int gm])), (gt, .inl (cI, 81, .inl tg)), (tr, .inr (8, [.ref tf, .ref th, .int tn])), (tf, .inl (cI, 40, .inl f1)), (th, .inl (cI, 81, .inl f2)), (vd, .inl (cI, 40, .inl fd))] H := hP
  have hD : va_D A [(so, .inr (7, [.ref ru, .ref tr, .ref lk, .ref vp, .ref vd, .ref vt, .ref vg, .ref vw, .ref ve, .ref vo, .ref vq, .int qd, .int pp, .int ct, .int sv])), (ru, .inr (6, [.ref la, .ref gr, .ref rk, .ref rs, .ref rt, .int tt, .int kg, .ref rv, .int vc])), (gr, .inr (0, [.ref gt, .ref gg, .ref gn, .int gs, .int gm])), (gt, .inl (cI, 81, .inl tg)), (tr, .inr (8, [.ref tf, .ref th, .int tn])), (tf, .inl (cI, 40, .inl f1)), (th, .inl (cI, 81, .inl f2)), (vd, .inl (cI, 40, .inl fd))] := hD
  have hl : lv_has ls 3 [(1, .int (nI k)), (0, .ref so)] := hl
  have hI : (k ≤ 40 ∧ 40 < k + (n_2 + 1) ∧ k ≤ P_) ∧ kt_r f1 40 (-1) 80 ∧ kt_r f2 81 (-1) 39 ∧ kt_ST w_ L_ P_ f1 f2 ∧ ∀ q, q < k → f1 q = -1 := hI
  obtain ⟨hkb, hxf, hxh, hstk, hnon⟩ := hI
  have hk0 := kt_nI (n := k) (by omega)
  refine lv_iload_n hx hb dX7_setUp_2 rfl (lv_at hl 0 rfl) ?_
  refine lv_aload_n hx hb dX7_setUp_3 rfl (lv_at hl 1 rfl) ?_
  refine va_get (D := D) (ci := 7) (C := RX7) (T := TX7) (N := 15) hx hb hts iw_X7_setUp_X7 hown hK hP 0 rfl rfl 0 (by decide) (hts (.fieldLink RX7 50 "KingTable$Solver" "rules" "LKingTable$Rules;") (List.mem_cons_of_mem _ (List.mem_append_left _ (List.mem_append_left _ (List.mem_append_left _ (List.mem_append_left _ (List.Mem.head _))))))) (fun _ h9 => h9) rfl dX7_setUp_4 ?_
  refine va_getN (D := D) (ci := 6) (C := RX6) (T := TX6) (N := 9) hx hb hts iw_X7_setUp_X6 hown hK hP 1 rfl rfl 5 (by decide) (va_Nw.use (w := .fieldLinkNest RX7 73 "KingTable$Rules" "total" "I" "KingTable") rfl (hN _ (by decide +kernel))) (fun _ h9 => h9) rfl dX7_setUp_7 ?_
  refine lv_icmp_ge (tgt := 28) hx hb dX7_setUp_10 (by decide) (fun c_10 => ?_) (fun c_10 => ?_)
  · have d_10 := c_10
    simp only [kt_lt, kt_le, kt_eq, kt_c0, kt_c1, kt_c2, kt_c3, kt_c4, kt_c8, kt_c9, kt_cm1, kt_c81, kt_c40, kt_c7, kt_c5, kt_c6, kt_c512, kt_c10, kt_c10000] at d_10
    refine lv_iconst (v := 0) hx hb dX7_setUp_28 (by decide) ?_
    refine lv_istore_n (lv' := [(1, .int 0), (0, .ref so)]) hx hb dX7_setUp_29 rfl hl (by decide) rfl (fun ls hl => ?_)
    refine kt_loop (σ := Nat × (Nat → Int32) × (Nat → Int32)) 30 3 (fun u => [(so, .inr (7, [.ref ru, .ref tr, .ref lk, .ref vp, .ref vd, .ref vt, .ref vg, .ref vw, .ref ve, .ref vo, .ref vq, .int qd, .int pp, .int ct, .int sv])), (ru, .inr (6, [.ref la, .ref gr, .ref rk, .ref rs, .ref rt, .int tt, .int kg, .ref rv, .int vc])), (gr, .inr (0, [.ref gt, .ref gg, .ref gn, .int gs, .int gm])), (gt, .inl (cI, 81, .inl tg)), (tr, .inr (8, [.ref tf, .ref th, .int tn])), (tf, .inl (cI, 40, .inl u.2.1)), (th, .inl (cI, 81, .inl u.2.2)), (vd, .inl (cI, 40, .inl fd))]) (fun u => [(1, .int (nI u.1)), (0, .ref so)]) (fun n u => (u.1 ≤ 40 ∧ 40 < u.1 + n ∧ u.1 ≤ P_) ∧ kt_r u.2.1 40 (-1) 80 ∧ kt_r u.2.2 81 (-1) 39 ∧ kt_ST w_ L_ P_ u.2.1 u.2.2 ∧ (∀ q, q < u.1 → u.2.1 q = (if (fd q).toInt < L_ * w_ then fd q else -1)) ∧ (∀ q, u.1 ≤ q → q < P_ → u.2.1 q = -1) ∧ kt_gdp (L_ * w_) fr fk (fun p => (fd p).toInt) u.1) (fun u h => by omega) (fun n_30 ih_30 u hI H locs hP hD hS ls hl => ?_) (41) (0, f1, f2) (by show (0 ≤ 40 ∧ 40 < 0 + 41 ∧ 0 ≤ P_) ∧ kt_r f1 40 (-1) 80 ∧ kt_r f2 81 (-1) 39 ∧ kt_ST w_ L_ P_ f1 f2 ∧ (∀ q, q < 0 → f1 q = (if (fd q).toInt < L_ * w_ then fd q else -1)) ∧ (∀ q, 0 ≤ q → q < P_ → f1 q = -1) ∧ kt_gdp (L_ * w_) fr fk (fun p => (fd p).toInt) 0; exact ⟨⟨by decide, by decide, by omega⟩, hxf, hxh, hstk, fun q h => absurd h (Nat.not_lt_zero q), fun q _ hq => hnon q (by omega), fun p h => absurd h (Nat.not_lt_zero p)⟩) hP hD hS (lv_sub hl [0, 1] rfl)
    obtain ⟨j, h1, h2⟩ := u
    have hP : va_P D vwCl [(so, .inr (7, [.ref ru, .ref tr, .ref lk, .ref vp, .ref vd, .ref vt, .ref vg, .ref vw, .ref ve, .ref vo, .ref vq, .int qd, .int pp, .int ct, .int sv])), (ru, .inr (6, [.ref la, .ref gr, .ref rk, .ref rs, .ref rt, .int tt, .int kg, .ref rv, .int vc])), (gr, .inr (0, [.ref gt, .ref gg, .ref gn, .int gs, .int gm])), (gt, .inl (cI, 81, .inl tg)), (tr, .inr (8, [.ref tf, .ref th, .int tn])), (tf, .inl (cI, 40, .inl h1)), (th, .inl (cI, 81, .inl h2)), (vd, .inl (cI, 40, .inl fd))] H := hP
    have hD : va_D A [(so, .inr (7, [.ref ru, .ref tr, .ref lk, .ref vp, .ref vd, .ref vt, .ref vg, .ref vw, .ref ve, .ref vo, .ref vq, .int qd, .int pp, .int ct, .int sv])), (ru, .inr (6, [.ref la, .ref gr, .ref rk, .ref rs, .ref rt, .int tt, .int kg, .ref rv, .int vc])), (gr, .inr (0, [.ref gt, .ref gg, .ref gn, .int gs, .int gm])), (gt, .inl (cI, 81, .inl tg)), (tr, .inr (8, [.ref tf, .ref th, .int tn])), (tf, .inl (cI, 40, .inl h1)), (th, .inl (cI, 81, .inl h2)), (vd, .inl (cI, 40, .inl fd))] := hD
    have hl : lv_has ls 3 [(1, .int (nI j)), (0, .ref so)] := hl
    have hI : (j ≤ 40 ∧ 40 < j + (n_30 + 1) ∧ j ≤ P_) ∧ kt_r h1 40 (-1) 80 ∧ kt_r h2 81 (-1) 39 ∧ kt_ST w_ L_ P_ h1 h2 ∧ (∀ q, q < j → h1 q = (if (fd q).toInt < L_ * w_ then fd q else -1)) ∧ (∀ q, j ≤ q → q < P_ → h1 q = -1) ∧ kt_gdp (L_ * w_) fr fk (fun p => (fd p).toInt) j := hI
    obtain ⟨hjb, hxf, hxh, hstj, hlt, hle, hgd⟩ := hI
    have hj0 := kt_nI (n := j) (by omega)
    refine lv_iload_n hx hb dX7_setUp_30 rfl (lv_at hl 0 rfl) ?_
    refine lv_aload_n hx hb dX7_setUp_31 rfl (lv_at hl 1 rfl) ?_
    refine va_get (D := D) (ci := 7) (C := RX7) (T := TX7) (N := 15) hx hb hts iw_X7_setUp_X7 hown hK hP 0 rfl rfl 0 (by decide) (hts (.fieldLink RX7 50 "KingTable$Solver" "rules" "LKingTable$Rules;") (List.mem_cons_of_mem _ (List.mem_append_left _ (List.mem_append_left _ (List.mem_append_left _ (List.mem_append_left _ (List.Mem.head _))))))) (fun _ h9 => h9) rfl dX7_setUp_32 ?_
    refine va_getN (D := D) (ci := 6) (C := RX6) (T := TX6) (N := 9) hx hb hts iw_X7_setUp_X6 hown hK hP 1 rfl rfl 5 (by decide) (va_Nw.use (w := .fieldLinkNest RX7 73 "KingTable$Rules" "total" "I" "KingTable") rfl (hN _ (by decide +kernel))) (fun _ h9 => h9) rfl dX7_setUp_35 ?_
    refine lv_icmp_ge (tgt := 106) hx hb dX7_setUp_38 (by decide) (fun c_38 => ?_) (fun c_38 => ?_)
    · have d_38 := c_38
      simp only [kt_lt, kt_le, kt_eq, kt_c0, kt_c1, kt_c2, kt_c3, kt_c4, kt_c8, kt_c9, kt_cm1, kt_c81, kt_c40, kt_c7, kt_c5, kt_c6, kt_c512, kt_c10, kt_c10000] at d_38
      refine lv_iconst (v := 1) hx hb dX7_setUp_106 (by decide) ?_
      exact kt_rz (h1, h2) hx hb hr hlk hS dX7_setUp_107 hP hD (by show kt_B (1 : Int32) (kt_gdp (L_ * w_) fr fk (fun p => (fd p).toInt) P_) ∧ kt_ST w_ L_ P_ h1 h2 ∧ ((1 : Int32) = 1 → ∀ p, p < P_ → h1 p = (if (fd p).toInt < L_ * w_ then fd p else -1)) ∧ kt_r h1 40 (-1) 80 ∧ kt_r h2 81 (-1) 39; first | exact ⟨Or.inr ⟨rfl, hbad⟩, hstj, fun h => absurd h (by decide), hxf, hxh⟩ | exact ⟨Or.inl ⟨rfl, by rw [show P_ = j by omega]; exact hgd⟩, hstj, fun _ p hp => hlt p (by omega), hxf, hxh⟩) rfl
    · have d_38 := c_38
      simp only [kt_lt, kt_le, kt_eq, kt_c0, kt_c1, kt_c2, kt_c3, kt_c4, kt_c8, kt_c9, kt_cm1, kt_c81, kt_c40, kt_c7, kt_c5, kt_c6, kt_c512, kt_c10, kt_c10000] at d_38
      refine lv_aload_n hx hb dX7_setUp_41 rfl (lv_at hl 1 rfl) ?_
      refine va_get (D := D) (ci := 7) (C := RX7) (T := TX7) (N := 15) hx hb hts iw_X7_setUp_X7 hown hK hP 0 rfl rfl 4 (by decide) (hts (.fieldLink RX7 29 "KingTable$Solver" "digits" "[I") (List.mem_cons_of_mem _ (List.mem_append_left _ (List.mem_append_left _ (List.mem_append_left _ (List.mem_append_left _ (List.mem_cons_of_mem _ (List.mem_cons_of_mem _ (List.Mem.head _))))))))) (fun _ h9 => h9) rfl dX7_setUp_42 ?_
      refine lv_iload_n hx hb dX7_setUp_45 rfl (lv_at hl 0 rfl) ?_
      have hi_1 : vp_in (nI j) 40 := by exact kt_in (by omega) (by omega)
      refine va_iald hx hb hK hP 7 0 rfl rfl hi_1 dX7_setUp_46 ?_
      refine lv_topi (fun a_46 ea_46 => ?_)
      have ra_46 := hfd.get hi_1
      rw [← ea_46] at ra_46
      have e46 : a_46 = fd j := by rw [ea_46, nI_clamp (by omega)]
      have i46 := congrArg Int32.toInt e46
      refine lv_istore_n (lv' := [(2, .int a_46), (1, .int (nI j)), (0, .ref so)]) hx hb dX7_setUp_47 rfl hl (by decide) rfl (fun ls hl => ?_)
      refine lv_iload_n hx hb dX7_setUp_48 rfl (lv_at hl 0 rfl) ?_
      refine lv_aload_n hx hb dX7_setUp_49 rfl (lv_at hl 2 rfl) ?_
      refine va_get (D := D) (ci := 7) (C := RX7) (T := TX7) (N := 15) hx hb hts iw_X7_setUp_X7 hown hK hP 0 rfl rfl 0 (by decide) (hts (.fieldLink RX7 50 "KingTable$Solver" "rules" "LKingTable$Rules;") (List.mem_cons_of_mem _ (List.mem_append_left _ (List.mem_append_left _ (List.mem_append_left _ (List.mem_append_left _ (List.Mem.head _))))))) (fun _ h9 => h9) rfl dX7_setUp_50 ?_
      refine va_getN (D := D) (ci := 6) (C := RX6) (T := TX6) (N := 9) hx hb hts iw_X7_setUp_X6 hown hK hP 1 rfl rfl 1 (by decide) (va_Nw.use (w := .fieldLinkNest RX7 78 "KingTable$Rules" "ground" "LKingTable$Ground;" "KingTable") rfl (hN _ (by decide +kernel))) (fun _ h9 => h9) rfl dX7_setUp_53 ?_
      refine va_getN (D := D) (ci := 0) (C := RX0) (T := TX0) (N := 5) hx hb hts iw_X7_setUp_X0 hown hK hP 2 rfl rfl 3 (by decide) (va_Nw.use (w := .fieldLinkNest RX7 115 "KingTable$Ground" "size" "I" "KingTable") rfl (hN _ (by decide +kernel))) (fun _ h9 => h9) rfl dX7_setUp_56 ?_
      refine lv_icmp_lt (tgt := 65) hx hb dX7_setUp_59 (by decide) (fun c_59 => ?_) (fun c_59 => ?_)
      · have d_59 := c_59
        simp only [kt_lt, kt_le, kt_eq, kt_c0, kt_c1, kt_c2, kt_c3, kt_c4, kt_c8, kt_c9, kt_cm1, kt_c81, kt_c40, kt_c7, kt_c5, kt_c6, kt_c512, kt_c10, kt_c10000] at d_59
        have hltj : (fd j).toInt < L_ * w_ := by omega
        have hkk := hkq j (by omega)
        refine lv_aload_n hx hb dX7_setUp_65 rfl (lv_at hl 2 rfl) ?_
        refine va_get (D := D) (ci := 7) (C := RX7) (T := TX7) (N := 15) hx hb hts iw_X7_setUp_X7 hown hK hP 0 rfl rfl 1 (by decide) (hts (.fieldLink RX7 12 "KingTable$Solver" "trial" "LKingTable$Stand;") (List.mem_cons_of_mem _ (List.mem_append_left _ (List.mem_append_left _ (List.mem_append_left _ (List.mem_append_left _ (List.mem_cons_of_mem _ (List.Mem.head _)))))))) (fun _ h9 => h9) rfl dX7_setUp_66 ?_
        refine lv_iload_n hx hb dX7_setUp_69 rfl (lv_at hl 0 rfl) ?_
        refine kt_pi (wc := [(tr, .inr (8, [.ref tf, .ref th, .int tn])), (th, .inl (cI, 81, .inl h2))]) [4, 6] hP hD hS hA rfl (by decide) (fun hPc hDc => va_runV (As := [.int a_46]) (rest := []) ⟨hx, hb, hml, hown, hts⟩ (c_X8_holderOfE l D cI cZ cB H.size tr tf th tn h2 a_46 hxh) (cwV 1 hts gX7_setUp_X8_holderOf rfl rfl rfl (by decide +kernel) ⟨Nat.le_of_ble_eq_true rfl, Nat.le_of_ble_eq_true rfl⟩) (kt_preV hN hK hPc hDc 0 (ci := 8) (q := (RX8, TX8, 3)) rfl rfl) rfl rfl hl.1 rfl (lv_room (Nat.le_of_ble_eq_true rfl)) dX7_setUp_70 ⟨Nat.le_of_ble_eq_true rfl, Nat.le_of_ble_eq_true rfl⟩) (fun r_70 _ H locs hw_70 hP hS => ?_)
        have e70 := hw_70.1 (by omega)
        refine lv_iconst (v := (-1)) hx hb dX7_setUp_73 (by decide) ?_
        refine lv_icmp_ne (tgt := 89) hx hb dX7_setUp_74 (by decide) (fun c_74 => ?_) (fun c_74 => ?_)
        · have d_74 := c_74
          simp only [kt_lt, kt_le, kt_eq, kt_c0, kt_c1, kt_c2, kt_c3, kt_c4, kt_c8, kt_c9, kt_cm1, kt_c81, kt_c40, kt_c7, kt_c5, kt_c6, kt_c512, kt_c10, kt_c10000] at d_74
          have hbad : ¬ kt_gdp (L_ * w_) fr fk (fun p => (fd p).toInt) P_ := by
            intro hall
            obtain ⟨g1, g2⟩ := hall j (by omega) hltj
            first
            | (have hne : ¬ h2 a_46.toInt.toNat = -1 := fun h => c_74 (e70.trans h)
               obtain ⟨q, b1, b2, b3⟩ := hstj.2.1 a_46.toInt.toNat (by omega) hne
               have hqj : q < j := by
                 rcases Nat.lt_or_ge q j with h | h
                 · exact h
                 · have h5 := hle q h b1
                   rw [b3] at h5
                   exact absurd h5 (kt_nIm1 (by omega))
               have h6 := hlt q hqj
               rw [b3] at h6
               refine g1 q hqj ?_
               by_cases c : (fd q).toInt < L_ * w_
               · rw [if_pos c] at h6
                 show (fd q).toInt = (fd j).toInt
                 rw [← h6, kt_nI (by omega)]
                 omega
               · rw [if_neg c] at h6
                 exact absurd h6 (kt_nIm1 (by omega)))
            | exact (hw_83.f c_86) (g2.elim (fun h => Or.inr ⟨by omega, by omega, (htf a_46.toInt.toNat (by omega)).1.mpr (by rw [i46]; exact h)⟩) (fun h => Or.inl (hkk.mp h).symm))
          refine lv_iconst (v := 0) hx hb dX7_setUp_89 (by decide) ?_
          exact kt_rz (h1, h2) hx hb hr hlk hS dX7_setUp_90 hP hD (by show kt_B (0 : Int32) (kt_gdp (L_ * w_) fr fk (fun p => (fd p).toInt) P_) ∧ kt_ST w_ L_ P_ h1 h2 ∧ ((0 : Int32) = 1 → ∀ p, p < P_ → h1 p = (if (fd p).toInt < L_ * w_ then fd p else -1)) ∧ kt_r h1 40 (-1) 80 ∧ kt_r h2 81 (-1) 39; first | exact ⟨Or.inr ⟨rfl, hbad⟩, hstj, fun h => absurd h (by decide), hxf, hxh⟩ | exact ⟨Or.inl ⟨rfl, by rw [show P_ = j by omega]; exact hgd⟩, hstj, fun _ p hp => hlt p (by omega), hxf, hxh⟩) rfl
        · have d_74 := c_74
          simp only [kt_lt, kt_le, kt_eq, kt_c0, kt_c1, kt_c2, kt_c3, kt_c4, kt_c8, kt_c9, kt_cm1, kt_c81, kt_c40, kt_c7, kt_c5, kt_c6, kt_c512, kt_c10, kt_c10000] at d_74
          refine lv_aload_n hx hb dX7_setUp_77 rfl (lv_at hl 2 rfl) ?_
          refine va_get (D := D) (ci := 7) (C := RX7) (T := TX7) (N := 15) hx hb hts iw_X7_setUp_X7 hown hK hP 0 rfl rfl 0 (by decide) (hts (.fieldLink RX7 50 "KingTable$Solver" "rules" "LKingTable$Rules;") (List.mem_cons_of_mem _ (List.mem_append_left _ (List.mem_append_left _ (List.mem_append_left _ (List.mem_append_left _ (List.Mem.head _))))))) (fun _ h9 => h9) rfl dX7_setUp_78 ?_
          refine lv_iload_n hx hb dX7_setUp_81 rfl (lv_at hl 0 rfl) ?_
          refine lv_iload_n hx hb dX7_setUp_82 rfl (lv_at hl 1 rfl) ?_
          refine kt_pi (wc := [(ru, .inr (6, [.ref la, .ref gr, .ref rk, .ref rs, .ref rt, .int tt, .int kg, .ref rv, .int vc])), (gr, .inr (0, [.ref gt, .ref gg, .ref gn, .int gs, .int gm])), (gt, .inl (cI, 81, .inl tg))]) [1, 2, 3] hP hD hS hA rfl (by decide) (fun hPc hDc => va_runV (As := [.int a_46, .int (nI j)]) (rest := []) ⟨hx, hb, hml, hown, hts⟩ (c_X6_bearsE l D cI cZ cB H.size ru la gr rk rs rt rv tt kg vc gt gg gn gs gm tg a_46 (nI j) hgs hgt) (cwV 2 hts gX7_setUp_X6_bears rfl rfl rfl (by decide +kernel) ⟨Nat.le_of_ble_eq_true rfl, Nat.le_of_ble_eq_true rfl⟩) (kt_preV hN hK hPc hDc 0 (ci := 6) (q := (RX6, TX6, 9)) rfl rfl) rfl rfl hl.1 rfl (lv_room (Nat.le_of_ble_eq_true rfl)) dX7_setUp_83 ⟨Nat.le_of_ble_eq_true rfl, Nat.le_of_ble_eq_true rfl⟩) (fun r_83 _ H locs hw_83 hP hS => ?_)
          
          refine lv_if_ne (tgt := 91) hx hb dX7_setUp_86 (by decide) (fun c_86 => ?_) (fun c_86 => ?_)
          · have d_86 := c_86
            simp only [kt_lt, kt_le, kt_eq, kt_c0, kt_c1, kt_c2, kt_c3, kt_c4, kt_c8, kt_c9, kt_cm1, kt_c81, kt_c40, kt_c7, kt_c5, kt_c6, kt_c512, kt_c10, kt_c10000] at d_86
            have hh2 : h2 a_46.toInt.toNat = -1 := e70.symm.trans c_74
            have hnew : ∀ q, q < j → ¬ (fd q).toInt = (fd j).toInt := by
              intro q hq h5
              have h6 := hlt q hq
              rw [if_pos (by omega)] at h6
              refine hstj.2.2.1.empty hP40 (t := a_46.toInt.toNat) (by omega) hh2 q (by omega) ?_
              rw [h6, kt_nIof (x := fd q) (by omega), show (fd q).toInt.toNat = a_46.toInt.toNat by omega]
            have hbr : fr ((fun p => (fd p).toInt) j).toNat = 0 ∨ fk j = 2 := (hw_83.t c_86).elim (fun h1 => Or.inr (hkk.mpr h1.symm)) (fun h2 => Or.inl (by have h5 := (htf a_46.toInt.toNat (by omega)).1.mp h2.2.2; rw [i46] at h5; exact h5))
            have hput := hstj.put hsz.2 hP40 (v := j) (by omega) (hle j (Nat.le_refl j) (by omega)) (T := a_46) (by omega) (hstj.2.2.1.empty hP40 (t := a_46.toInt.toNat) (by omega) hh2)
            refine lv_aload_n hx hb dX7_setUp_91 rfl (lv_at hl 2 rfl) ?_
            refine va_get (D := D) (ci := 7) (C := RX7) (T := TX7) (N := 15) hx hb hts iw_X7_setUp_X7 hown hK hP 0 rfl rfl 1 (by decide) (hts (.fieldLink RX7 12 "KingTable$Solver" "trial" "LKingTable$Stand;") (List.mem_cons_of_mem _ (List.mem_append_left _ (List.mem_append_left _ (List.mem_append_left _ (List.mem_append_left _ (List.mem_cons_of_mem _ (List.Mem.head _)))))))) (fun _ h9 => h9) rfl dX7_setUp_92 ?_
            refine lv_iload_n hx hb dX7_setUp_95 rfl (lv_at hl 1 rfl) ?_
            refine lv_iload_n hx hb dX7_setUp_96 rfl (lv_at hl 0 rfl) ?_
            refine kt_bv (wc := [(tr, .inr (8, [.ref tf, .ref th, .int tn])), (tf, .inl (cI, 40, .inl h1)), (th, .inl (cI, 81, .inl h2))]) (wr := [(so, .inr (7, [.ref ru, .ref tr, .ref lk, .ref vp, .ref vd, .ref vt, .ref vg, .ref vw, .ref ve, .ref vo, .ref vq, .int qd, .int pp, .int ct, .int sv])), (ru, .inr (6, [.ref la, .ref gr, .ref rk, .ref rs, .ref rt, .int tt, .int kg, .ref rv, .int vc])), (gr, .inr (0, [.ref gt, .ref gg, .ref gn, .int gs, .int gm])), (gt, .inl (cI, 81, .inl tg)), (vd, .inl (cI, 40, .inl fd))]) [4, 5, 6] [0, 1, 2, 3, 7] hP hD hS hA rfl rfl (by decide) (by decide) (by decide) (fun hPc hDc => va_runV (As := [.int (nI j), .int a_46]) (rest := []) ⟨hx, hb, hml, hown, hts⟩ (c_X8_placeE l D cI cZ cB H.size tr tf th tn h1 h2 (nI j) a_46 hxf hxh (by omega) (by omega)) (cwV 2 hts gX7_setUp_X8_place rfl rfl rfl (by decide +kernel) ⟨Nat.le_of_ble_eq_true rfl, Nat.le_of_ble_eq_true rfl⟩) (kt_preV hN hK hPc hDc 0 (ci := 8) (q := (RX8, TX8, 3)) rfl rfl) rfl rfl hl.1 rfl (lv_room (Nat.le_of_ble_eq_true rfl)) dX7_setUp_97 ⟨Nat.le_of_ble_eq_true rfl, Nat.le_of_ble_eq_true rfl⟩) (fun u_ H locs hw_97 hP hD hS => ?_)
            obtain ⟨ff2_97, fh2_97⟩ := u_
            have hP : va_P D vwCl [(so, .inr (7, [.ref ru, .ref tr, .ref lk, .ref vp, .ref vd, .ref vt, .ref vg, .ref vw, .ref ve, .ref vo, .ref vq, .int qd, .int pp, .int ct, .int sv])), (ru, .inr (6, [.ref la, .ref gr, .ref rk, .ref rs, .ref rt, .int tt, .int kg, .ref rv, .int vc])), (gr, .inr (0, [.ref gt, .ref gg, .ref gn, .int gs, .int gm])), (gt, .inl (cI, 81, .inl tg)), (tr, .inr (8, [.ref tf, .ref th, .int tn])), (tf, .inl (cI, 40, .inl ff2_97)), (th, .inl (cI, 81, .inl fh2_97)), (vd, .inl (cI, 40, .inl fd))] H := hP.sub [0, 1, 2, 3, 5, 6, 7, 4] rfl
            have hD : va_D A [(so, .inr (7, [.ref ru, .ref tr, .ref lk, .ref vp, .ref vd, .ref vt, .ref vg, .ref vw, .ref ve, .ref vo, .ref vq, .int qd, .int pp, .int ct, .int sv])), (ru, .inr (6, [.ref la, .ref gr, .ref rk, .ref rs, .ref rt, .int tt, .int kg, .ref rv, .int vc])), (gr, .inr (0, [.ref gt, .ref gg, .ref gn, .int gs, .int gm])), (gt, .inl (cI, 81, .inl tg)), (tr, .inr (8, [.ref tf, .ref th, .int tn])), (tf, .inl (cI, 40, .inl ff2_97)), (th, .inl (cI, 81, .inl fh2_97)), (vd, .inl (cI, 40, .inl fd))] := hD.sub [0, 1, 2, 3, 5, 6, 7, 4] (by decide) rfl
            try dsimp only at hw_97
            obtain ⟨⟨hxf, hxh⟩, e97, g97⟩ := hw_97
            rw [nI_clamp (by omega)] at e97 g97
            refine lv_iinc (v := nI (j + 1)) (lv' := [(1, .int (nI (j + 1))), (2, .int a_46), (0, .ref so)]) hx hb dX7_setUp_100 hl (k := 1) rfl (nI_1 _) (by decide) rfl (fun ls hl => ?_)
            refine lv_goto (tgt := 30) hx hb dX7_setUp_103 (by decide) ?_
            exact ih_30 ((j + 1), ff2_97, fh2_97) (by show ((j + 1) ≤ 40 ∧ 40 < (j + 1) + n_30 ∧ (j + 1) ≤ P_) ∧ kt_r ff2_97 40 (-1) 80 ∧ kt_r fh2_97 81 (-1) 39 ∧ kt_ST w_ L_ P_ ff2_97 fh2_97 ∧ (∀ q, q < (j + 1) → ff2_97 q = (if (fd q).toInt < L_ * w_ then fd q else -1)) ∧ (∀ q, (j + 1) ≤ q → q < P_ → ff2_97 q = -1) ∧ kt_gdp (L_ * w_) fr fk (fun p => (fd p).toInt) (j + 1); first
                           | exact ⟨by omega, hxf, hxh, hstj, fun q hq => if e : q = j then (by rw [e, if_neg hge]; exact hle j (Nat.le_refl j) (by omega)) else hlt q (by omega), fun q hq => hle q (by omega), hgd.skip hge⟩
                           | exact ⟨by omega, hxf, hxh, by rw [e97, g97]; exact hput, fun q hq => by rw [e97]; exact if e : q = j then (by rw [e, pk_us, if_pos hltj]; exact e46) else (by rw [pk_un e]; exact hlt q (by omega)), fun q hq hq2 => by rw [e97, pk_un (by omega)]; exact hle q (by omega) hq2, hgd.add hnew hbr⟩) H _ hP hD hS ls (lv_sub hl [0, 2] rfl)
          · have d_86 := c_86
            simp only [kt_lt, kt_le, kt_eq, kt_c0, kt_c1, kt_c2, kt_c3, kt_c4, kt_c8, kt_c9, kt_cm1, kt_c81, kt_c40, kt_c7, kt_c5, kt_c6, kt_c512, kt_c10, kt_c10000] at d_86
            have hbad : ¬ kt_gdp (L_ * w_) fr fk (fun p => (fd p).toInt) P_ := by
              intro hall
              obtain ⟨g1, g2⟩ := hall j (by omega) hltj
              first
              | (have hne : ¬ h2 a_46.toInt.toNat = -1 := fun h => c_74 (e70.trans h)
                 obtain ⟨q, b1, b2, b3⟩ := hstj.2.1 a_46.toInt.toNat (by omega) hne
                 have hqj : q < j := by
                   rcases Nat.lt_or_ge q j with h | h
                   · exact h
                   · have h5 := hle q h b1
                     rw [b3] at h5
                     exact absurd h5 (kt_nIm1 (by omega))
                 have h6 := hlt q hqj
                 rw [b3] at h6
                 refine g1 q hqj ?_
                 by_cases c : (fd q).toInt < L_ * w_
                 · rw [if_pos c] at h6
                   show (fd q).toInt = (fd j).toInt
                   rw [← h6, kt_nI (by omega)]
                   omega
                 · rw [if_neg c] at h6
                   exact absurd h6 (kt_nIm1 (by omega)))
              | exact (hw_83.f c_86) (g2.elim (fun h => Or.inr ⟨by omega, by omega, (htf a_46.toInt.toNat (by omega)).1.mpr (by rw [i46]; exact h)⟩) (fun h => Or.inl (hkk.mp h).symm))
            refine lv_iconst (v := 0) hx hb dX7_setUp_89 (by decide) ?_
            exact kt_rz (h1, h2) hx hb hr hlk hS dX7_setUp_90 hP hD (by show kt_B (0 : Int32) (kt_gdp (L_ * w_) fr fk (fun p => (fd p).toInt) P_) ∧ kt_ST w_ L_ P_ h1 h2 ∧ ((0 : Int32) = 1 → ∀ p, p < P_ → h1 p = (if (fd p).toInt < L_ * w_ then fd p else -1)) ∧ kt_r h1 40 (-1) 80 ∧ kt_r h2 81 (-1) 39; first | exact ⟨Or.inr ⟨rfl, hbad⟩, hstj, fun h => absurd h (by decide), hxf, hxh⟩ | exact ⟨Or.inl ⟨rfl, by rw [show P_ = j by omega]; exact hgd⟩, hstj, fun _ p hp => hlt p (by omega), hxf, hxh⟩) rfl
      · have d_59 := c_59
        simp only [kt_lt, kt_le, kt_eq, kt_c0, kt_c1, kt_c2, kt_c3, kt_c4, kt_c8, kt_c9, kt_cm1, kt_c81, kt_c40, kt_c7, kt_c5, kt_c6, kt_c512, kt_c10, kt_c10000] at d_59
        have hge : ¬ (fd j).toInt < L_ * w_ := by omega
        refine lv_goto (tgt := 100) hx hb dX7_setUp_62 (by decide) ?_
        refine lv_iinc (v := nI (j + 1)) (lv' := [(1, .int (nI (j + 1))), (2, .int a_46), (0, .ref so)]) hx hb dX7_setUp_100 hl (k := 1) rfl (nI_1 _) (by decide) rfl (fun ls hl => ?_)
        refine lv_goto (tgt := 30) hx hb dX7_setUp_103 (by decide) ?_
        exact ih_30 ((j + 1), h1, h2) (by show ((j + 1) ≤ 40 ∧ 40 < (j + 1) + n_30 ∧ (j + 1) ≤ P_) ∧ kt_r h1 40 (-1) 80 ∧ kt_r h2 81 (-1) 39 ∧ kt_ST w_ L_ P_ h1 h2 ∧ (∀ q, q < (j + 1) → h1 q = (if (fd q).toInt < L_ * w_ then fd q else -1)) ∧ (∀ q, (j + 1) ≤ q → q < P_ → h1 q = -1) ∧ kt_gdp (L_ * w_) fr fk (fun p => (fd p).toInt) (j + 1); first
                       | exact ⟨by omega, hxf, hxh, hstj, fun q hq => if e : q = j then (by rw [e, if_neg hge]; exact hle j (Nat.le_refl j) (by omega)) else hlt q (by omega), fun q hq => hle q (by omega), hgd.skip hge⟩
                       | exact ⟨by omega, hxf, hxh, by rw [e97, g97]; exact hput, fun q hq => by rw [e97]; exact if e : q = j then (by rw [e, pk_us, if_pos hltj]; exact e46) else (by rw [pk_un e]; exact hlt q (by omega)), fun q hq hq2 => by rw [e97, pk_un (by omega)]; exact hle q (by omega) hq2, hgd.add hnew hbr⟩) H _ hP hD hS ls (lv_sub hl [0, 2] rfl)
  · have d_10 := c_10
    simp only [kt_lt, kt_le, kt_eq, kt_c0, kt_c1, kt_c2, kt_c3, kt_c4, kt_c8, kt_c9, kt_cm1, kt_c81, kt_c40, kt_c7, kt_c5, kt_c6, kt_c512, kt_c10, kt_c10000] at d_10
    refine lv_aload_n hx hb dX7_setUp_13 rfl (lv_at hl 1 rfl) ?_
    refine va_get (D := D) (ci := 7) (C := RX7) (T := TX7) (N := 15) hx hb hts iw_X7_setUp_X7 hown hK hP 0 rfl rfl 1 (by decide) (hts (.fieldLink RX7 12 "KingTable$Solver" "trial" "LKingTable$Stand;") (List.mem_cons_of_mem _ (List.mem_append_left _ (List.mem_append_left _ (List.mem_append_left _ (List.mem_append_left _ (List.mem_cons_of_mem _ (List.Mem.head _)))))))) (fun _ h9 => h9) rfl dX7_setUp_14 ?_
    refine lv_iload_n hx hb dX7_setUp_17 rfl (lv_at hl 0 rfl) ?_
    refine lv_iconst (v := (-1)) hx hb dX7_setUp_18 (by decide) ?_
    refine kt_bv (wc := [(tr, .inr (8, [.ref tf, .ref th, .int tn])), (tf, .inl (cI, 40, .inl f1)), (th, .inl (cI, 81, .inl f2))]) (wr := [(so, .inr (7, [.ref ru, .ref tr, .ref lk, .ref vp, .ref vd, .ref vt, .ref vg, .ref vw, .ref ve, .ref vo, .ref vq, .int qd, .int pp, .int ct, .int sv])), (ru, .inr (6, [.ref la, .ref gr, .ref rk, .ref rs, .ref rt, .int tt, .int kg, .ref rv, .int vc])), (gr, .inr (0, [.ref gt, .ref gg, .ref gn, .int gs, .int gm])), (gt, .inl (cI, 81, .inl tg)), (vd, .inl (cI, 40, .inl fd))]) [4, 5, 6] [0, 1, 2, 3, 7] hP hD hS hA rfl rfl (by decide) (by decide) (by decide) (fun hPc hDc => va_runV (As := [.int (nI k), .int (-1)]) (rest := []) ⟨hx, hb, hml, hown, hts⟩ (c_X8_placeE l D cI cZ cB H.size tr tf th tn f1 f2 (nI k) (-1) hxf hxh (by omega) (by decide)) (cwV 2 hts gX7_setUp_X8_place rfl rfl rfl (by decide +kernel) ⟨Nat.le_of_ble_eq_true rfl, Nat.le_of_ble_eq_true rfl⟩) (kt_preV hN hK hPc hDc 0 (ci := 8) (q := (RX8, TX8, 3)) rfl rfl) rfl rfl hl.1 rfl (lv_room (Nat.le_of_ble_eq_true rfl)) dX7_setUp_19 ⟨Nat.le_of_ble_eq_true rfl, Nat.le_of_ble_eq_true rfl⟩) (fun u_ H locs hw_19 hP hD hS => ?_)
    obtain ⟨ff2_19, fh2_19⟩ := u_
    have hP : va_P D vwCl [(so, .inr (7, [.ref ru, .ref tr, .ref lk, .ref vp, .ref vd, .ref vt, .ref vg, .ref vw, .ref ve, .ref vo, .ref vq, .int qd, .int pp, .int ct, .int sv])), (ru, .inr (6, [.ref la, .ref gr, .ref rk, .ref rs, .ref rt, .int tt, .int kg, .ref rv, .int vc])), (gr, .inr (0, [.ref gt, .ref gg, .ref gn, .int gs, .int gm])), (gt, .inl (cI, 81, .inl tg)), (tr, .inr (8, [.ref tf, .ref th, .int tn])), (tf, .inl (cI, 40, .inl ff2_19)), (th, .inl (cI, 81, .inl fh2_19)), (vd, .inl (cI, 40, .inl fd))] H := hP.sub [0, 1, 2, 3, 5, 6, 7, 4] rfl
    have hD : va_D A [(so, .inr (7, [.ref ru, .ref tr, .ref lk, .ref vp, .ref vd, .ref vt, .ref vg, .ref vw, .ref ve, .ref vo, .ref vq, .int qd, .int pp, .int ct, .int sv])), (ru, .inr (6, [.ref la, .ref gr, .ref rk, .ref rs, .ref rt, .int tt, .int kg, .ref rv, .int vc])), (gr, .inr (0, [.ref gt, .ref gg, .ref gn, .int gs, .int gm])), (gt, .inl (cI, 81, .inl tg)), (tr, .inr (8, [.ref tf, .ref th, .int tn])), (tf, .inl (cI, 40, .inl ff2_19)), (th, .inl (cI, 81, .inl fh2_19)), (vd, .inl (cI, 40, .inl fd))] := hD.sub [0, 1, 2, 3, 5, 6, 7, 4] (by decide) rfl
    try dsimp only at hw_19
    obtain ⟨⟨hxf, hxh⟩, e19, g19⟩ := hw_19
    rw [nI_clamp (by omega)] at e19 g19
    refine lv_iinc (v := nI (k + 1)) (lv' := [(1, .int (nI (k + 1))), (0, .ref so)]) hx hb dX7_setUp_22 hl (k := 0) rfl (nI_1 _) (by decide) rfl (fun ls hl => ?_)
    refine lv_goto (tgt := 2) hx hb dX7_setUp_25 (by decide) ?_
    exact ih_2 ((k + 1), ff2_19, fh2_19) (by show ((k + 1) ≤ 40 ∧ 40 < (k + 1) + n_2 ∧ (k + 1) ≤ P_) ∧ kt_r ff2_19 40 (-1) 80 ∧ kt_r fh2_19 81 (-1) 39 ∧ kt_ST w_ L_ P_ ff2_19 fh2_19 ∧ ∀ q, q < (k + 1) → ff2_19 q = -1; exact ⟨by omega, hxf, hxh, by rw [e19, g19]; exact hstk.clr hsz.2 hP40 (by omega) _, fun q hq => by rw [e19]; exact if e : q = k then (by rw [e, pk_us]) else (by rw [pk_un e]; exact hnon q (by omega))⟩) H _ hP hD hS ls (lv_sub hl [0, 1] rfl)

set_option maxHeartbeats 4000000 in
set_option maxRecDepth 100000 in
theorem c_X7_nextDigitsE (l : Launch) (D : va_G) (cI cZ cB : ClassId) (sz : Nat) (so : Nat) (ru : Nat) (tr : Nat) (lk : Nat) (vp : Nat) (vd : Nat) (vt : Nat) (vg : Nat) (vw : Nat) (ve : Nat) (vo : Nat) (vq : Nat) (qd : Int32) (pp : Int32) (ct : Int32) (sv : Int32) (la : Nat) (gr : Nat) (rk : Nat) (rs : Nat) (rt : Nat) (rv : Nat) (tt : Int32) (kg : Int32) (vc : Int32) (gt : Nat) (gg : Nat) (gn : Nat) (gs : Int32) (gm : Int32) (fd : Nat → Int32) (v_ : Nat) (htt : 0 ≤ tt.toInt ∧ tt.toInt ≤ 40) (hgs : 0 ≤ gs.toInt ∧ gs.toInt ≤ 81) (hfd : kt_r fd 40 0 81) (hdg : ∀ p : Nat, (p : Int) < tt.toInt → fd p = nI (kt_dg (gs.toInt.toNat + 1) v_ p)) : kt_Mv l yX7_nextDigits wsX7_nextDigits { frames := 0, cells := 0, slots := 0, locals := 0 } D (kt_ty cI cZ cB) [.ref so] sz [(so, .inr (7, [.ref ru, .ref tr, .ref lk, .ref vp, .ref vd, .ref vt, .ref vg, .ref vw, .ref ve, .ref vo, .ref vq, .int qd, .int pp, .int ct, .int sv])), (ru, .inr (6, [.ref la, .ref gr, .ref rk, .ref rs, .ref rt, .int tt, .int kg, .ref rv, .int vc])), (gr, .inr (0, [.ref gt, .ref gg, .ref gn, .int gs, .int gm])), (vd, .inl (cI, 40, .inl fd))] (fun (u : (Nat → Int32)) => kt_r u 40 0 81 ∧ ∀ p : Nat, (p : Int) < tt.toInt → u p = nI (kt_dg (gs.toInt.toNat + 1) (v_ + 1) p)) (fun (u : (Nat → Int32)) => [(so, .inr (7, [.ref ru, .ref tr, .ref lk, .ref vp, .ref vd, .ref vt, .ref vg, .ref vw, .ref ve, .ref vo, .ref vq, .int qd, .int pp, .int ct, .int sv])), (ru, .inr (6, [.ref la, .ref gr, .ref rk, .ref rs, .ref rt, .int tt, .int kg, .ref rv, .int vc])), (gr, .inr (0, [.ref gt, .ref gg, .ref gn, .int gs, .int gm])), (vd, .inl (cI, 40, .inl u))]) 0 0 := by
  refine kt_Mv.of (cc := cX7_nextDigits) (maxL := 2) (ret := none) (by decide) rfl (Nat.le_of_ble_eq_true rfl) ?_
  intro p e s m below meth c A ls H hAt hP hD hS hl
  obtain ⟨hx, hb, hr, hml, hown, hts, hN, hK, hlk, hnm, hA⟩ := hAt
  have hl : lv_has ls 2 [(0, .ref so)] := hl
  have hown : s.vm.findClass RX7 = some m.cls := hown
  have hBB : gs.toInt.toNat + 1 ≤ 82 := by omega
  have hdl := fun v p => Nat.mod_lt (v / (gs.toInt.toNat + 1) ^ p) (show 0 < gs.toInt.toNat + 1 by omega)
  refine lv_iconst (v := 0) hx hb dX7_nextDigits_0 (by decide) ?_
  refine lv_istore_n (lv' := [(1, .int 0), (0, .ref so)]) hx hb dX7_nextDigits_1 rfl hl (by decide) rfl (fun ls hl => ?_)
  refine kt_loop (σ := Nat × (Nat → Int32)) 2 2 (fun u => [(so, .inr (7, [.ref ru, .ref tr, .ref lk, .ref vp, .ref vd, .ref vt, .ref vg, .ref vw, .ref ve, .ref vo, .ref vq, .int qd, .int pp, .int ct, .int sv])), (ru, .inr (6, [.ref la, .ref gr, .ref rk, .ref rs, .ref rt, .int tt, .int kg, .ref rv, .int vc])), (gr, .inr (0, [.ref gt, .ref gg, .ref gn, .int gs, .int gm])), (vd, .inl (cI, 40, .inl u.2))]) (fun u => [(1, .int (nI u.1)), (0, .ref so)]) (fun n u => (u.1 ≤ 40 ∧ 40 < u.1 + n ∧ (u.1 : Int) ≤ tt.toInt) ∧ kt_r u.2 40 0 81 ∧ (∀ p, p < u.1 → u.2 p = nI (kt_dg (gs.toInt.toNat + 1) (v_ + 1) p)) ∧ (∀ p : Nat, u.1 ≤ p → (p : Int) < tt.toInt → u.2 p = nI (kt_dg (gs.toInt.toNat + 1) v_ p)) ∧ (v_ + 1) / (gs.toInt.toNat + 1) ^ u.1 = v_ / (gs.toInt.toNat + 1) ^ u.1 + 1) (fun u h => by omega) (fun n_2 ih_2 u hI H locs hP hD hS ls hl => ?_) (41) (0, fd) (by show (0 ≤ 40 ∧ 40 < 0 + 41 ∧ (0 : Int) ≤ tt.toInt) ∧ kt_r fd 40 0 81 ∧ (∀ p, p < 0 → fd p = nI (kt_dg (gs.toInt.toNat + 1) (v_ + 1) p)) ∧ (∀ p : Nat, 0 ≤ p → (p : Int) < tt.toInt → fd p = nI (kt_dg (gs.toInt.toNat + 1) v_ p)) ∧ (v_ + 1) / (gs.toInt.toNat + 1) ^ 0 = v_ / (gs.toInt.toNat + 1) ^ 0 + 1; exact ⟨⟨by decide, by decide, by omega⟩, hfd, fun p h => absurd h (Nat.not_lt_zero p), fun p _ hp => hdg p hp, by rw [Nat.pow_zero, Nat.div_one, Nat.div_one]⟩) hP hD hS (lv_sub hl [0, 1] rfl)
  obtain ⟨k, g⟩ := u
  have hP : va_P D vwCl [(so, .inr (7, [.ref ru, .ref tr, .ref lk, .ref vp, .ref vd, .ref vt, .ref vg, .ref vw, .ref ve, .ref vo, .ref vq, .int qd, .int pp, .int ct, .int sv])), (ru, .inr (6, [.ref la, .ref gr, .ref rk, .ref rs, .ref rt, .int tt, .int kg, .ref rv, .int vc])), (gr, .inr (0, [.ref gt, .ref gg, .ref gn, .int gs, .int gm])), (vd, .inl (cI, 40, .inl g))] H := hP
  have hD : va_D A [(so, .inr (7, [.ref ru, .ref tr, .ref lk, .ref vp, .ref vd, .ref vt, .ref vg, .ref vw, .ref ve, .ref vo, .ref vq, .int qd, .int pp, .int ct, .int sv])), (ru, .inr (6, [.ref la, .ref gr, .ref rk, .ref rs, .ref rt, .int tt, .int kg, .ref rv, .int vc])), (gr, .inr (0, [.ref gt, .ref gg, .ref gn, .int gs, .int gm])), (vd, .inl (cI, 40, .inl g))] := hD
  have hl : lv_has ls 2 [(1, .int (nI k)), (0, .ref so)] := hl
  have hI : (k ≤ 40 ∧ 40 < k + (n_2 + 1) ∧ (k : Int) ≤ tt.toInt) ∧ kt_r g 40 0 81 ∧ (∀ p, p < k → g p = nI (kt_dg (gs.toInt.toNat + 1) (v_ + 1) p)) ∧ (∀ p : Nat, k ≤ p → (p : Int) < tt.toInt → g p = nI (kt_dg (gs.toInt.toNat + 1) v_ p)) ∧ (v_ + 1) / (gs.toInt.toNat + 1) ^ k = v_ / (gs.toInt.toNat + 1) ^ k + 1 := hI
  obtain ⟨hkb, hg, hlo, hhi, hca⟩ := hI
  have hk0 := kt_nI (n := k) (by omega)
  have hcr := kt_carry (by omega) hca
  refine lv_iload_n hx hb dX7_nextDigits_2 rfl (lv_at hl 0 rfl) ?_
  refine lv_aload_n hx hb dX7_nextDigits_3 rfl (lv_at hl 1 rfl) ?_
  refine va_get (D := D) (ci := 7) (C := RX7) (T := TX7) (N := 15) hx hb hts iw_X7_nextDigits_X7 hown hK hP 0 rfl rfl 0 (by decide) (hts (.fieldLink RX7 50 "KingTable$Solver" "rules" "LKingTable$Rules;") (List.mem_cons_of_mem _ (List.mem_append_left _ (List.mem_append_left _ (List.mem_append_left _ (List.Mem.head _)))))) (fun _ h9 => h9) rfl dX7_nextDigits_4 ?_
  refine va_getN (D := D) (ci := 6) (C := RX6) (T := TX6) (N := 9) hx hb hts iw_X7_nextDigits_X6 hown hK hP 1 rfl rfl 5 (by decide) (va_Nw.use (w := .fieldLinkNest RX7 73 "KingTable$Rules" "total" "I" "KingTable") rfl (hN _ (by decide +kernel))) (fun _ h9 => h9) rfl dX7_nextDigits_7 ?_
  refine lv_icmp_ge (tgt := 56) hx hb dX7_nextDigits_10 (by decide) (fun c_10 => ?_) (fun c_10 => ?_)
  · have d_10 := c_10
    simp only [kt_lt, kt_le, kt_eq, kt_c0, kt_c1, kt_c2, kt_c3, kt_c4, kt_c8, kt_c9, kt_cm1, kt_c81, kt_c40, kt_c7, kt_c5, kt_c6, kt_c512, kt_c10, kt_c10000] at d_10
    exact kt_rv g hx hb hr hlk hS dX7_nextDigits_56 hP hD (by show kt_r g 40 0 81 ∧ ∀ p : Nat, (p : Int) < tt.toInt → g p = nI (kt_dg (gs.toInt.toNat + 1) (v_ + 1) p); first
         | exact ⟨hg, fun p hp => hlo p (by omega)⟩
         | (rw [nI_clamp (by omega)]; exact ⟨hg.upd (by omega) (by omega), fun p hp => if e : p = k then (by rw [e, pk_us]; exact e21) else (by rw [pk_un e]; exact if e2 : p < k then hlo p e2 else (by rw [kt_dg_still (hcr.1 hsm).2 (show k + 1 ≤ p by omega)]; exact hhi p (by omega) hp))⟩))
  · have d_10 := c_10
    simp only [kt_lt, kt_le, kt_eq, kt_c0, kt_c1, kt_c2, kt_c3, kt_c4, kt_c8, kt_c9, kt_cm1, kt_c81, kt_c40, kt_c7, kt_c5, kt_c6, kt_c512, kt_c10, kt_c10000] at d_10
    refine lv_aload_n hx hb dX7_nextDigits_13 rfl (lv_at hl 1 rfl) ?_
    refine va_get (D := D) (ci := 7) (C := RX7) (T := TX7) (N := 15) hx hb hts iw_X7_nextDigits_X7 hown hK hP 0 rfl rfl 4 (by decide) (hts (.fieldLink RX7 29 "KingTable$Solver" "digits" "[I") (List.mem_cons_of_mem _ (List.mem_append_left _ (List.mem_append_left _ (List.mem_append_left _ (List.mem_cons_of_mem _ (List.Mem.head _))))))) (fun _ h9 => h9) rfl dX7_nextDigits_14 ?_
    refine lv_iload_n hx hb dX7_nextDigits_17 rfl (lv_at hl 0 rfl) ?_
    refine lv_dup2_11 hx hb dX7_nextDigits_18 rfl rfl ?_
    have hi_1 : vp_in (nI k) 40 := by exact kt_in (by omega) (by omega)
    refine va_iald hx hb hK hP 3 0 rfl rfl hi_1 dX7_nextDigits_19 ?_
    refine lv_topi (fun a_19 ea_19 => ?_)
    have ra := hg.get hi_1
    rw [← ea_19] at ra
    have e19 : a_19 = nI (kt_dg (gs.toInt.toNat + 1) v_ k) := by rw [ea_19, nI_clamp (by omega)]; exact hhi k (Nat.le_refl k) (by omega)
    have hdk := hdl v_ k
    have i19 : a_19.toInt = ((kt_dg (gs.toInt.toNat + 1) v_ k : Nat) : Int) := by rw [e19, kt_nI (by show kt_dg (gs.toInt.toNat + 1) v_ k < 1000000000; unfold kt_dg; omega)]
    refine lv_iconst (v := 1) hx hb dX7_nextDigits_20 (by decide) ?_
    refine lv_iadd hx hb dX7_nextDigits_21 ?_
    refine lv_topi (fun t_21 et_21 => ?_)
    first | have hk_21 := kt_addx et_21 (by first | omega | (simp only [kt_c0, kt_c1, kt_c2, kt_c3, kt_c4, kt_c8, kt_c9, kt_cm1, kt_c81, kt_c40, kt_c7, kt_c5, kt_c6, kt_c512, kt_c10, kt_c10000]; omega)) (by first | omega | (simp only [kt_c0, kt_c1, kt_c2, kt_c3, kt_c4, kt_c8, kt_c9, kt_cm1, kt_c81, kt_c40, kt_c7, kt_c5, kt_c6, kt_c512, kt_c10, kt_c10000]; omega)) | obtain ⟨k_21, hk_21, hm_21, hM_21⟩ := kt_addk et_21
    try simp only [kt_c0, kt_c1, kt_c2, kt_c3, kt_c4, kt_c8, kt_c9, kt_cm1, kt_c81, kt_c40, kt_c7, kt_c5, kt_c6, kt_c512, kt_c10, kt_c10000] at hk_21
    have hi_2 : vp_in (nI k) 40 := by exact kt_in (by omega) (by omega)
    refine va_iast hx hb hK hP hD hS 3 0 rfl rfl hi_2 dX7_nextDigits_22 (fun H locs hP hD hS => ?_)
    have hP : va_P D vwCl [(so, .inr (7, [.ref ru, .ref tr, .ref lk, .ref vp, .ref vd, .ref vt, .ref vg, .ref vw, .ref ve, .ref vo, .ref vq, .int qd, .int pp, .int ct, .int sv])), (ru, .inr (6, [.ref la, .ref gr, .ref rk, .ref rs, .ref rt, .int tt, .int kg, .ref rv, .int vc])), (gr, .inr (0, [.ref gt, .ref gg, .ref gn, .int gs, .int gm])), (vd, .inl (cI, 40, .inl (upd g (nI k).toNatClampNeg t_21)))] H := hP
    have hD : va_D A [(so, .inr (7, [.ref ru, .ref tr, .ref lk, .ref vp, .ref vd, .ref vt, .ref vg, .ref vw, .ref ve, .ref vo, .ref vq, .int qd, .int pp, .int ct, .int sv])), (ru, .inr (6, [.ref la, .ref gr, .ref rk, .ref rs, .ref rt, .int tt, .int kg, .ref rv, .int vc])), (gr, .inr (0, [.ref gt, .ref gg, .ref gn, .int gs, .int gm])), (vd, .inl (cI, 40, .inl (upd g (nI k).toNatClampNeg t_21)))] := hD
    refine lv_aload_n hx hb dX7_nextDigits_23 rfl (lv_at hl 1 rfl) ?_
    refine va_get (D := D) (ci := 7) (C := RX7) (T := TX7) (N := 15) hx hb hts iw_X7_nextDigits_X7 hown hK hP 0 rfl rfl 4 (by decide) (hts (.fieldLink RX7 29 "KingTable$Solver" "digits" "[I") (List.mem_cons_of_mem _ (List.mem_append_left _ (List.mem_append_left _ (List.mem_append_left _ (List.mem_cons_of_mem _ (List.Mem.head _))))))) (fun _ h9 => h9) rfl dX7_nextDigits_24 ?_
    refine lv_iload_n hx hb dX7_nextDigits_27 rfl (lv_at hl 0 rfl) ?_
    have hi_3 : vp_in (nI k) 40 := by exact kt_in (by omega) (by omega)
    refine va_iald hx hb hK hP 3 0 rfl rfl hi_3 dX7_nextDigits_28 ?_
    refine lv_topi (fun a_28 ea_28 => ?_)
    rw [pk_us] at ea_28
    have ha28 := congrArg Int32.toInt ea_28
    refine lv_aload_n hx hb dX7_nextDigits_29 rfl (lv_at hl 1 rfl) ?_
    refine va_get (D := D) (ci := 7) (C := RX7) (T := TX7) (N := 15) hx hb hts iw_X7_nextDigits_X7 hown hK hP 0 rfl rfl 0 (by decide) (hts (.fieldLink RX7 50 "KingTable$Solver" "rules" "LKingTable$Rules;") (List.mem_cons_of_mem _ (List.mem_append_left _ (List.mem_append_left _ (List.mem_append_left _ (List.Mem.head _)))))) (fun _ h9 => h9) rfl dX7_nextDigits_30 ?_
    refine va_getN (D := D) (ci := 6) (C := RX6) (T := TX6) (N := 9) hx hb hts iw_X7_nextDigits_X6 hown hK hP 1 rfl rfl 1 (by decide) (va_Nw.use (w := .fieldLinkNest RX7 78 "KingTable$Rules" "ground" "LKingTable$Ground;" "KingTable") rfl (hN _ (by decide +kernel))) (fun _ h9 => h9) rfl dX7_nextDigits_33 ?_
    refine va_getN (D := D) (ci := 0) (C := RX0) (T := TX0) (N := 5) hx hb hts iw_X7_nextDigits_X0 hown hK hP 2 rfl rfl 3 (by decide) (va_Nw.use (w := .fieldLinkNest RX7 115 "KingTable$Ground" "size" "I" "KingTable") rfl (hN _ (by decide +kernel))) (fun _ h9 => h9) rfl dX7_nextDigits_36 ?_
    refine lv_icmp_gt (tgt := 43) hx hb dX7_nextDigits_39 (by decide) (fun c_39 => ?_) (fun c_39 => ?_)
    · have d_39 := c_39
      simp only [kt_lt, kt_le, kt_eq, kt_c0, kt_c1, kt_c2, kt_c3, kt_c4, kt_c8, kt_c9, kt_cm1, kt_c81, kt_c40, kt_c7, kt_c5, kt_c6, kt_c512, kt_c10, kt_c10000] at d_39
      have hbig : ¬ kt_dg (gs.toInt.toNat + 1) v_ k + 1 < gs.toInt.toNat + 1 := by omega
      refine lv_aload_n hx hb dX7_nextDigits_43 rfl (lv_at hl 1 rfl) ?_
      refine va_get (D := D) (ci := 7) (C := RX7) (T := TX7) (N := 15) hx hb hts iw_X7_nextDigits_X7 hown hK hP 0 rfl rfl 4 (by decide) (hts (.fieldLink RX7 29 "KingTable$Solver" "digits" "[I") (List.mem_cons_of_mem _ (List.mem_append_left _ (List.mem_append_left _ (List.mem_append_left _ (List.mem_cons_of_mem _ (List.Mem.head _))))))) (fun _ h9 => h9) rfl dX7_nextDigits_44 ?_
      refine lv_iload_n hx hb dX7_nextDigits_47 rfl (lv_at hl 0 rfl) ?_
      refine lv_iconst (v := 0) hx hb dX7_nextDigits_48 (by decide) ?_
      have hi_4 : vp_in (nI k) 40 := by exact kt_in (by omega) (by omega)
      refine va_iast hx hb hK hP hD hS 3 0 rfl rfl hi_4 dX7_nextDigits_49 (fun H locs hP hD hS => ?_)
      have hP : va_P D vwCl [(so, .inr (7, [.ref ru, .ref tr, .ref lk, .ref vp, .ref vd, .ref vt, .ref vg, .ref vw, .ref ve, .ref vo, .ref vq, .int qd, .int pp, .int ct, .int sv])), (ru, .inr (6, [.ref la, .ref gr, .ref rk, .ref rs, .ref rt, .int tt, .int kg, .ref rv, .int vc])), (gr, .inr (0, [.ref gt, .ref gg, .ref gn, .int gs, .int gm])), (vd, .inl (cI, 40, .inl (upd (upd g (nI k).toNatClampNeg t_21) (nI k).toNatClampNeg 0)))] H := hP
      have hD : va_D A [(so, .inr (7, [.ref ru, .ref tr, .ref lk, .ref vp, .ref vd, .ref vt, .ref vg, .ref vw, .ref ve, .ref vo, .ref vq, .int qd, .int pp, .int ct, .int sv])), (ru, .inr (6, [.ref la, .ref gr, .ref rk, .ref rs, .ref rt, .int tt, .int kg, .ref rv, .int vc])), (gr, .inr (0, [.ref gt, .ref gg, .ref gn, .int gs, .int gm])), (vd, .inl (cI, 40, .inl (upd (upd g (nI k).toNatClampNeg t_21) (nI k).toNatClampNeg 0)))] := hD
      refine lv_iinc (v := nI (k + 1)) (lv' := [(1, .int (nI (k + 1))), (0, .ref so)]) hx hb dX7_nextDigits_50 hl (k := 0) rfl (nI_1 _) (by decide) rfl (fun ls hl => ?_)
      refine lv_goto (tgt := 2) hx hb dX7_nextDigits_53 (by decide) ?_
      exact ih_2 ((k + 1), (upd (upd g (nI k).toNatClampNeg t_21) (nI k).toNatClampNeg 0)) (by show ((k + 1) ≤ 40 ∧ 40 < (k + 1) + n_2 ∧ ((k + 1) : Int) ≤ tt.toInt) ∧ kt_r (upd (upd g (nI k).toNatClampNeg t_21) (nI k).toNatClampNeg 0) 40 0 81 ∧ (∀ p, p < (k + 1) → (upd (upd g (nI k).toNatClampNeg t_21) (nI k).toNatClampNeg 0) p = nI (kt_dg (gs.toInt.toNat + 1) (v_ + 1) p)) ∧ (∀ p : Nat, (k + 1) ≤ p → (p : Int) < tt.toInt → (upd (upd g (nI k).toNatClampNeg t_21) (nI k).toNatClampNeg 0) p = nI (kt_dg (gs.toInt.toNat + 1) v_ p)) ∧ (v_ + 1) / (gs.toInt.toNat + 1) ^ (k + 1) = v_ / (gs.toInt.toNat + 1) ^ (k + 1) + 1; rw [fa_upd_twice_, nI_clamp (by omega)]; exact ⟨by omega, hg.upd (by decide) (by decide), fun p hp => if e : p = k then (by rw [e, pk_us, (hcr.2 hbig).1]; rfl) else (by rw [pk_un e]; exact hlo p (by omega)), fun p hp hp2 => by rw [pk_un (by omega)]; exact hhi p (by omega) hp2, (hcr.2 hbig).2⟩) H _ hP hD hS ls (lv_sub hl [0, 1] rfl)
    · have d_39 := c_39
      simp only [kt_lt, kt_le, kt_eq, kt_c0, kt_c1, kt_c2, kt_c3, kt_c4, kt_c8, kt_c9, kt_cm1, kt_c81, kt_c40, kt_c7, kt_c5, kt_c6, kt_c512, kt_c10, kt_c10000] at d_39
      have hsm : kt_dg (gs.toInt.toNat + 1) v_ k + 1 < gs.toInt.toNat + 1 := by omega
      have e21 : t_21 = nI (kt_dg (gs.toInt.toNat + 1) (v_ + 1) k) := by rw [(hcr.1 hsm).1]; exact (kt_eq _ _).mpr (by rw [kt_nI (by omega)]; omega)
      exact kt_rv (upd g (nI k).toNatClampNeg t_21) hx hb hr hlk hS dX7_nextDigits_42 hP hD (by show kt_r (upd g (nI k).toNatClampNeg t_21) 40 0 81 ∧ ∀ p : Nat, (p : Int) < tt.toInt → (upd g (nI k).toNatClampNeg t_21) p = nI (kt_dg (gs.toInt.toNat + 1) (v_ + 1) p); first
           | exact ⟨hg, fun p hp => hlo p (by omega)⟩
           | (rw [nI_clamp (by omega)]; exact ⟨hg.upd (by omega) (by omega), fun p hp => if e : p = k then (by rw [e, pk_us]; exact e21) else (by rw [pk_un e]; exact if e2 : p < k then hlo p e2 else (by rw [kt_dg_still (hcr.1 hsm).2 (show k + 1 ≤ p by omega)]; exact hhi p (by omega) hp))⟩))
