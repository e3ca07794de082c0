def kt_LI (s : State) (D : va_G) (cI cZ cB : ClassId) (tc kt mx cells slots : Nat) (H : Heap) : Prop := ∃ (to : Nat) (sg : Nat) (la : Nat) (ru : Nat) (gr : Nat) (gt : Nat) (gg : Nat) (gn : Nat) (rk : Nat) (rs : Nat) (rt : Nat) (rv : Nat) (pl : Nat) (nw : Nat) (sf : Nat) (sh : Nat) (lo : Nat) (l0 : Nat) (l1 : Nat) (l2 : Nat) (l3 : Nat) (l4 : Nat) (l5 : Nat) (l6 : Nat) (ho : Nat) (ora : Nat) (osa : Nat) (so : Nat) (tr : Nat) (tf : Nat) (th : Nat) (lk : Nat) (vp : Nat) (vd : Nat) (vt : Nat) (vg : Nat) (vw : Nat) (LW : Nat) (ve : Nat) (vo : Nat) (vq : Nat) (kh : Nat) (LH : Nat) (ks : Nat) (LS : Nat) (kx : Nat) (ms : Nat) (mk : Nat) (ma : Nat) (mo : Nat) (mg : Nat) (mm : Nat) (mt : Nat) (mn : Nat) (me : Nat) (mq : Nat) (mwo : Nat) (md : Nat) (mf : Nat) (mr : Nat) (ln : Int32) (wd : Int32) (lg : Int32) (lh : Int32) (lt : Int32) (lr : Int32) (lc : Int32) (tt : Int32) (kg : Int32) (vc : Int32) (gs : Int32) (gm : Int32) (st : Int32) (tu : Int32) (dn : Int32) (kn : Int32) (qd : Int32) (pp : Int32) (ct : Int32) (sv : Int32) (tn : Int32) (us : Int32) (mho : Int32) (mpc : Int32) (msd : Int32) (mki : Int32) (mdn : Int32) (mun : Int32) (mtk : Int32) (msv : Int32) (fg : Nat → Int32) (tg : Nat → Int32) (gl : Nat → Int32) (nb : Nat → Int32) (fk : Nat → Int32) (fs : Nat → Int32) (ft : Nat → Int32) (fv : Nat → Int32) (ff : Nat → Int32) (fh : Nat → Int32) (m0 : Nat → Int32) (m1 : Nat → Int32) (m2 : Nat → Int32) (m3 : Nat → Int32) (m4 : Nat → Int32) (m5 : Nat → Int32) (m6 : Nat → Int32) (fr : Nat → Int32) (fz : Nat → Int32) (xf : Nat → Int32) (xh : Nat → Int32) (fp : Nat → Int32) (fd : Nat → Int32) (ta : Nat → Int32) (ga : Nat → Int32) (wo : Nat → Int32) (de : Nat → Int32) (op : Nat → Int32) (qu : Nat → Int32) (he : Nat → Int32) (sr : Nat → Int32) (ne : Nat → Int32) (zk : Nat → Int32) (za : Nat → Int32) (zo : Nat → Int32) (zg : Nat → Int32) (zm : Nat → Int32) (zt : Nat → Int32) (zn : Nat → Int32) (ze : Nat → Int32) (zq : Nat → Int32) (zw : Nat → Int32) (zd : Nat → Int32) (zf : Nat → Int32) (zr : Nat → Int32) (PN : Nat), va_P D vwCl [(kt, .inr (10, [.ref to, .ref la, .ref ru, .ref pl, .ref ho, .ref so])), (to, .inr (9, [.ref sg, .int ln, .int wd])), (sg, .inl (cI, 81, .inl fg)), (la, .inr (1, [.int lg, .int lh, .int lt, .int lr, .int lc])), (ru, .inr (6, [.ref la, .ref gr, .ref rk, .ref rs, .ref rt, .int tt, .int kg, .ref rv, .int vc])), (gr, .inr (0, [.ref gt, .ref gg, .ref gn, .int gs, .int gm])), (gt, .inl (cI, 81, .inl tg)), (gg, .inl (cZ, 81, .inl gl)), (gn, .inl (cI, 324, .inl nb)), (rk, .inl (cI, 40, .inl fk)), (rs, .inl (cI, 40, .inl fs)), (rt, .inl (cZ, 40, .inl ft)), (rv, .inl (cI, 4, .inl fv)), (pl, .inr (4, [.ref la, .ref ru, .ref nw, .ref lo, .int st])), (nw, .inr (8, [.ref sf, .ref sh, .int tu])), (sf, .inl (cI, 40, .inl ff)), (sh, .inl (cI, 81, .inl fh)), (lo, .inr (3, [.ref l0, .ref l1, .ref l2, .ref l3, .ref l4, .ref l5, .ref l6, .int dn, .int kn])), (l0, .inl (cI, 512, .inl m0)), (l1, .inl (cI, 512, .inl m1)), (l2, .inl (cI, 512, .inl m2)), (l3, .inl (cI, 512, .inl m3)), (l4, .inl (cI, 2048, .inl m4)), (l5, .inl (cI, 2048, .inl m5)), (l6, .inl (cI, 40, .inl m6)), (ho, .inr (5, [.ref ru, .ref ora, .ref osa])), (ora, .inl (cI, 81, .inl fr)), (osa, .inl (cZ, 81, .inl fz)), (so, .inr (7, [.ref ru, .ref tr, .ref lk, .ref vp, .ref vd, .ref vt, .ref vg, .ref vw, .ref ve, .ref vo, .ref vq, .int qd, .int pp, .int ct, .int sv])), (tr, .inr (8, [.ref tf, .ref th, .int tn])), (tf, .inl (cI, 40, .inl xf)), (th, .inl (cI, 81, .inl xh)), (lk, .inr (2, [.ref kh, .ref ks, .ref kx, .int us])), (vp, .inl (cI, 40, .inl fp)), (vd, .inl (cI, 40, .inl fd)), (vt, .inl (cI, 6, .inl ta)), (vg, .inl (cI, 2, .inl ga)), (vw, .inl (cI, LW, .inl wo)), (ve, .inl (cI, LW, .inl de)), (vo, .inl (cI, LW, .inl op)), (vq, .inl (cI, LW, .inl qu)), (kh, .inl (cI, LH, .inl he)), (ks, .inl (cI, LS, .inl sr)), (kx, .inl (cI, LS, .inl ne)), (mx, .inr (11, [.int ln, .int wd, .ref ms, .int lg, .int lh, .int lr, .int lc, .int lt, .int mho, .int mpc, .int msd, .int mki, .ref mk, .ref ma, .ref mo, .ref mg, .ref mm, .ref mt, .int mdn, .int mun, .ref mn, .int mtk, .ref me, .ref mq, .int msv, .ref mwo, .ref md, .ref mf, .ref mr])), (ms, .inl (cI, 81, .inl fg)), (mk, .inl (cI, 40, .inl zk)), (ma, .inl (cI, 40, .inl za)), (mo, .inl (cI, 81, .inl zo)), (mg, .inl (cI, 81, .inl zg)), (mm, .inl (cI, 4200, .inl zm)), (mt, .inl (cB, 172241, .inl zt)), (mn, .inl (cZ, 40, .inl zn)), (me, .inl (cZ, 81, .inl ze)), (mq, .inl (cI, 81, .inl zq)), (mwo, .inl (cI, 10000, .inl zw)), (md, .inl (cI, 10000, .inl zd)), (mf, .inl (cI, 10000, .inl zf)), (mr, .inl (cI, 10000, .inl zr))] H ∧ va_D (fun q : Nat => s.heap.size ≤ q) [(kt, .inr (10, [.ref to, .ref la, .ref ru, .ref pl, .ref ho, .ref so])), (to, .inr (9, [.ref sg, .int ln, .int wd])), (sg, .inl (cI, 81, .inl fg)), (la, .inr (1, [.int lg, .int lh, .int lt, .int lr, .int lc])), (ru, .inr (6, [.ref la, .ref gr, .ref rk, .ref rs, .ref rt, .int tt, .int kg, .ref rv, .int vc])), (gr, .inr (0, [.ref gt, .ref gg, .ref gn, .int gs, .int gm])), (gt, .inl (cI, 81, .inl tg)), (gg, .inl (cZ, 81, .inl gl)), (gn, .inl (cI, 324, .inl nb)), (rk, .inl (cI, 40, .inl fk)), (rs, .inl (cI, 40, .inl fs)), (rt, .inl (cZ, 40, .inl ft)), (rv, .inl (cI, 4, .inl fv)), (pl, .inr (4, [.ref la, .ref ru, .ref nw, .ref lo, .int st])), (nw, .inr (8, [.ref sf, .ref sh, .int tu])), (sf, .inl (cI, 40, .inl ff)), (sh, .inl (cI, 81, .inl fh)), (lo, .inr (3, [.ref l0, .ref l1, .ref l2, .ref l3, .ref l4, .ref l5, .ref l6, .int dn, .int kn])), (l0, .inl (cI, 512, .inl m0)), (l1, .inl (cI, 512, .inl m1)), (l2, .inl (cI, 512, .inl m2)), (l3, .inl (cI, 512, .inl m3)), (l4, .inl (cI, 2048, .inl m4)), (l5, .inl (cI, 2048, .inl m5)), (l6, .inl (cI, 40, .inl m6)), (ho, .inr (5, [.ref ru, .ref ora, .ref osa])), (ora, .inl (cI, 81, .inl fr)), (osa, .inl (cZ, 81, .inl fz)), (so, .inr (7, [.ref ru, .ref tr, .ref lk, .ref vp, .ref vd, .ref vt, .ref vg, .ref vw, .ref ve, .ref vo, .ref vq, .int qd, .int pp, .int ct, .int sv])), (tr, .inr (8, [.ref tf, .ref th, .int tn])), (tf, .inl (cI, 40, .inl xf)), (th, .inl (cI, 81, .inl xh)), (lk, .inr (2, [.ref kh, .ref ks, .ref kx, .int us])), (vp, .inl (cI, 40, .inl fp)), (vd, .inl (cI, 40, .inl fd)), (vt, .inl (cI, 6, .inl ta)), (vg, .inl (cI, 2, .inl ga)), (vw, .inl (cI, LW, .inl wo)), (ve, .inl (cI, LW, .inl de)), (vo, .inl (cI, LW, .inl op)), (vq, .inl (cI, LW, .inl qu)), (kh, .inl (cI, LH, .inl he)), (ks, .inl (cI, LS, .inl sr)), (kx, .inl (cI, LS, .inl ne)), (mx, .inr (11, [.int ln, .int wd, .ref ms, .int lg, .int lh, .int lr, .int lc, .int lt, .int mho, .int mpc, .int msd, .int mki, .ref mk, .ref ma, .ref mo, .ref mg, .ref mm, .ref mt, .int mdn, .int mun, .ref mn, .int mtk, .ref me, .ref mq, .int msv, .ref mwo, .ref md, .ref mf, .ref mr])), (ms, .inl (cI, 81, .inl fg)), (mk, .inl (cI, 40, .inl zk)), (ma, .inl (cI, 40, .inl za)), (mo, .inl (cI, 81, .inl zo)), (mg, .inl (cI, 81, .inl zg)), (mm, .inl (cI, 4200, .inl zm)), (mt, .inl (cB, 172241, .inl zt)), (mn, .inl (cZ, 40, .inl zn)), (me, .inl (cZ, 81, .inl ze)), (mq, .inl (cI, 81, .inl zq)), (mwo, .inl (cI, 10000, .inl zw)), (md, .inl (cI, 10000, .inl zd)), (mf, .inl (cI, 10000, .inl zf)), (mr, .inl (cI, 10000, .inl zr))] ∧ (cells ≤ 59 + 7 * tc) ∧ (slots ≤ 224432 + 5 * kt_F 10000 LW + 2 * kt_F 118300 LS) ∧ (2 ≤ ln.toInt ∧ ln.toInt ≤ 9) ∧ (2 ≤ wd.toInt ∧ wd.toInt ≤ 9) ∧ (kt_r fg 81 0 7) ∧ (0 ≤ lr.toInt ∧ lr.toInt ≤ 8) ∧ (0 ≤ gs.toInt ∧ gs.toInt ≤ 81) ∧ (kt_r tg 81 0 2) ∧ (kt_r gl 81 0 1) ∧ (kt_r nb 324 (-1) 80) ∧ (0 ≤ tt.toInt ∧ tt.toInt ≤ 40) ∧ (-1 ≤ kg.toInt ∧ kg.toInt ≤ 39) ∧ (0 ≤ vc.toInt ∧ vc.toInt ≤ 4) ∧ (kt_r fk 40 0 4) ∧ (kt_r fs 40 0 1) ∧ (kt_r ft 40 0 1) ∧ (kt_r fv 4 0 39) ∧ (0 ≤ st.toInt ∧ st.toInt ≤ 4) ∧ (kt_r ff 40 (-1) 80) ∧ (kt_r fh 81 (-1) 39) ∧ (0 ≤ tu.toInt ∧ tu.toInt ≤ 1) ∧ (0 ≤ dn.toInt ∧ dn.toInt ≤ 512) ∧ (0 ≤ kn.toInt ∧ kn.toInt ≤ 512) ∧ (kt_r m0 512 0 39) ∧ (kt_r m1 512 (-1) 80) ∧ (kt_r m2 512 (-1) 80) ∧ (kt_r m3 512 0 4) ∧ (kt_r m4 2048 0 39) ∧ (kt_r m5 2048 (-1) 80) ∧ (kt_r m6 40 (-1) 80) ∧ (st.toInt = 0 → dn.toInt = 0 ∧ kn.toInt = 0) ∧ (¬ st.toInt = 0 → gs.toInt = ln.toInt * wd.toInt ∧ gm.toInt = ln.toInt + wd.toInt - 2) ∧ (kt_r fr 81 (-1) 80) ∧ (LW ≤ 10000) ∧ (LH = LW) ∧ (LS ≤ 118300) ∧ (0 ≤ pp.toInt ∧ 2 * pp.toInt ≤ (LW : Int)) ∧ (kt_r wo LW (-1) 2) ∧ (kt_r qu LW 0 ((LW : Int) - 1)) ∧ (kt_r sr LS 0 ((LW : Int) - 1)) ∧ (kt_r ne LS (-1) ((LS : Int) - 1)) ∧ (kt_r xf 40 (-1) 80) ∧ (kt_r xh 81 (-1) 39) ∧ (0 ≤ tn.toInt ∧ tn.toInt ≤ 1) ∧ (0 ≤ mho.toInt ∧ mho.toInt ≤ 4) ∧ (¬ mho.toInt = 0 → kt_PI ln wd mpc msd mki mdn mun lt lh zg zk za zo zm zt PN) ∧ (mdn.toInt + mun.toInt ≤ (tc : Int)) ∧ (¬ msv.toInt = 0 → ¬ mho.toInt = 0 ∧ 2 * kt_pw (ln.toInt * wd.toInt + 1) PN ≤ 10000) ∧ (st.toInt = 0 ↔ mho.toInt = 0)

theorem kt_F_le {M L : Nat} (h : L ≤ M) : kt_F M L ≤ 3 * M := by
  have := kt_F_b M L
  omega
theorem kt_me_b {B : Int} : ∀ {k : Nat} {n v : Int}, kt_me B k n = some v → 2 * n ≤ 10000 → 2 * v ≤ 10000
  | 0, n, v, h, h2 => by
    have : n = v := Option.some.inj h
    omega
  | k + 1, n, v, h, h2 => by
    unfold kt_me at h
    split at h
    · cases h
    · exact kt_me_b h (by omega)
theorem kt_me_p {B : Int} : ∀ {k : Nat} {n v : Int}, kt_me B k n = some v → v = n * kt_pw B k
  | 0, n, v, h => by
    have : n = v := Option.some.inj h
    rw [← this]
    show n = n * 1
    omega
  | k + 1, n, v, h => by
    unfold kt_me at h
    split at h
    · cases h
    · rw [kt_me_p h]
      show n * B * kt_pw B k = n * (kt_pw B k * B)
      rw [Int.mul_assoc, Int.mul_comm B]
theorem kt_pwN (B : Nat) : ∀ k, kt_pw (B : Int) k = ((B ^ k : Nat) : Int)
  | 0 => rfl
  | k + 1 => by
    show kt_pw (B : Int) k * (B : Int) = _
    rw [kt_pwN B k, Nat.pow_succ]
    exact (Int.natCast_mul _ _).symm
theorem kt_links_fin : ∀ a, a < 8 → ∀ b, b < 8 → ∀ k, k < 6 → 2 * ((a + 2) * (b + 2) + 1) ^ k ≤ 10000 → ((a + 2) * (b + 2) + 1) ^ k * k * (a + b + 2) ≤ 118300 := by decide +kernel
/-- no board that is solved has more moves than the rows of links hold -/
theorem kt_links {gs gm tt : Int32} {L w : Int} (hg : gs.toInt = L * w ∧ gm.toInt = L + w - 2) (hL : 2 ≤ L ∧ L ≤ 9) (hw : 2 ≤ w ∧ w ≤ 9) (ht : 0 ≤ tt.toInt ∧ tt.toInt ≤ 40) : ∀ PL : Int, kt_me (gs.toInt + 1) tt.toInt.toNat 1 = some PL → 0 ≤ PL * tt.toInt * gm.toInt ∧ PL * tt.toInt * gm.toInt ≤ 118300 := by
  intro PL h
  have h2 := kt_me_b h (by omega)
  have h1 := kt_me_p h
  rw [Int.one_mul] at h1
  obtain ⟨a, ha, ea⟩ : ∃ a : Nat, a < 8 ∧ L = ((a + 2 : Nat) : Int) := ⟨(L - 2).toNat, by omega, by omega⟩
  obtain ⟨b, hb, eb⟩ : ∃ b : Nat, b < 8 ∧ w = ((b + 2 : Nat) : Int) := ⟨(w - 2).toNat, by omega, by omega⟩
  obtain ⟨k, ek⟩ : ∃ k : Nat, tt.toInt = (k : Int) := ⟨tt.toInt.toNat, by omega⟩
  have eB : gs.toInt + 1 = (((a + 2) * (b + 2) + 1 : Nat) : Int) := by rw [hg.1, ea, eb, ← Int.natCast_mul]; rfl
  have eM : gm.toInt = ((a + b + 2 : Nat) : Int) := by omega
  rw [eB, show tt.toInt.toNat = k by omega, kt_pwN] at h1
  have h3 : 2 * ((a + 2) * (b + 2) + 1) ^ k ≤ 10000 := by omega
  have hk : k < 6 := by
    rcases Nat.lt_or_ge k 6 with hk | hk
    · exact hk
    · have h4 : 5 ^ 6 ≤ ((a + 2) * (b + 2) + 1) ^ k := Nat.le_trans (Nat.pow_le_pow_right (by decide) hk) (Nat.pow_le_pow_left (by have := Nat.mul_le_mul (show 2 ≤ a + 2 by omega) (show 2 ≤ b + 2 by omega); omega) k)
      omega
  have h5 := kt_links_fin a ha b hb k hk h3
  rw [h1, ek, eM, ← Int.natCast_mul, ← Int.natCast_mul]
  exact ⟨by omega, by omega⟩
theorem kt_gw_le {need had M : Int} (h1 : need ≤ M) (h2 : had ≤ M) (h3 : 0 ≤ had) : (kt_gw need had M : Int) ≤ M := by
  have hg := kt_gw_b need had M
  have hr := kt_rf_b need had M
  rcases Int.lt_or_le had need with h | h
  · rw [hg.1 h]; have := hr.2.2 h1; omega
  · rw [hg.2 h]; omega
theorem kt_cst_le {st sv : Int} {me : Option Int} {LW LS : Nat} {tt gm : Int} (hW : LW ≤ 10000) (hS : LS ≤ 118300) (h : ¬ st = 0 → ∀ P, me = some P → 2 * P ≤ 10000 ∧ P * tt * gm ≤ 118300) : kt_cst st (kt_cost me sv LW LS tt gm) ≤ 286600 := by
  unfold kt_cst
  split
  · omega
  · rename_i hs
    unfold kt_cost
    split
    · cases hm : me with
      | none => show 0 ≤ 286600; omega
      | some P =>
        have h1 := h hs P hm
        have g1 := kt_gw_le (need := 2 * P) (had := (LW : Int)) (M := 10000) (by omega) (by omega) (by omega)
        have g2 := kt_gw_le (need := P * tt * gm) (had := (LS : Int)) (M := 118300) (by omega) (by omega) (by omega)
        show 5 * kt_gw (2 * P) (LW : Int) 10000 + 2 * kt_gw (P * tt * gm) (LS : Int) 118300 ≤ 286600
        omega
    · omega
