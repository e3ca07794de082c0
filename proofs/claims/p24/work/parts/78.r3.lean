/-! ===== the moves of a stand, linked ===== -/
theorem kt_rmv_v {V : Int32 → Prop} {fv F : Nat → Int32} {P : Nat} (h : ∀ j, j < P → V (F j)) (h1 : V (-1)) : ∀ k j, j < P → V (kt_rmv fv F k j)
  | 0, j, hj => h j hj
  | k + 1, j, hj => by
    show V (upd (kt_rmv fv F k) (fv k).toInt.toNat (-1) j)
    by_cases e : j = (fv k).toInt.toNat
    · rw [e, pk_us]; exact h1
    · rw [pk_un e]; exact kt_rmv_v h h1 k j hj
theorem kt_VL_vi {fv ff A M : Nat → Int32} {c P p : Nat} (hP : P ≤ 40) (hV : kt_VL fv c (fun j => j < P ∧ kt_gone A M j)) (hM : ¬ M p = -1) (hA : ∀ j, j < P → ff j = A j) (hff : ∀ j, j < P → ff j = -1 ∨ 0 ≤ (ff j).toInt) : ∀ i, i < c → (fv i).toInt.toNat < P ∧ ¬ (fv i).toInt.toNat = p ∧ 0 ≤ (ff (fv i).toInt.toNat).toInt ∧ ∀ k, k < i → ¬ (fv k).toInt.toNat = (fv i).toInt.toNat := by
  intro i hi
  obtain ⟨j, h1, h2, h3, h4⟩ := hV.2.1 i hi
  have e : (fv i).toInt.toNat = j := by
    rw [h2, kt_nI (by omega)]
    omega
  rw [e]
  refine ⟨h3, fun h5 => ?_, ?_, fun k hk h5 => ?_⟩
  · rw [h5] at h4
    exact hM h4.2
  · rcases hff j h3 with h5 | h5
    · rw [hA j h3] at h5
      exact absurd h5 h4.1
    · exact h5
  · obtain ⟨j2, g1, g2, g3, g4⟩ := hV.2.1 k (by omega)
    have h6 := hV.2.2.2 k i hk hi
    have e2 : (fv k).toInt = (j2 : Int) := by rw [g2, kt_nI (by omega)]
    have e3 : (fv i).toInt = (j : Int) := by rw [h2, kt_nI (by omega)]
    omega
/-- a victim's digit goes from its field to 'nowhere' -/
theorem kt_pn_vic {B P k : Nat} {fv ff F : Nat → Int32} {gs t a : Int} (hB : 1 ≤ B) (hgs : gs = (B : Int) - 1) (hq : (fv k).toInt.toNat < P) (hF : kt_rmv fv F k (fv k).toInt.toNat = ff (fv k).toInt.toNat) (h0 : 0 ≤ (ff (fv k).toInt.toNat).toInt) (ht : t = gs - (ff (fv k).toInt.toNat).toInt) (ha : a = ((B ^ (fv k).toInt.toNat : Nat) : Int)) : ((kt_pn B (kt_rmv fv F (k + 1)) P : Nat) : Int) = ((kt_pn B (kt_rmv fv F k) P : Nat) : Int) + t * a := by
  have h := kt_pn_upd (B := B) (A := kt_rmv fv F k) (p := (fv k).toInt.toNat) (x := -1) (k := P) hq
  rw [kt_dgt_m1 hB, hF, kt_dgt_of h0] at h
  rw [ht, ha, hgs]
  exact h
/-- how many moves the pieces of a side can have at most -/
def kt_cp (g t : Int) (fk : Nat → Int32) : Nat → Int
  | 0 => 0
  | k + 1 => kt_cp g t fk k + (if kt_side (fk k) = t then g else 0)
theorem kt_cp_s (g t : Int) (fk : Nat → Int32) (k : Nat) : (kt_side (fk k) = t → kt_cp g t fk (k + 1) = kt_cp g t fk k + g) ∧ (¬ kt_side (fk k) = t → kt_cp g t fk (k + 1) = kt_cp g t fk k) := by
  constructor
  · intro h
    show kt_cp g t fk k + (if kt_side (fk k) = t then g else 0) = _
    rw [if_pos h]
  · intro h
    show kt_cp g t fk k + (if kt_side (fk k) = t then g else 0) = _
    rw [if_neg h]
    omega
theorem kt_cp_up {g t : Int} {fk : Nat → Int32} (hg : 0 ≤ g) (k : Nat) : ∀ m, kt_cp g t fk k ≤ kt_cp g t fk (k + m)
  | 0 => Int.le_refl _
  | m + 1 => by
    have h := kt_cp_up (t := t) (fk := fk) hg k m
    have h2 := kt_cp_s g t fk (k + m)
    by_cases e : kt_side (fk (k + m)) = t
    · have h3 := h2.1 e
      rw [← Nat.add_assoc]
      omega
    · have h3 := h2.2 e
      rw [← Nat.add_assoc]
      omega
theorem kt_cp_le {g t : Int} {fk : Nat → Int32} {k m : Nat} (hg : 0 ≤ g) (h : k ≤ m) : kt_cp g t fk k ≤ kt_cp g t fk m := by
  have h1 := kt_cp_up (t := t) (fk := fk) hg k (m - k)
  rw [show k + (m - k) = m by omega] at h1
  exact h1
theorem kt_cp_01 {g : Int} {fk : Nat → Int32} : ∀ k : Nat, kt_cp g 0 fk k + kt_cp g 1 fk k = (k : Int) * g
  | 0 => by
    show (0 : Int) + 0 = ((0 : Nat) : Int) * g
    rw [Int.natCast_zero, Int.zero_mul]
    rfl
  | k + 1 => by
    have h := kt_cp_01 (g := g) (fk := fk) k
    have h0 := kt_cp_s g 0 fk k
    have h1 := kt_cp_s g 1 fk k
    rw [show ((k + 1 : Nat) : Int) * g = (k : Int) * g + g by rw [Int.natCast_add, Int.add_mul, Int.natCast_one, Int.one_mul]]
    have hs : kt_side (fk k) = 0 ∨ kt_side (fk k) = 1 := by
      unfold kt_side
      split
      · exact Or.inr rfl
      · exact Or.inl rfl
    rcases hs with e | e
    · have a := h0.1 e
      have b := h1.2 (by omega)
      omega
    · have a := h0.2 (by omega)
      have b := h1.1 e
      omega
/-- the ways' rooms together -/
def kt_rs (x w L : Int) : Nat → Int
  | 0 => 0
  | n + 1 => kt_rs x w L n + kt_rom x w L (n : Int)
theorem kt_rs_4 {x w L : Int} : kt_rs x w L 4 = L + w - 2 := by
  show 0 + kt_rom x w L ((0 : Nat) : Int) + kt_rom x w L ((1 : Nat) : Int) + kt_rom x w L ((2 : Nat) : Int) + kt_rom x w L ((3 : Nat) : Int) = _
  have e0 : kt_rom x w L ((0 : Nat) : Int) = x / w := by unfold kt_rom; exact if_pos (by decide)
  have e1 : kt_rom x w L ((1 : Nat) : Int) = w - 1 - x % w := by unfold kt_rom; exact (if_neg (by decide)).trans (if_pos (by decide))
  have e2 : kt_rom x w L ((2 : Nat) : Int) = L - 1 - x / w := by unfold kt_rom; exact (if_neg (by decide)).trans ((if_neg (by decide)).trans (if_pos (by decide)))
  have e3 : kt_rom x w L ((3 : Nat) : Int) = x % w := by unfold kt_rom; exact (if_neg (by decide)).trans ((if_neg (by decide)).trans (if_neg (by decide)))
  rw [e0, e1, e2, e3]
  omega
/-- all moves of a stand whose code is below y are linked -/
def kt_LM (T U0 U s y : Nat) (mv : Nat → Prop) (suc : Nat → Nat) (et0 et : Nat → Nat) (sr0 sr he ne : Nat → Int32) : Prop :=
  U0 ≤ U ∧ kt_LI T U et he ne ∧ (∀ e, e < U0 → et e = et0 e ∧ sr e = sr0 e) ∧ (∀ e, U0 ≤ e → e < U → (sr e).toInt = (s : Int) ∧ ∃ z, mv z ∧ et e = suc z) ∧ ∀ z, z < y → mv z → ∃ e, U0 ≤ e ∧ e < U ∧ et e = suc z
theorem kt_LM.new {T U s : Nat} {mv : Nat → Prop} {suc et : Nat → Nat} {sr he ne : Nat → Int32} (h : kt_LI T U et he ne) : kt_LM T U U s 0 mv suc et et sr sr he ne := ⟨Nat.le_refl U, h, fun e _ => ⟨rfl, rfl⟩, fun e h1 h2 => absurd h1 (by omega), fun z hz => absurd hz (Nat.not_lt_zero z)⟩
theorem kt_LM.skip {T U0 U s y y2 : Nat} {mv : Nat → Prop} {suc et0 et : Nat → Nat} {sr0 sr he ne : Nat → Int32} (h : kt_LM T U0 U s y mv suc et0 et sr0 sr he ne) (hn : ∀ z, y ≤ z → z < y2 → ¬ mv z) : kt_LM T U0 U s y2 mv suc et0 et sr0 sr he ne := by
  obtain ⟨h1, h2, h3, h4, h5⟩ := h
  refine ⟨h1, h2, h3, h4, fun z hz hm => ?_⟩
  by_cases e : z < y
  · exact h5 z e hm
  · exact absurd hm (hn z (by omega) hz)
theorem kt_LM.add {T U0 U s y t : Nat} {mv : Nat → Prop} {suc et0 et : Nat → Nat} {sr0 sr he ne : Nat → Int32} {x sv : Int32} (h : kt_LM T U0 U s y mv suc et0 et sr0 sr he ne) (hm : mv y) (ht : t = suc y) (htT : t < T) (hx : x.toInt = (U : Int)) (hs : sv.toInt = (s : Int)) : kt_LM T U0 (U + 1) s (y + 1) mv suc et0 (kt_up et U t) sr0 (upd sr U sv) (upd he t x) (upd ne U (he t)) := by
  obtain ⟨h1, h2, h3, h4, h5⟩ := h
  refine ⟨by omega, h2.add htT hx, fun e he1 => ?_, fun e h6 h7 => ?_, fun z hz hmz => ?_⟩
  · rw [kt_up_n (by omega), pk_un (by omega)]
    exact h3 e he1
  · by_cases e1 : e = U
    · rw [e1, pk_us, kt_up_s]
      exact ⟨hs, y, hm, ht⟩
    · rw [pk_un e1, kt_up_n e1]
      exact h4 e h6 (by omega)
  · by_cases e1 : z = y
    · exact ⟨U, h1, by omega, by rw [kt_up_s, e1]; exact ht⟩
    · obtain ⟨e, a, b, c⟩ := h5 z (by omega) hmz
      exact ⟨e, a, by omega, by rw [kt_up_n (by omega)]; exact c⟩
theorem kt_mvs_at {P k w n : Nat} {wd L re t : Int} {fr fk A : Nat → Int32} (hk : k < P) (hw : w < 4) (hn : 1 ≤ n ∧ n ≤ 8) : kt_mvs P wd L fr fk re A t (32 * k + 8 * w + (n - 1)) ↔ ¬ A k = -1 ∧ kt_side (fk k) = t ∧ kt_bar (kt_who A P) fr (fk k) re (A k).toInt wd L (w : Int) (n : Int) = 0 := by
  have e1 : (32 * k + 8 * w + (n - 1)) / 32 = k := by omega
  have e2 : (32 * k + 8 * w + (n - 1)) / 8 % 4 = w := by omega
  have e3 : (32 * k + 8 * w + (n - 1)) % 8 + 1 = n := by omega
  unfold kt_mvs
  rw [e1, e2, e3]
  exact ⟨fun h => h.2, fun h => ⟨by omega, h⟩⟩
theorem kt_suc_at {B P k w n t : Nat} {wd L : Int} {fr fk A : Nat → Int32} {lt lh : Int32} (hw : w < 4) (hn : 1 ≤ n ∧ n ≤ 8) : kt_suc B P wd L fr fk lt lh A t (32 * k + 8 * w + (n - 1)) = 2 * kt_pn B (kt_mk P wd L fr fk lt lh A k (w : Int) (n : Int)) P + (1 - t) := by
  have e1 : (32 * k + 8 * w + (n - 1)) / 32 = k := by omega
  have e2 : (32 * k + 8 * w + (n - 1)) / 8 % 4 = w := by omega
  have e3 : (32 * k + 8 * w + (n - 1)) % 8 + 1 = n := by omega
  unfold kt_suc
  rw [e1, e2, e3]
theorem kt_rmv_cong {fv F F' : Nat → Int32} {P : Nat} (h : ∀ j, j < P → F j = F' j) : ∀ k j, j < P → kt_rmv fv F k j = kt_rmv fv F' k j
  | 0, j, hj => h j hj
  | k + 1, j, hj => by
    show upd (kt_rmv fv F k) (fv k).toInt.toNat (-1) j = upd (kt_rmv fv F' k) (fv k).toInt.toNat (-1) j
    by_cases e : j = (fv k).toInt.toNat
    · rw [e, pk_us, pk_us]
    · rw [pk_un e, pk_un e]; exact kt_rmv_cong h k j hj
theorem kt_mk_v {B P p : Nat} {w L a n : Int} {fr fk A : Nat → Int32} {lt lh : Int32} (hB : 1 ≤ B ∧ B ≤ 82) (hA : ∀ j, j < P → A j = -1 ∨ (0 ≤ (A j).toInt ∧ (A j).toInt < (B : Int) - 1)) (ht : 0 ≤ kt_al (A p).toInt w L a n ∧ kt_al (A p).toInt w L a n < (B : Int) - 1) : ∀ j, j < P → kt_mk P w L fr fk lt lh A p a n j = -1 ∨ (0 ≤ (kt_mk P w L fr fk lt lh A p a n j).toInt ∧ (kt_mk P w L fr fk lt lh A p a n j).toInt < (B : Int) - 1) := by
  intro j hj
  rcases (kt_mk_j (w := w) (L := L) (fr := fr) (fk := fk) (A := A) (mkt := lt) (mhd := lh) (p := p) (a := a) (n := n) hj).2 with h | h
  · exact Or.inl h
  · rw [h]
    by_cases e : j = p
    · rw [e, pk_us, kt_nI (by omega)]
      exact Or.inr (by omega)
    · rw [pk_un e]
      exact hA j hj
theorem kt_pn_v {B P : Nat} {A : Nat → Int32} (hB : 1 ≤ B) (hA : ∀ j, j < P → A j = -1 ∨ (0 ≤ (A j).toInt ∧ (A j).toInt < (B : Int) - 1)) : kt_pn B A P < B ^ P := kt_pn_lt (fun j hj => kt_dgt_lt hB (hA j hj))
/-- a piece's rooms over its first n ways; nothing for one that is taken -/
def kt_ra (A : Nat → Int32) (k : Nat) (w L : Int) (n : Nat) : Int := if A k = -1 then 0 else kt_rs (A k).toInt w L n
theorem kt_ra_0 (A : Nat → Int32) (k : Nat) (w L : Int) : kt_ra A k w L 0 = 0 := by
  unfold kt_ra
  split <;> rfl
theorem kt_rs_b {x w L : Int} (hw : 2 ≤ w ∧ w ≤ 9) (hL : 2 ≤ L ∧ L ≤ 9) (hx : 0 ≤ x ∧ x < L * w) {n : Nat} (hn : n ≤ 4) : kt_rs x w L n ≤ L + w - 2 := by
  have r0 := kt_rom_b (a := ((0 : Nat) : Int)) hw hL hx
  have r1 := kt_rom_b (a := ((1 : Nat) : Int)) hw hL hx
  have r2 := kt_rom_b (a := ((2 : Nat) : Int)) hw hL hx
  have r3 := kt_rom_b (a := ((3 : Nat) : Int)) hw hL hx
  have h4 : 0 + kt_rom x w L ((0 : Nat) : Int) + kt_rom x w L ((1 : Nat) : Int) + kt_rom x w L ((2 : Nat) : Int) + kt_rom x w L ((3 : Nat) : Int) = L + w - 2 := kt_rs_4
  rcases (show n = 0 ∨ n = 1 ∨ n = 2 ∨ n = 3 ∨ n = 4 by omega) with rfl | rfl | rfl | rfl | rfl
  · show (0 : Int) ≤ _
    omega
  · show 0 + kt_rom x w L ((0 : Nat) : Int) ≤ _
    omega
  · show 0 + kt_rom x w L ((0 : Nat) : Int) + kt_rom x w L ((1 : Nat) : Int) ≤ _
    omega
  · show 0 + kt_rom x w L ((0 : Nat) : Int) + kt_rom x w L ((1 : Nat) : Int) + kt_rom x w L ((2 : Nat) : Int) ≤ _
    omega
  · exact Int.le_of_eq kt_rs_4
theorem kt_ra_b {A : Nat → Int32} {k n : Nat} {w L : Int} (hw : 2 ≤ w ∧ w ≤ 9) (hL : 2 ≤ L ∧ L ≤ 9) (hx : ¬ A k = -1 → 0 ≤ (A k).toInt ∧ (A k).toInt < L * w) (hn : n ≤ 4) : kt_ra A k w L n ≤ L + w - 2 := by
  unfold kt_ra
  by_cases e : A k = -1
  · rw [if_pos e]
    omega
  · rw [if_neg e]
    exact kt_rs_b hw hL (hx e) hn
theorem kt_ra_s {A : Nat → Int32} {k n : Nat} {w L : Int} : (A k = -1 → kt_ra A k w L (n + 1) = kt_ra A k w L n) ∧ (¬ A k = -1 → kt_ra A k w L (n + 1) = kt_ra A k w L n + kt_rom (A k).toInt w L (n : Int)) := by
  unfold kt_ra
  constructor
  · intro e
    rw [if_pos e, if_pos e]
  · intro e
    rw [if_neg e, if_neg e]
    rfl
/-- the links of one stand, with what its row of open moves counts -/
def kt_LMX (T U0 s y : Nat) (mv : Nat → Prop) (suc et0 : Nat → Nat) (sr0 op0 : Nat → Int32) (cap : Int) (us : Int32) (sr he ne op : Nat → Int32) : Prop :=
  ∃ (et : Nat → Nat) (U : Nat), us.toInt = (U : Int) ∧ kt_LM T U0 U s y mv suc et0 et sr0 sr he ne ∧ (U : Int) ≤ (U0 : Int) + cap ∧ (op s).toInt = (U : Int) - (U0 : Int) ∧ ∀ j, ¬ j = s → op j = op0 j
theorem kt_LMX.skip {T U0 s y y2 : Nat} {mv : Nat → Prop} {suc et0 : Nat → Nat} {sr0 op0 sr he ne op : Nat → Int32} {cap cap2 : Int} {us : Int32} (h : kt_LMX T U0 s y mv suc et0 sr0 op0 cap us sr he ne op) (hc : cap ≤ cap2) (hn : ∀ z, y ≤ z → z < y2 → ¬ mv z) : kt_LMX T U0 s y2 mv suc et0 sr0 op0 cap2 us sr he ne op := by
  obtain ⟨et, U, h1, h2, h3, h4, h5⟩ := h
  exact ⟨et, U, h1, h2.skip hn, by omega, h4, h5⟩
theorem kt_LMX.add {T U0 s y t : Nat} {mv : Nat → Prop} {suc et0 : Nat → Nat} {sr0 op0 sr he ne op : Nat → Int32} {cap cap2 : Int} {us us2 sv x : Int32} (h : kt_LMX T U0 s y mv suc et0 sr0 op0 cap us sr he ne op) (hc : cap + 1 ≤ cap2) (hm : mv y) (ht : t = suc y) (htT : t < T) (hs : sv.toInt = (s : Int)) (hu : us2.toInt = us.toInt + 1) (hx : x.toInt = (op s).toInt + 1) : kt_LMX T U0 s (y + 1) mv suc et0 sr0 op0 cap2 us2 (upd sr us.toInt.toNat sv) (upd he t us) (upd ne us.toInt.toNat (he t)) (upd op s x) := by
  obtain ⟨et, U, h1, h2, h3, h4, h5⟩ := h
  have hU : us.toInt.toNat = U := by omega
  rw [hU]
  exact ⟨kt_up et U t, U + 1, by omega, h2.add hm ht htT h1 hs, by omega, by rw [pk_us]; omega, fun j hj => by rw [pk_un hj]; exact h5 j hj⟩
theorem kt_LMX.new {T U s : Nat} {mv : Nat → Prop} {suc et : Nat → Nat} {sr he ne op : Nat → Int32} {us : Int32} (h : kt_LI T U et he ne) (hu : us.toInt = (U : Int)) (ho : (op s).toInt = 0) : kt_LMX T U s 0 mv suc et sr op 0 us sr he ne op := ⟨et, U, hu, kt_LM.new h, by omega, by omega, fun j _ => rfl⟩
theorem kt_LMX.us {T U0 s y : Nat} {mv : Nat → Prop} {suc et0 : Nat → Nat} {sr0 op0 sr he ne op : Nat → Int32} {cap : Int} {us : Int32} (h : kt_LMX T U0 s y mv suc et0 sr0 op0 cap us sr he ne op) : (U0 : Int) ≤ us.toInt ∧ us.toInt ≤ (U0 : Int) + cap ∧ (op s).toInt = us.toInt - (U0 : Int) := by
  obtain ⟨et, U, h1, h2, h3, h4, h5⟩ := h
  have h6 := h2.1
  exact ⟨by omega, by omega, by omega⟩

set_option maxHeartbeats 4000000 in
set_option maxRecDepth 100000 in
theorem c_X7_measureE (l : Launch) (D : va_G) (cI cZ cB : ClassId) (sz : Nat) (so : Nat) (ru : Nat) (tr : Nat) (lk : Nat) (vp : Nat) (vd : Nat) (vt : Nat) (vg : Nat) (vw : Nat) (ve : Nat) (vo : Nat) (vq : Nat) (qd : Int32) (pp : Int32) (ct : Int32) (sv : Int32) (la : Nat) (gr : Nat) (rk : Nat) (rs : Nat) (rt : Nat) (rv : Nat) (tt : Int32) (kg : Int32) (vc : Int32) (gt : Nat) (gg : Nat) (gn : Nat) (gs : Int32) (gm : Int32) (fp : Nat → Int32) (htt : 0 ≤ tt.toInt ∧ tt.toInt ≤ 40) (hgs : 0 ≤ gs.toInt ∧ gs.toInt ≤ 81) : kt_Mi l yX7_measure wsX7_measure { frames := 0, cells := 0, slots := 0, locals := 0 } D (kt_ty cI cZ cB) [.ref so] sz [(so, .inr (7, [.ref ru, .ref tr, .ref lk, .ref vp, .ref vd, .ref vt, .ref vg, .ref vw, .ref ve, .ref vo, .ref vq, .int qd, .int pp, .int ct, .int sv])), (ru, .inr (6, [.ref la, .ref gr, .ref rk, .ref rs, .ref rt, .int tt, .int kg, .ref rv, .int vc])), (gr, .inr (0, [.ref gt, .ref gg, .ref gn, .int gs, .int gm])), (vp, .inl (cI, 40, .inl fp))] (fun (r : Int32) (u : Int32 × (Nat → Int32)) => (r = 1 ∧ kt_me (gs.toInt + 1) tt.toInt.toNat 1 = some u.1.toInt ∧ 1 ≤ u.1.toInt ∧ 2 * u.1.toInt ≤ 10000 ∧ u.1.toInt = (((gs.toInt.toNat + 1) ^ tt.toInt.toNat : Nat) : Int) ∧ ∀ p, p < tt.toInt.toNat → (u.2 p).toInt = (((gs.toInt.toNat + 1) ^ p : Nat) : Int)) ∨ (r = 0 ∧ kt_me (gs.toInt + 1) tt.toInt.toNat 1 = none ∧ u.1 = pp)) (fun (u : Int32 × (Nat → Int32)) => [(so, .inr (7, [.ref ru, .ref tr, .ref lk, .ref vp, .ref vd, .ref vt, .ref vg, .ref vw, .ref ve, .ref vo, .ref vq, .int qd, .int u.1, .int ct, .int sv])), (ru, .inr (6, [.ref la, .ref gr, .ref rk, .ref rs, .ref rt, .int tt, .int kg, .ref rv, .int vc])), (gr, .inr (0, [.ref gt, .ref gg, .ref gn, .int gs, .int gm])), (vp, .inl (cI, 40, .inl u.2))]) 0 0 := by
  refine kt_Mi.of (cc := cX7_measure) (maxL := 3) (ret := some .boolean) (by decide) rfl (Nat.le_of_ble_eq_true rfl) ?_
  intro p e s m below meth c A ls H hAt hP hD hS hl
  obtain ⟨hx, hb, hr, hml, hown, hts, hN, hK, hlk, hnm, hA⟩ := hAt
  have hl : lv_has ls 3 [(0, .ref so)] := hl
  have hown : s.vm.findClass RX7 = some m.cls := hown
  have hBi : (((gs.toInt.toNat + 1) : Nat) : Int) = gs.toInt + 1 := by omega
  refine lv_iconst (v := 1) hx hb dX7_measure_0 (by decide) ?_
  refine lv_istore_n (lv' := [(1, .int 1), (0, .ref so)]) hx hb dX7_measure_1 rfl hl (by decide) rfl (fun ls hl => ?_)
  refine lv_iconst (v := 0) hx hb dX7_measure_2 (by decide) ?_
  refine lv_istore_n (lv' := [(2, .int 0), (1, .int 1), (0, .ref so)]) hx hb dX7_measure_3 rfl hl (by decide) rfl (fun ls hl => ?_)
  refine kt_loop (σ := Nat × Int32 × (Nat → Int32)) 4 3 (fun u => [(so, .inr (7, [.ref ru, .ref tr, .ref lk, .ref vp, .ref vd, .ref vt, .ref vg, .ref vw, .ref ve, .ref vo, .ref vq, .int qd, .int pp, .int ct, .int sv])), (ru, .inr (6, [.ref la, .ref gr, .ref rk, .ref rs, .ref rt, .int tt, .int kg, .ref rv, .int vc])), (gr, .inr (0, [.ref gt, .ref gg, .ref gn, .int gs, .int gm])), (vp, .inl (cI, 40, .inl u.2.2))]) (fun u => [(2, .int (nI u.1)), (1, .int u.2.1), (0, .ref so)]) (fun n u => (u.1 ≤ 40 ∧ 40 < u.1 + n ∧ (u.1 : Int) ≤ tt.toInt) ∧ (kt_me (gs.toInt + 1) tt.toInt.toNat 1 = kt_me (gs.toInt + 1) (tt.toInt.toNat - u.1) u.2.1.toInt) ∧ 1 ≤ u.2.1.toInt ∧ 2 * u.2.1.toInt ≤ 10000 ∧ u.2.1.toInt = (((gs.toInt.toNat + 1) ^ u.1 : Nat) : Int) ∧ ∀ p, p < u.1 → (u.2.2 p).toInt = (((gs.toInt.toNat + 1) ^ p : Nat) : Int)) (fun u h => by omega) (fun n_4 ih_4 u hI H locs hP hD hS ls hl => ?_) (41) (0, (1 : Int32), fp) (by show (0 ≤ 40 ∧ 40 < 0 + 41 ∧ (0 : Int) ≤ tt.toInt) ∧ (kt_me (gs.toInt + 1) tt.toInt.toNat 1 = kt_me (gs.toInt + 1) (tt.toInt.toNat - 0) (1 : Int32).toInt) ∧ 1 ≤ (1 : Int32).toInt ∧ 2 * (1 : Int32).toInt ≤ 10000 ∧ (1 : Int32).toInt = (((gs.toInt.toNat + 1) ^ 0 : Nat) : Int) ∧ ∀ p, p < 0 → (fp p).toInt = (((gs.toInt.toNat + 1) ^ p : Nat) : Int); exact ⟨⟨by decide, by decide, by omega⟩, rfl, by decide, by decide, by rw [Nat.pow_zero]; decide, fun p hp => absurd hp (Nat.not_lt_zero p)⟩) hP hD hS (lv_sub hl [0, 1, 2] rfl)
  obtain ⟨k, v, g⟩ := u
  have hP : va_P D vwCl [(so, .inr (7, [.ref ru, .ref tr, .ref lk, .ref vp, .ref vd, .ref vt, .ref vg, .ref vw, .ref ve, .ref vo, .ref vq, .int qd, .int pp, .int ct, .int sv])), (ru, .inr (6, [.ref la, .ref gr, .ref rk, .ref rs, .ref rt, .int tt, .int kg, .ref rv, .int vc])), (gr, .inr (0, [.ref gt, .ref gg, .ref gn, .int gs, .int gm])), (vp, .inl (cI, 40, .inl g))] H := hP
  have hD : va_D A [(so, .inr (7, [.ref ru, .ref tr, .ref lk, .ref vp, .ref vd, .ref vt, .ref vg, .ref vw, .ref ve, .ref vo, .ref vq, .int qd, .int pp, .int ct, .int sv])), (ru, .inr (6, [.ref la, .ref gr, .ref rk, .ref rs, .ref rt, .int tt, .int kg, .ref rv, .int vc])), (gr, .inr (0, [.ref gt, .ref gg, .ref gn, .int gs, .int gm])), (vp, .inl (cI, 40, .inl g))] := hD
  have hl : lv_has ls 3 [(2, .int (nI k)), (1, .int v), (0, .ref so)] := hl
  have hI : (k ≤ 40 ∧ 40 < k + (n_4 + 1) ∧ (k : Int) ≤ tt.toInt) ∧ (kt_me (gs.toInt + 1) tt.toInt.toNat 1 = kt_me (gs.toInt + 1) (tt.toInt.toNat - k) v.toInt) ∧ 1 ≤ v.toInt ∧ 2 * v.toInt ≤ 10000 ∧ v.toInt = (((gs.toInt.toNat + 1) ^ k : Nat) : Int) ∧ ∀ p, p < k → (g p).toInt = (((gs.toInt.toNat + 1) ^ p : Nat) : Int) := hI
  obtain ⟨hkb, hme, hv1, hv2, hvk, hgp⟩ := hI
  have hk0 := kt_nI (n := k) (by omega)
  refine lv_iload_n hx hb dX7_measure_4 rfl (lv_at hl 0 rfl) ?_
  refine lv_aload_n hx hb dX7_measure_5 rfl (lv_at hl 2 rfl) ?_
  refine va_get (D := D) (ci := 7) (C := RX7) (T := TX7) (N := 15) hx hb hts iw_X7_measure_X7 hown hK hP 0 rfl rfl 0 (by decide) (hts (.fieldLink RX7 50 "KingTable$Solver" "rules" "LKingTable$Rules;") (List.mem_cons_of_mem _ (List.mem_append_left _ (List.mem_append_left _ (List.mem_append_left _ (List.Mem.head _)))))) (fun _ h9 => h9) rfl dX7_measure_6 ?_
  refine va_getN (D := D) (ci := 6) (C := RX6) (T := TX6) (N := 9) hx hb hts iw_X7_measure_X6 hown hK hP 1 rfl rfl 5 (by decide) (va_Nw.use (w := .fieldLinkNest RX7 73 "KingTable$Rules" "total" "I" "KingTable") rfl (hN _ (by decide +kernel))) (fun _ h9 => h9) rfl dX7_measure_9 ?_
  refine lv_icmp_ge (tgt := 54) hx hb dX7_measure_12 (by decide) (fun c_12 => ?_) (fun c_12 => ?_)
  · have d_12 := c_12
    simp only [kt_lt, kt_le, kt_eq, kt_c0, kt_c1, kt_c2, kt_c3, kt_c4, kt_c8, kt_c9, kt_cm1, kt_c81, kt_c40, kt_c7, kt_c5, kt_c6, kt_c512, kt_c10, kt_c10000] at d_12
    refine lv_aload_n hx hb dX7_measure_54 rfl (lv_at hl 2 rfl) ?_
    refine lv_iload_n hx hb dX7_measure_55 rfl (lv_at hl 1 rfl) ?_
    refine va_put (D := D) (ci := 7) (v := .int v) (ty := .int) (C := RX7) (T := TX7) (N := 15) hx hb hts iw_X7_measure_X7 tyX7 tyX7_ok nmX7 hown hK hP hD hS 0 rfl rfl 12 (by decide) (hts (.fieldLink RX7 66 "KingTable$Solver" "places" "I") (List.mem_cons_of_mem _ (List.mem_append_left _ (List.mem_append_left _ (List.mem_append_left _ (List.mem_cons_of_mem _ (List.mem_cons_of_mem _ (List.Mem.head _)))))))) (fun _ h9 => h9) rfl (by decide +kernel) rfl rfl (Nat.le_of_ble_eq_true rfl) dX7_measure_56 (fun H locs hP hD hS => ?_)
    have hP : va_P D vwCl [(so, .inr (7, [.ref ru, .ref tr, .ref lk, .ref vp, .ref vd, .ref vt, .ref vg, .ref vw, .ref ve, .ref vo, .ref vq, .int qd, .int v, .int ct, .int sv])), (ru, .inr (6, [.ref la, .ref gr, .ref rk, .ref rs, .ref rt, .int tt, .int kg, .ref rv, .int vc])), (gr, .inr (0, [.ref gt, .ref gg, .ref gn, .int gs, .int gm])), (vp, .inl (cI, 40, .inl g))] H := hP
    have hD : va_D A [(so, .inr (7, [.ref ru, .ref tr, .ref lk, .ref vp, .ref vd, .ref vt, .ref vg, .ref vw, .ref ve, .ref vo, .ref vq, .int qd, .int v, .int ct, .int sv])), (ru, .inr (6, [.ref la, .ref gr, .ref rk, .ref rs, .ref rt, .int tt, .int kg, .ref rv, .int vc])), (gr, .inr (0, [.ref gt, .ref gg, .ref gn, .int gs, .int gm])), (vp, .inl (cI, 40, .inl g))] := hD
    refine lv_iconst (v := 1) hx hb dX7_measure_59 (by decide) ?_
    exact kt_rz (v, g) hx hb hr hlk hS dX7_measure_60 hP hD (by show ((1 : Int32) = 1 ∧ kt_me (gs.toInt + 1) tt.toInt.toNat 1 = some v.toInt ∧ 1 ≤ v.toInt ∧ 2 * v.toInt ≤ 10000 ∧ v.toInt = (((gs.toInt.toNat + 1) ^ tt.toInt.toNat : Nat) : Int) ∧ ∀ p, p < tt.toInt.toNat → (g p).toInt = (((gs.toInt.toNat + 1) ^ p : Nat) : Int)) ∨ ((1 : Int32) = 0 ∧ kt_me (gs.toInt + 1) tt.toInt.toNat 1 = none ∧ v = pp); first | exact Or.inr ⟨rfl, by rw [hme, show tt.toInt.toNat - k = (tt.toInt.toNat - (k + 1)) + 1 by omega, kt_me_n (by omega)], rfl⟩ | ((have hkt : k = tt.toInt.toNat := by omega); rw [hkt] at hvk hgp; exact Or.inl ⟨rfl, by rw [hme, show tt.toInt.toNat - k = 0 by omega]; rfl, by omega, by omega, hvk, hgp⟩)) rfl
  · have d_12 := c_12
    simp only [kt_lt, kt_le, kt_eq, kt_c0, kt_c1, kt_c2, kt_c3, kt_c4, kt_c8, kt_c9, kt_cm1, kt_c81, kt_c40, kt_c7, kt_c5, kt_c6, kt_c512, kt_c10, kt_c10000] at d_12
    refine lv_aload_n hx hb dX7_measure_15 rfl (lv_at hl 2 rfl) ?_
    refine va_get (D := D) (ci := 7) (C := RX7) (T := TX7) (N := 15) hx hb hts iw_X7_measure_X7 hown hK hP 0 rfl rfl 3 (by decide) (hts (.fieldLink RX7 25 "KingTable$Solver" "powers" "[I") (List.mem_cons_of_mem _ (List.mem_append_left _ (List.mem_append_left _ (List.mem_append_left _ (List.mem_cons_of_mem _ (List.Mem.head _))))))) (fun _ h9 => h9) rfl dX7_measure_16 ?_
    refine lv_iload_n hx hb dX7_measure_19 rfl (lv_at hl 0 rfl) ?_
    refine lv_iload_n hx hb dX7_measure_20 rfl (lv_at hl 1 rfl) ?_
    have hi_1 : vp_in (nI k) 40 := by exact kt_in (by omega) (by omega)
    refine va_iast hx hb hK hP hD hS 3 0 rfl rfl hi_1 dX7_measure_21 (fun H locs hP hD hS => ?_)
    have hP : va_P D vwCl [(so, .inr (7, [.ref ru, .ref tr, .ref lk, .ref vp, .ref vd, .ref vt, .ref vg, .ref vw, .ref ve, .ref vo, .ref vq, .int qd, .int pp, .int ct, .int sv])), (ru, .inr (6, [.ref la, .ref gr, .ref rk, .ref rs, .ref rt, .int tt, .int kg, .ref rv, .int vc])), (gr, .inr (0, [.ref gt, .ref gg, .ref gn, .int gs, .int gm])), (vp, .inl (cI, 40, .inl (upd g (nI k).toNatClampNeg v)))] H := hP
    have hD : va_D A [(so, .inr (7, [.ref ru, .ref tr, .ref lk, .ref vp, .ref vd, .ref vt, .ref vg, .ref vw, .ref ve, .ref vo, .ref vq, .int qd, .int pp, .int ct, .int sv])), (ru, .inr (6, [.ref la, .ref gr, .ref rk, .ref rs, .ref rt, .int tt, .int kg, .ref rv, .int vc])), (gr, .inr (0, [.ref gt, .ref gg, .ref gn, .int gs, .int gm])), (vp, .inl (cI, 40, .inl (upd g (nI k).toNatClampNeg v)))] := hD
    refine lv_iload_n hx hb dX7_measure_22 rfl (lv_at hl 1 rfl) ?_
    refine lv_aload_n hx hb dX7_measure_23 rfl (lv_at hl 2 rfl) ?_
    refine va_get (D := D) (ci := 7) (C := RX7) (T := TX7) (N := 15) hx hb hts iw_X7_measure_X7 hown hK hP 0 rfl rfl 0 (by decide) (hts (.fieldLink RX7 50 "KingTable$Solver" "rules" "LKingTable$Rules;") (List.mem_cons_of_mem _ (List.mem_append_left _ (List.mem_append_left _ (List.mem_append_left _ (List.Mem.head _)))))) (fun _ h9 => h9) rfl dX7_measure_24 ?_
    refine va_getN (D := D) (ci := 6) (C := RX6) (T := TX6) (N := 9) hx hb hts iw_X7_measure_X6 hown hK hP 1 rfl rfl 1 (by decide) (va_Nw.use (w := .fieldLinkNest RX7 78 "KingTable$Rules" "ground" "LKingTable$Ground;" "KingTable") rfl (hN _ (by decide +kernel))) (fun _ h9 => h9) rfl dX7_measure_27 ?_
    refine va_getN (D := D) (ci := 0) (C := RX0) (T := TX0) (N := 5) hx hb hts iw_X7_measure_X0 hown hK hP 2 rfl rfl 3 (by decide) (va_Nw.use (w := .fieldLinkNest RX7 115 "KingTable$Ground" "size" "I" "KingTable") rfl (hN _ (by decide +kernel))) (fun _ h9 => h9) rfl dX7_measure_30 ?_
    refine lv_iconst (v := 1) hx hb dX7_measure_33 (by decide) ?_
    refine lv_iadd hx hb dX7_measure_34 ?_
    refine lv_topi (fun t_34 et_34 => ?_)
    first | have hk_34 := kt_addx et_34 (by first | omega | (simp only [kt_c0, kt_c1, kt_c2, kt_c3, kt_c4, kt_c8, kt_c9, kt_cm1, kt_c81, kt_c40, kt_c7, kt_c5, kt_c6, kt_c512, kt_c10, kt_c10000]; omega)) (by first | omega | (simp only [kt_c0, kt_c1, kt_c2, kt_c3, kt_c4, kt_c8, kt_c9, kt_cm1, kt_c81, kt_c40, kt_c7, kt_c5, kt_c6, kt_c512, kt_c10, kt_c10000]; omega)) | obtain ⟨k_34, hk_34, hm_34, hM_34⟩ := kt_addk et_34
    try simp only [kt_c0, kt_c1, kt_c2, kt_c3, kt_c4, kt_c8, kt_c9, kt_cm1, kt_c81, kt_c40, kt_c7, kt_c5, kt_c6, kt_c512, kt_c10, kt_c10000] at hk_34
    refine lv_imul hx hb dX7_measure_35 ?_
    refine lv_topi (fun t_35 et_35 => ?_)
    obtain ⟨k_35, hk_35, hm_35, hM_35⟩ := kt_mulxk et_35
    have hmb := kt_mulr (a := v.toInt) (b := t_34.toInt) (A := 5000) (B := 82) (by omega) (by omega)
    have hmp := kt_mulp (a := v.toInt) (b := t_34.toInt) (by omega) (by omega)
    have e34 : t_34.toInt = gs.toInt + 1 := by omega
    have e35 : t_35.toInt = v.toInt * (gs.toInt + 1) := by rw [← e34]; omega
    refine lv_istore_n (lv' := [(1, .int t_35), (2, .int (nI k)), (0, .ref so)]) hx hb dX7_measure_36 rfl hl (by decide) rfl (fun ls hl => ?_)
    refine lv_iconst (v := 2) hx hb dX7_measure_37 (by decide) ?_
    refine lv_iload_n hx hb dX7_measure_38 rfl (lv_at hl 0 rfl) ?_
    refine lv_imul hx hb dX7_measure_39 ?_
    refine lv_topi (fun t_39 et_39 => ?_)
    obtain ⟨k_39, hk_39, hm_39, hM_39⟩ := kt_mulk (C := 2) (et_39.trans (Int32.mul_comm _ _)) (by decide)
    try simp only [kt_c0, kt_c1, kt_c2, kt_c3, kt_c4, kt_c8, kt_c9, kt_cm1, kt_c81, kt_c40, kt_c7, kt_c5, kt_c6, kt_c512, kt_c10, kt_c10000] at hk_39
    refine lv_sipush (v := 10000) hx hb dX7_measure_40 (by decide) ?_
    refine lv_icmp_le (tgt := 48) hx hb dX7_measure_43 (by decide) (fun c_43 => ?_) (fun c_43 => ?_)
    · have d_43 := c_43
      simp only [kt_lt, kt_le, kt_eq, kt_c0, kt_c1, kt_c2, kt_c3, kt_c4, kt_c8, kt_c9, kt_cm1, kt_c81, kt_c40, kt_c7, kt_c5, kt_c6, kt_c512, kt_c10, kt_c10000] at d_43
      refine lv_iinc (v := nI (k + 1)) (lv' := [(2, .int (nI (k + 1))), (1, .int t_35), (0, .ref so)]) hx hb dX7_measure_48 hl (k := 1) rfl (nI_1 _) (by decide) rfl (fun ls hl => ?_)
      refine lv_goto (tgt := 4) hx hb dX7_measure_51 (by decide) ?_
      exact ih_4 ((k + 1), t_35, (upd g (nI k).toNatClampNeg v)) (by show ((k + 1) ≤ 40 ∧ 40 < (k + 1) + n_4 ∧ ((k + 1) : Int) ≤ tt.toInt) ∧ (kt_me (gs.toInt + 1) tt.toInt.toNat 1 = kt_me (gs.toInt + 1) (tt.toInt.toNat - (k + 1)) t_35.toInt) ∧ 1 ≤ t_35.toInt ∧ 2 * t_35.toInt ≤ 10000 ∧ t_35.toInt = (((gs.toInt.toNat + 1) ^ (k + 1) : Nat) : Int) ∧ ∀ p, p < (k + 1) → ((upd g (nI k).toNatClampNeg v) p).toInt = (((gs.toInt.toNat + 1) ^ p : Nat) : Int); rw [nI_clamp (by omega)]; exact ⟨by omega, by rw [hme, show tt.toInt.toNat - k = (tt.toInt.toNat - (k + 1)) + 1 by omega, kt_me_s (by omega), e35], by omega, by omega, by rw [Nat.pow_succ, Int.natCast_mul, ← hvk, hBi]; exact e35, fun p hp => if e : p = k then (by rw [e, pk_us]; exact hvk) else (by rw [pk_un e]; exact hgp p (by omega))⟩) H _ hP hD hS ls (lv_sub hl [0, 1, 2] rfl)
    · have d_43 := c_43
      simp only [kt_lt, kt_le, kt_eq, kt_c0, kt_c1, kt_c2, kt_c3, kt_c4, kt_c8, kt_c9, kt_cm1, kt_c81, kt_c40, kt_c7, kt_c5, kt_c6, kt_c512, kt_c10, kt_c10000] at d_43
      refine lv_iconst (v := 0) hx hb dX7_measure_46 (by decide) ?_
      exact kt_rz (pp, upd g (nI k).toNatClampNeg v) hx hb hr hlk hS dX7_measure_47 hP hD (by show ((0 : Int32) = 1 ∧ kt_me (gs.toInt + 1) tt.toInt.toNat 1 = some pp.toInt ∧ 1 ≤ pp.toInt ∧ 2 * pp.toInt ≤ 10000 ∧ pp.toInt = (((gs.toInt.toNat + 1) ^ tt.toInt.toNat : Nat) : Int) ∧ ∀ p, p < tt.toInt.toNat → ((upd g (nI k).toNatClampNeg v) p).toInt = (((gs.toInt.toNat + 1) ^ p : Nat) : Int)) ∨ ((0 : Int32) = 0 ∧ kt_me (gs.toInt + 1) tt.toInt.toNat 1 = none ∧ pp = pp); first | exact Or.inr ⟨rfl, by rw [hme, show tt.toInt.toNat - k = (tt.toInt.toNat - (k + 1)) + 1 by omega, kt_me_n (by omega)], rfl⟩ | ((have hkt : k = tt.toInt.toNat := by omega); rw [hkt] at hvk hgp; exact Or.inl ⟨rfl, by rw [hme, show tt.toInt.toNat - k = 0 by omega]; rfl, by omega, by omega, hvk, hgp⟩)) rfl

set_option maxHeartbeats 4000000 in
set_option maxRecDepth 100000 in
theorem c_X2_addE (l : Launch) (D : va_G) (cI cZ cB : ClassId) (sz : Nat) (lk : Nat) (kh : Nat) (ks : Nat) (kn : Nat) (us : Int32) (LW : Nat) (LH : Nat) (LS : Nat) (LQ : Nat) (he : Nat → Int32) (sr : Nat → Int32) (ne : Nat → Int32) (p1 : Int32) (p2 : Int32) (hlw : LW ≤ 10000) (hlh : LH ≤ 10000) (hls : LS ≤ 4000000) (hlq : LQ ≤ LW ∧ LQ ≤ LH) (hus : 0 ≤ us.toInt ∧ us.toInt ≤ (LS : Int)) (hhe : kt_r he LH (-1) ((LS : Int) - 1)) (hsr : kt_r sr LS 0 ((LQ : Int) - 1)) (hne : kt_r ne LS (-1) ((LS : Int) - 1)) (hp1 : 0 ≤ p1.toInt ∧ p1.toInt < (LQ : Int)) (hp2 : 0 ≤ p2.toInt ∧ p2.toInt < (LH : Int)) (hrm : us.toInt < (LS : Int)) : kt_Mv l yX2_add wsX2_add { frames := 0, cells := 0, slots := 0, locals := 0 } D (kt_ty cI cZ cB) [.ref lk, .int p1, .int p2] sz [(lk, .inr (2, [.ref kh, .ref ks, .ref kn, .int us])), (kh, .inl (cI, LH, .inl he)), (ks, .inl (cI, LS, .inl sr)), (kn, .inl (cI, LS, .inl ne))] (fun (u : Int32 × (Nat → Int32) × (Nat → Int32) × (Nat → Int32)) => ((0 ≤ u.1.toInt ∧ u.1.toInt ≤ (LS : Int)) ∧ kt_r u.2.1 LH (-1) ((LS : Int) - 1) ∧ kt_r u.2.2.1 LS 0 ((LQ : Int) - 1) ∧ kt_r u.2.2.2 LS (-1) ((LS : Int) - 1)) ∧ u.1.toInt = us.toInt + 1 ∧ u.2.1 = upd he p2.toInt.toNat us ∧ u.2.2.1 = upd sr us.toInt.toNat p1 ∧ u.2.2.2 = upd ne us.toInt.toNat (he p2.toInt.toNat)) (fun (u : Int32 × (Nat → Int32) × (Nat → Int32) × (Nat → Int32)) => [(lk, .inr (2, [.ref kh, .ref ks, .ref kn, .int u.1])), (kh, .inl (cI, LH, .inl u.2.1)), (ks, .inl (cI, LS, .inl u.2.2.1)), (kn, .inl (cI, LS, .inl u.2.2.2))]) 0 0 := by
  refine kt_Mv.of (cc := cX2_add) (maxL := 3) (ret := none) (by decide) rfl (Nat.le_of_ble_eq_true rfl) ?_
  intro p e s m below meth c A ls H hAt hP hD hS hl
  obtain ⟨hx, hb, hr, hml, hown, hts, hN, hK, hlk, hnm, hA⟩ := hAt
  have hl : lv_has ls 3 [(0, .ref lk), (1, .int p1), (2, .int p2)] := hl
  have hown : s.vm.findClass RX2 = some m.cls := hown
  have hLWi : (nI LW).toInt = (LW : Int) := kt_nI (by omega)
  have hLHi : (nI LH).toInt = (LH : Int) := kt_nI (by omega)
  have hLSi : (nI LS).toInt = (LS : Int) := kt_nI (by omega)
  refine lv_aload_n hx hb dX2_add_0 rfl (lv_at hl 0 rfl) ?_
  refine va_get (D := D) (ci := 2) (C := RX2) (T := TX2) (N := 4) hx hb hts iw_X2_add_X2 hown hK hP 0 rfl rfl 3 (by decide) (hts (.fieldLink RX2 32 "KingTable$Links" "used" "I") (List.mem_cons_of_mem _ (List.mem_append_left _ (List.Mem.head _)))) (fun _ h9 => h9) rfl dX2_add_1 ?_
  refine lv_aload_n hx hb dX2_add_4 rfl (lv_at hl 0 rfl) ?_
  refine va_get (D := D) (ci := 2) (C := RX2) (T := TX2) (N := 4) hx hb hts iw_X2_add_X2 hown hK hP 0 rfl rfl 1 (by decide) (hts (.fieldLink RX2 15 "KingTable$Links" "sources" "[I") (List.mem_cons_of_mem _ (List.mem_append_left _ (List.mem_cons_of_mem _ (List.Mem.head _))))) (fun _ h9 => h9) rfl dX2_add_5 ?_
  refine va_alen hx hb hK hP 2 0 rfl rfl (v := nI LS) rfl dX2_add_8 ?_
  refine lv_icmp_ge (tgt := 70) hx hb dX2_add_9 (by decide) (fun c_9 => ?_) (fun c_9 => ?_)
  · have d_9 := c_9
    simp only [kt_lt, kt_le, kt_eq, kt_c0, kt_c1, kt_c2, kt_c3, kt_c4, kt_c8, kt_c9, kt_cm1, kt_c81, kt_c40, kt_c7, kt_c5, kt_c6, kt_c512, kt_c10, kt_c10000] at d_9
    exact kt_rv (us, he, sr, ne) hx hb hr hlk hS dX2_add_70 hP hD (by show ((0 ≤ us.toInt ∧ us.toInt ≤ (LS : Int)) ∧ kt_r he LH (-1) ((LS : Int) - 1) ∧ kt_r sr LS 0 ((LQ : Int) - 1) ∧ kt_r ne LS (-1) ((LS : Int) - 1)) ∧ us.toInt = us.toInt + 1 ∧ he = upd he p2.toInt.toNat us ∧ sr = upd sr us.toInt.toNat p1 ∧ ne = upd ne us.toInt.toNat (he p2.toInt.toNat); first | (exfalso; omega) | exact ⟨⟨by omega, hhe, hsr, hne⟩, by omega, rfl, rfl, by rw [ea_48]; rfl⟩)
  · have d_9 := c_9
    simp only [kt_lt, kt_le, kt_eq, kt_c0, kt_c1, kt_c2, kt_c3, kt_c4, kt_c8, kt_c9, kt_cm1, kt_c81, kt_c40, kt_c7, kt_c5, kt_c6, kt_c512, kt_c10, kt_c10000] at d_9
    refine lv_iload_n hx hb dX2_add_12 rfl (lv_at hl 2 rfl) ?_
    refine lv_if_lt (tgt := 70) hx hb dX2_add_13 (by decide) (fun c_13 => ?_) (fun c_13 => ?_)
    · have d_13 := c_13
      simp only [kt_lt, kt_le, kt_eq, kt_c0, kt_c1, kt_c2, kt_c3, kt_c4, kt_c8, kt_c9, kt_cm1, kt_c81, kt_c40, kt_c7, kt_c5, kt_c6, kt_c512, kt_c10, kt_c10000] at d_13
      exact kt_rv (us, he, sr, ne) hx hb hr hlk hS dX2_add_70 hP hD (by show ((0 ≤ us.toInt ∧ us.toInt ≤ (LS : Int)) ∧ kt_r he LH (-1) ((LS : Int) - 1) ∧ kt_r sr LS 0 ((LQ : Int) - 1) ∧ kt_r ne LS (-1) ((LS : Int) - 1)) ∧ us.toInt = us.toInt + 1 ∧ he = upd he p2.toInt.toNat us ∧ sr = upd sr us.toInt.toNat p1 ∧ ne = upd ne us.toInt.toNat (he p2.toInt.toNat); first | (exfalso; omega) | exact ⟨⟨by omega, hhe, hsr, hne⟩, by omega, rfl, rfl, by rw [ea_48]; rfl⟩)
    · have d_13 := c_13
      simp only [kt_lt, kt_le, kt_eq, kt_c0, kt_c1, kt_c2, kt_c3, kt_c4, kt_c8, kt_c9, kt_cm1, kt_c81, kt_c40, kt_c7, kt_c5, kt_c6, kt_c512, kt_c10, kt_c10000] at d_13
      refine lv_iload_n hx hb dX2_add_16 rfl (lv_at hl 2 rfl) ?_
      refine lv_aload_n hx hb dX2_add_17 rfl (lv_at hl 0 rfl) ?_
      refine va_get (D := D) (ci := 2) (C := RX2) (T := TX2) (N := 4) hx hb hts iw_X2_add_X2 hown hK hP 0 rfl rfl 0 (by decide) (hts (.fieldLink RX2 9 "KingTable$Links" "heads" "[I") (List.mem_cons_of_mem _ (List.mem_append_left _ (List.mem_cons_of_mem _ (List.mem_cons_of_mem _ (List.Mem.head _)))))) (fun _ h9 => h9) rfl dX2_add_18 ?_
      refine va_alen hx hb hK hP 1 0 rfl rfl (v := nI LH) rfl dX2_add_21 ?_
      refine lv_icmp_ge (tgt := 70) hx hb dX2_add_22 (by decide) (fun c_22 => ?_) (fun c_22 => ?_)
      · have d_22 := c_22
        simp only [kt_lt, kt_le, kt_eq, kt_c0, kt_c1, kt_c2, kt_c3, kt_c4, kt_c8, kt_c9, kt_cm1, kt_c81, kt_c40, kt_c7, kt_c5, kt_c6, kt_c512, kt_c10, kt_c10000] at d_22
        exact kt_rv (us, he, sr, ne) hx hb hr hlk hS dX2_add_70 hP hD (by show ((0 ≤ us.toInt ∧ us.toInt ≤ (LS : Int)) ∧ kt_r he LH (-1) ((LS : Int) - 1) ∧ kt_r sr LS 0 ((LQ : Int) - 1) ∧ kt_r ne LS (-1) ((LS : Int) - 1)) ∧ us.toInt = us.toInt + 1 ∧ he = upd he p2.toInt.toNat us ∧ sr = upd sr us.toInt.toNat p1 ∧ ne = upd ne us.toInt.toNat (he p2.toInt.toNat); first | (exfalso; omega) | exact ⟨⟨by omega, hhe, hsr, hne⟩, by omega, rfl, rfl, by rw [ea_48]; rfl⟩)
      · have d_22 := c_22
        simp only [kt_lt, kt_le, kt_eq, kt_c0, kt_c1, kt_c2, kt_c3, kt_c4, kt_c8, kt_c9, kt_cm1, kt_c81, kt_c40, kt_c7, kt_c5, kt_c6, kt_c512, kt_c10, kt_c10000] at d_22
        refine lv_aload_n hx hb dX2_add_25 rfl (lv_at hl 0 rfl) ?_
        refine va_get (D := D) (ci := 2) (C := RX2) (T := TX2) (N := 4) hx hb hts iw_X2_add_X2 hown hK hP 0 rfl rfl 1 (by decide) (hts (.fieldLink RX2 15 "KingTable$Links" "sources" "[I") (List.mem_cons_of_mem _ (List.mem_append_left _ (List.mem_cons_of_mem _ (List.Mem.head _))))) (fun _ h9 => h9) rfl dX2_add_26 ?_
        refine lv_aload_n hx hb dX2_add_29 rfl (lv_at hl 0 rfl) ?_
        refine va_get (D := D) (ci := 2) (C := RX2) (T := TX2) (N := 4) hx hb hts iw_X2_add_X2 hown hK hP 0 rfl rfl 3 (by decide) (hts (.fieldLink RX2 32 "KingTable$Links" "used" "I") (List.mem_cons_of_mem _ (List.mem_append_left _ (List.Mem.head _)))) (fun _ h9 => h9) rfl dX2_add_30 ?_
        refine lv_iload_n hx hb dX2_add_33 rfl (lv_at hl 1 rfl) ?_
        have hi_1 : vp_in us LS := by exact kt_in (by omega) (by omega)
        refine va_iast hx hb hK hP hD hS 2 0 rfl rfl hi_1 dX2_add_34 (fun H locs hP hD hS => ?_)
        have hsr : kt_r (upd sr us.toNatClampNeg p1) LS 0 ((LQ : Int) - 1) := hsr.upd (by omega) (by omega)
        have hP : va_P D vwCl [(lk, .inr (2, [.ref kh, .ref ks, .ref kn, .int us])), (kh, .inl (cI, LH, .inl he)), (ks, .inl (cI, LS, .inl (upd sr us.toNatClampNeg p1))), (kn, .inl (cI, LS, .inl ne))] H := hP
        have hD : va_D A [(lk, .inr (2, [.ref kh, .ref ks, .ref kn, .int us])), (kh, .inl (cI, LH, .inl he)), (ks, .inl (cI, LS, .inl (upd sr us.toNatClampNeg p1))), (kn, .inl (cI, LS, .inl ne))] := hD
        refine lv_aload_n hx hb dX2_add_35 rfl (lv_at hl 0 rfl) ?_
        refine va_get (D := D) (ci := 2) (C := RX2) (T := TX2) (N := 4) hx hb hts iw_X2_add_X2 hown hK hP 0 rfl rfl 2 (by decide) (hts (.fieldLink RX2 18 "KingTable$Links" "nexts" "[I") (List.mem_cons_of_mem _ (List.mem_append_left _ (List.mem_cons_of_mem _ (List.mem_cons_of_mem _ (List.mem_cons_of_mem _ (List.Mem.head _))))))) (fun _ h9 => h9) rfl dX2_add_36 ?_
        refine lv_aload_n hx hb dX2_add_39 rfl (lv_at hl 0 rfl) ?_
        refine va_get (D := D) (ci := 2) (C := RX2) (T := TX2) (N := 4) hx hb hts iw_X2_add_X2 hown hK hP 0 rfl rfl 3 (by decide) (hts (.fieldLink RX2 32 "KingTable$Links" "used" "I") (List.mem_cons_of_mem _ (List.mem_append_left _ (List.Mem.head _)))) (fun _ h9 => h9) rfl dX2_add_40 ?_
        refine lv_aload_n hx hb dX2_add_43 rfl (lv_at hl 0 rfl) ?_
        refine va_get (D := D) (ci := 2) (C := RX2) (T := TX2) (N := 4) hx hb hts iw_X2_add_X2 hown hK hP 0 rfl rfl 0 (by decide) (hts (.fieldLink RX2 9 "KingTable$Links" "heads" "[I") (List.mem_cons_of_mem _ (List.mem_append_left _ (List.mem_cons_of_mem _ (List.mem_cons_of_mem _ (List.Mem.head _)))))) (fun _ h9 => h9) rfl dX2_add_44 ?_
        refine lv_iload_n hx hb dX2_add_47 rfl (lv_at hl 2 rfl) ?_
        have hi_2 : vp_in p2 LH := by exact kt_in (by omega) (by omega)
        refine va_iald hx hb hK hP 1 0 rfl rfl hi_2 dX2_add_48 ?_
        refine lv_topi (fun a_48 ea_48 => ?_)
        have ra_48 := hhe.get hi_2
        rw [← ea_48] at ra_48
        have hi_3 : vp_in us LS := by exact kt_in (by omega) (by omega)
        refine va_iast hx hb hK hP hD hS 3 0 rfl rfl hi_3 dX2_add_49 (fun H locs hP hD hS => ?_)
        have hne : kt_r (upd ne us.toNatClampNeg a_48) LS (-1) ((LS : Int) - 1) := hne.upd (by omega) (by omega)
        have hP : va_P D vwCl [(lk, .inr (2, [.ref kh, .ref ks, .ref kn, .int us])), (kh, .inl (cI, LH, .inl he)), (ks, .inl (cI, LS, .inl (upd sr us.toNatClampNeg p1))), (kn, .inl (cI, LS, .inl (upd ne us.toNatClampNeg a_48)))] H := hP
        have hD : va_D A [(lk, .inr (2, [.ref kh, .ref ks, .ref kn, .int us])), (kh, .inl (cI, LH, .inl he)), (ks, .inl (cI, LS, .inl (upd sr us.toNatClampNeg p1))), (kn, .inl (cI, LS, .inl (upd ne us.toNatClampNeg a_48)))] := hD
        refine lv_aload_n hx hb dX2_add_50 rfl (lv_at hl 0 rfl) ?_
        refine va_get (D := D) (ci := 2) (C := RX2) (T := TX2) (N := 4) hx hb hts iw_X2_add_X2 hown hK hP 0 rfl rfl 0 (by decide) (hts (.fieldLink RX2 9 "KingTable$Links" "heads" "[I") (List.mem_cons_of_mem _ (List.mem_append_left _ (List.mem_cons_of_mem _ (List.mem_cons_of_mem _ (List.Mem.head _)))))) (fun _ h9 => h9) rfl dX2_add_51 ?_
        refine lv_iload_n hx hb dX2_add_54 rfl (lv_at hl 2 rfl) ?_
        refine lv_aload_n hx hb dX2_add_55 rfl (lv_at hl 0 rfl) ?_
        refine va_get (D := D) (ci := 2) (C := RX2) (T := TX2) (N := 4) hx hb hts iw_X2_add_X2 hown hK hP 0 rfl rfl 3 (by decide) (hts (.fieldLink RX2 32 "KingTable$Links" "used" "I") (List.mem_cons_of_mem _ (List.mem_append_left _ (List.Mem.head _)))) (fun _ h9 => h9) rfl dX2_add_56 ?_
        have hi_4 : vp_in p2 LH := by exact kt_in (by omega) (by omega)
        refine va_iast hx hb hK hP hD hS 1 0 rfl rfl hi_4 dX2_add_59 (fun H locs hP hD hS => ?_)
        have hhe : kt_r (upd he p2.toNatClampNeg us) LH (-1) ((LS : Int) - 1) := hhe.upd (by omega) (by omega)
        have hP : va_P D vwCl [(lk, .inr (2, [.ref kh, .ref ks, .ref kn, .int us])), (kh, .inl (cI, LH, .inl (upd he p2.toNatClampNeg us))), (ks, .inl (cI, LS, .inl (upd sr us.toNatClampNeg p1))), (kn, .inl (cI, LS, .inl (upd ne us.toNatClampNeg a_48)))] H := hP
        have hD : va_D A [(lk, .inr (2, [.ref kh, .ref ks, .ref kn, .int us])), (kh, .inl (cI, LH, .inl (upd he p2.toNatClampNeg us))), (ks, .inl (cI, LS, .inl (upd sr us.toNatClampNeg p1))), (kn, .inl (cI, LS, .inl (upd ne us.toNatClampNeg a_48)))] := hD
        refine lv_aload_n hx hb dX2_add_60 rfl (lv_at hl 0 rfl) ?_
        refine lv_dup hx hb dX2_add_61 rfl ?_
        refine va_get (D := D) (ci := 2) (C := RX2) (T := TX2) (N := 4) hx hb hts iw_X2_add_X2 hown hK hP 0 rfl rfl 3 (by decide) (hts (.fieldLink RX2 32 "KingTable$Links" "used" "I") (List.mem_cons_of_mem _ (List.mem_append_left _ (List.Mem.head _)))) (fun _ h9 => h9) rfl dX2_add_62 ?_
        refine lv_iconst (v := 1) hx hb dX2_add_65 (by decide) ?_
        refine lv_iadd hx hb dX2_add_66 ?_
        refine lv_topi (fun t_66 et_66 => ?_)
        first | have hk_66 := kt_addx et_66 (by first | omega | (simp only [kt_c0, kt_c1, kt_c2, kt_c3, kt_c4, kt_c8, kt_c9, kt_cm1, kt_c81, kt_c40, kt_c7, kt_c5, kt_c6, kt_c512, kt_c10, kt_c10000]; omega)) (by first | omega | (simp only [kt_c0, kt_c1, kt_c2, kt_c3, kt_c4, kt_c8, kt_c9, kt_cm1, kt_c81, kt_c40, kt_c7, kt_c5, kt_c6, kt_c512, kt_c10, kt_c10000]; omega)) | obtain ⟨k_66, hk_66, hm_66, hM_66⟩ := kt_addk et_66
        try simp only [kt_c0, kt_c1, kt_c2, kt_c3, kt_c4, kt_c8, kt_c9, kt_cm1, kt_c81, kt_c40, kt_c7, kt_c5, kt_c6, kt_c512, kt_c10, kt_c10000] at hk_66
        refine va_put (D := D) (ci := 2) (v := .int t_66) (ty := .int) (C := RX2) (T := TX2) (N := 4) hx hb hts iw_X2_add_X2 tyX2 tyX2_ok nmX2 hown hK hP hD hS 0 rfl rfl 3 (by decide) (hts (.fieldLink RX2 32 "KingTable$Links" "used" "I") (List.mem_cons_of_mem _ (List.mem_append_left _ (List.Mem.head _)))) (fun _ h9 => h9) rfl (by decide +kernel) rfl rfl (Nat.le_of_ble_eq_true rfl) dX2_add_67 (fun H locs hP hD hS => ?_)
        have hP : va_P D vwCl [(lk, .inr (2, [.ref kh, .ref ks, .ref kn, .int t_66])), (kh, .inl (cI, LH, .inl (upd he p2.toNatClampNeg us))), (ks, .inl (cI, LS, .inl (upd sr us.toNatClampNeg p1))), (kn, .inl (cI, LS, .inl (upd ne us.toNatClampNeg a_48)))] H := hP
        have hD : va_D A [(lk, .inr (2, [.ref kh, .ref ks, .ref kn, .int t_66])), (kh, .inl (cI, LH, .inl (upd he p2.toNatClampNeg us))), (ks, .inl (cI, LS, .inl (upd sr us.toNatClampNeg p1))), (kn, .inl (cI, LS, .inl (upd ne us.toNatClampNeg a_48)))] := hD
        exact kt_rv (t_66, upd he p2.toNatClampNeg us, upd sr us.toNatClampNeg p1, upd ne us.toNatClampNeg a_48) hx hb hr hlk hS dX2_add_70 hP hD (by show ((0 ≤ t_66.toInt ∧ t_66.toInt ≤ (LS : Int)) ∧ kt_r (upd he p2.toNatClampNeg us) LH (-1) ((LS : Int) - 1) ∧ kt_r (upd sr us.toNatClampNeg p1) LS 0 ((LQ : Int) - 1) ∧ kt_r (upd ne us.toNatClampNeg a_48) LS (-1) ((LS : Int) - 1)) ∧ t_66.toInt = us.toInt + 1 ∧ (upd he p2.toNatClampNeg us) = upd he p2.toInt.toNat us ∧ (upd sr us.toNatClampNeg p1) = upd sr us.toInt.toNat p1 ∧ (upd ne us.toNatClampNeg a_48) = upd ne us.toInt.toNat (he p2.toInt.toNat); first | (exfalso; omega) | exact ⟨⟨by omega, hhe, hsr, hne⟩, by omega, rfl, rfl, by rw [ea_48]; rfl⟩)

set_option maxHeartbeats 4000000 in
set_option maxRecDepth 100000 in
theorem c_X7_behindMoveE (l : Launch) (D : va_G) (cI cZ cB : ClassId) (sz : Nat) (so : Nat) (ru : Nat) (tr : Nat) (lk : Nat) (vp : Nat) (vd : Nat) (vt : Nat) (vg : Nat) (vw : Nat) (ve : Nat) (vo : Nat) (vq : Nat) (qd : Int32) (pp : Int32) (ct : Int32) (sv : Int32) (la : Nat) (gr : Nat) (rk : Nat) (rs : Nat) (rt : Nat) (rv : Nat) (tt : Int32) (kg : Int32) (vc : Int32) (gt : Nat) (gg : Nat) (gn : Nat) (gs : Int32) (gm : Int32) (fv : Nat → Int32) (fp : Nat → Int32) (nw : Nat) (sf : Nat) (sh : Nat) (tu : Int32) (ff : Nat → Int32) (p1 : Int32) (p2 : Int32) (p3 : Int32) (P_ : Nat) (B_ : Nat) (mk_ : Nat → Int32) (hvc : 0 ≤ vc.toInt ∧ vc.toInt ≤ 4) (hrv : kt_r fv 4 0 39) (hff : kt_r ff 40 (-1) 80) (htu : 0 ≤ tu.toInt ∧ tu.toInt ≤ 1) (hp2 : 0 ≤ p2.toInt ∧ p2.toInt < (P_ : Int)) (hB : gs.toInt = (B_ : Int) - 1 ∧ 5 ≤ B_ ∧ B_ ≤ 82) (hPl : P_ ≤ 40 ∧ B_ ^ P_ ≤ 5000) (hpw : ∀ p, p < P_ → (fp p).toInt = ((B_ ^ p : Nat) : Int)) (hfv : ∀ j, j < P_ → (ff j = -1 ∨ (0 ≤ (ff j).toInt ∧ (ff j).toInt < (B_ : Int) - 1))) (hp3 : 0 ≤ p3.toInt ∧ p3.toInt < (B_ : Int) - 1) (hxp : 0 ≤ (ff p2.toInt.toNat).toInt) (hix : p1.toInt = 2 * ((kt_pn B_ ff P_ : Nat) : Int) + tu.toInt) (hvi : ∀ i, i < vc.toInt.toNat → (fv i).toInt.toNat < P_ ∧ ¬ (fv i).toInt.toNat = p2.toInt.toNat ∧ 0 ≤ (ff (fv i).toInt.toNat).toInt ∧ ∀ k, k < i → ¬ (fv k).toInt.toNat = (fv i).toInt.toNat) (hmk : ∀ j, j < P_ → kt_rmv fv (upd ff p2.toInt.toNat p3) vc.toInt.toNat j = mk_ j) : kt_Mi l yX7_behindMove wsX7_behindMove { frames := 1, cells := 0, slots := 0, locals := 21 } D (kt_ty cI cZ cB) [.ref so, .ref nw, .int p1, .int p2, .int p3] sz [(so, .inr (7, [.ref ru, .ref tr, .ref lk, .ref vp, .ref vd, .ref vt, .ref vg, .ref vw, .ref ve, .ref vo, .ref vq, .int qd, .int pp, .int ct, .int sv])), (ru, .inr (6, [.ref la, .ref gr, .ref rk, .ref rs, .ref rt, .int tt, .int kg, .ref rv, .int vc])), (gr, .inr (0, [.ref gt, .ref gg, .ref gn, .int gs, .int gm])), (rv, .inl (cI, 4, .inl fv)), (vp, .inl (cI, 40, .inl fp)), (nw, .inr (8, [.ref sf, .ref sh, .int tu])), (sf, .inl (cI, 40, .inl ff))] (fun (r : Int32) (u : Unit) => r.toInt = 2 * ((kt_pn B_ mk_ P_ : Nat) : Int) + (1 - tu.toInt)) (fun (u : Unit) => [(so, .inr (7, [.ref ru, .ref tr, .ref lk, .ref vp, .ref vd, .ref vt, .ref vg, .ref vw, .ref ve, .ref vo, .ref vq, .int qd, .int pp, .int ct, .int sv])), (ru, .inr (6, [.ref la, .ref gr, .ref rk, .ref rs, .ref rt, .int tt, .int kg, .ref rv, .int vc])), (gr, .inr (0, [.ref gt, .ref gg, .ref gn, .int gs, .int gm])), (rv, .inl (cI, 4, .inl fv)), (vp, .inl (cI, 40, .inl fp)), (nw, .inr (8, [.ref sf, .ref sh, .int tu])), (sf, .inl (cI, 40, .inl ff))]) 0 0 := by
  refine kt_Mi.of (cc := cX7_behindMove) (maxL := 8) (ret := some .int) (by decide) rfl (Nat.le_of_ble_eq_true rfl) ?_
  intro p e s m below meth c A ls H hAt hP hD hS hl
  obtain ⟨hx, hb, hr, hml, hown, hts, hN, hK, hlk, hnm, hA⟩ := hAt
  have hl : lv_has ls 8 [(0, .ref so), (1, .ref nw), (2, .int p1), (3, .int p2), (4, .int p3)] := hl
  have hown : s.vm.findClass RX7 = some m.cls := hown
  have hpb : ∀ p, p < P_ → B_ ^ p ≤ 5000 := fun p hp => Nat.le_trans (Nat.pow_le_pow_right (by omega) (Nat.le_of_lt hp)) hPl.2
  have hdv : ∀ k j, j < P_ → kt_dgt B_ ((kt_rmv fv (upd ff p2.toInt.toNat p3) k) j) < B_ := fun k j hj => kt_dgt_lt (by omega) (kt_rmv_v (V := fun x => (x = -1 ∨ (0 ≤ (x).toInt ∧ (x).toInt < (B_ : Int) - 1))) (fun j hj => by
    by_cases e : j = p2.toInt.toNat
    · rw [e, pk_us]; exact Or.inr hp3
    · rw [pk_un e]; exact hfv j hj) (Or.inl rfl) k j hj)
  have hlt : ∀ k, kt_pn B_ (kt_rmv fv (upd ff p2.toInt.toNat p3) k) P_ < B_ ^ P_ := fun k => kt_pn_lt (hdv k)
  have hlt0 : kt_pn B_ ff P_ < B_ ^ P_ := kt_pn_lt (fun j hj => kt_dgt_lt (by omega) (hfv j hj))
  refine lv_iload hx hb dX7_behindMove_0 (lv_at hl 4 rfl) ?_
  refine lv_aload_n hx hb dX7_behindMove_2 rfl (lv_at hl 1 rfl) ?_
  refine lv_iload_n hx hb dX7_behindMove_3 rfl (lv_at hl 3 rfl) ?_
  refine kt_pi (wc := [(nw, .inr (8, [.ref sf, .ref sh, .int tu])), (sf, .inl (cI, 40, .inl ff))]) [5, 6] hP hD hS hA rfl (by decide) (fun hPc hDc => va_runV (As := [.int p2]) (rest := [.int p3]) ⟨hx, hb, hml, hown, hts⟩ (c_X8_fieldOfE l D cI cZ cB H.size nw sf sh tu ff p2 hff) (cwV 1 hts gX7_behindMove_X8_fieldOf rfl rfl rfl (by decide +kernel) ⟨Nat.le_of_ble_eq_true rfl, Nat.le_of_ble_eq_true rfl⟩) (kt_preV hN hK hPc hDc 0 (ci := 8) (q := (RX8, TX8, 3)) rfl rfl) rfl rfl hl.1 rfl (lv_room (Nat.le_of_ble_eq_true rfl)) dX7_behindMove_4 ⟨Nat.le_of_ble_eq_true rfl, Nat.le_of_ble_eq_true rfl⟩) (fun r_4 _ H locs hw_4 hP hS => ?_)
  have e4 := congrArg Int32.toInt (hw_4.1 (by omega))
  refine lv_isub hx hb dX7_behindMove_7 ?_
  refine lv_topi (fun t_7 et_7 => ?_)
  first | have hk_7 := kt_subx et_7 (by first | omega | (simp only [kt_c0, kt_c1, kt_c2, kt_c3, kt_c4, kt_c8, kt_c9, kt_cm1, kt_c81, kt_c40, kt_c7, kt_c5, kt_c6, kt_c512, kt_c10, kt_c10000]; omega)) (by first | omega | (simp only [kt_c0, kt_c1, kt_c2, kt_c3, kt_c4, kt_c8, kt_c9, kt_cm1, kt_c81, kt_c40, kt_c7, kt_c5, kt_c6, kt_c512, kt_c10, kt_c10000]; omega)) | obtain ⟨k_7, hk_7, hm_7, hM_7⟩ := kt_subk et_7
  refine lv_aload_n hx hb dX7_behindMove_8 rfl (lv_at hl 0 rfl) ?_
  refine va_get (D := D) (ci := 7) (C := RX7) (T := TX7) (N := 15) hx hb hts iw_X7_behindMove_X7 hown hK hP 0 rfl rfl 3 (by decide) (hts (.fieldLink RX7 25 "KingTable$Solver" "powers" "[I") (List.mem_cons_of_mem _ (List.mem_append_left _ (List.mem_append_left _ (List.mem_append_left _ (List.mem_append_left _ (List.Mem.head _))))))) (fun _ h9 => h9) rfl dX7_behindMove_9 ?_
  refine lv_iload_n hx hb dX7_behindMove_12 rfl (lv_at hl 3 rfl) ?_
  have hi_1 : vp_in p2 40 := by exact kt_in (by omega) (by omega)
  refine va_iald hx hb hK hP 4 0 rfl rfl hi_1 dX7_behindMove_13 ?_
  refine lv_topi (fun a_13 ea_13 => ?_)
  have e13 : a_13.toInt = ((B_ ^ p2.toInt.toNat : Nat) : Int) := by rw [ea_13]; exact hpw p2.toInt.toNat (by omega)
  have hb13 := hpb p2.toInt.toNat (by omega)
  refine lv_imul hx hb dX7_behindMove_14 ?_
  refine lv_topi (fun t_14 et_14 => ?_)
  obtain ⟨k_14, hk_14, hm_14, hM_14⟩ := kt_mulxk et_14
  have e4b : r_4.toInt = (ff p2.toInt.toNat).toInt := e4
  have h14 := kt_pn_upd (B := B_) (A := ff) (p := p2.toInt.toNat) (x := p3) (k := P_) (by omega)
  rw [kt_dgt_of hp3.1, kt_dgt_of hxp, show p3.toInt - (ff p2.toInt.toNat).toInt = t_7.toInt by omega, ← e13] at h14
  have h14b : ((kt_pn B_ (kt_rmv fv (upd ff p2.toInt.toNat p3) 0) P_ : Nat) : Int) = ((kt_pn B_ ff P_ : Nat) : Int) + t_7.toInt * a_13.toInt := h14
  have hl0 := hlt 0
  have hl0b : kt_pn B_ (kt_rmv fv (upd ff p2.toInt.toNat p3) 0) P_ < 5000 := by omega
  refine lv_istore (lv' := [(5, .int t_14), (0, .ref so), (1, .ref nw), (2, .int p1), (3, .int p2), (4, .int p3)]) hx hb dX7_behindMove_15 hl (by decide) rfl (fun ls hl => ?_)
  refine lv_iconst (v := 0) hx hb dX7_behindMove_17 (by decide) ?_
  refine lv_istore (lv' := [(6, .int 0), (5, .int t_14), (0, .ref so), (1, .ref nw), (2, .int p1), (3, .int p2), (4, .int p3)]) hx hb dX7_behindMove_18 hl (by decide) rfl (fun ls hl => ?_)
  refine kt_loop (σ := Nat × Int32) 20 8 (fun u => [(so, .inr (7, [.ref ru, .ref tr, .ref lk, .ref vp, .ref vd, .ref vt, .ref vg, .ref vw, .ref ve, .ref vo, .ref vq, .int qd, .int pp, .int ct, .int sv])), (ru, .inr (6, [.ref la, .ref gr, .ref rk, .ref rs, .ref rt, .int tt, .int kg, .ref rv, .int vc])), (gr, .inr (0, [.ref gt, .ref gg, .ref gn, .int gs, .int gm])), (rv, .inl (cI, 4, .inl fv)), (vp, .inl (cI, 40, .inl fp)), (nw, .inr (8, [.ref sf, .ref sh, .int tu])), (sf, .inl (cI, 40, .inl ff))]) (fun u => [(6, .int (nI u.1)), (5, .int u.2), (0, .ref so), (1, .ref nw), (2, .int p1), (3, .int p2), (4, .int p3)]) (fun n u => (u.1 ≤ 4 ∧ 4 < u.1 + n ∧ (u.1 : Int) ≤ vc.toInt) ∧ u.2.toInt = ((kt_pn B_ (kt_rmv fv (upd ff p2.toInt.toNat p3) u.1) P_ : Nat) : Int) - ((kt_pn B_ ff P_ : Nat) : Int)) (fun u h => by omega) (fun n_20 ih_20 u hI H locs hP hD hS ls hl => ?_) (5) (0, t_14) (by show (0 ≤ 4 ∧ 4 < 0 + 5 ∧ (0 : Int) ≤ vc.toInt) ∧ t_14.toInt = ((kt_pn B_ (kt_rmv fv (upd ff p2.toInt.toNat p3) 0) P_ : Nat) : Int) - ((kt_pn B_ ff P_ : Nat) : Int); exact ⟨⟨by decide, by decide, by omega⟩, by omega⟩) hP hD hS (lv_sub hl [0, 1, 2, 3, 4, 5, 6] rfl)
  obtain ⟨k, sh_⟩ := u
  have hP : va_P D vwCl [(so, .inr (7, [.ref ru, .ref tr, .ref lk, .ref vp, .ref vd, .ref vt, .ref vg, .ref vw, .ref ve, .ref vo, .ref vq, .int qd, .int pp, .int ct, .int sv])), (ru, .inr (6, [.ref la, .ref gr, .ref rk, .ref rs, .ref rt, .int tt, .int kg, .ref rv, .int vc])), (gr, .inr (0, [.ref gt, .ref gg, .ref gn, .int gs, .int gm])), (rv, .inl (cI, 4, .inl fv)), (vp, .inl (cI, 40, .inl fp)), (nw, .inr (8, [.ref sf, .ref sh, .int tu])), (sf, .inl (cI, 40, .inl ff))] H := hP
  have hD : va_D A [(so, .inr (7, [.ref ru, .ref tr, .ref lk, .ref vp, .ref vd, .ref vt, .ref vg, .ref vw, .ref ve, .ref vo, .ref vq, .int qd, .int pp, .int ct, .int sv])), (ru, .inr (6, [.ref la, .ref gr, .ref rk, .ref rs, .ref rt, .int tt, .int kg, .ref rv, .int vc])), (gr, .inr (0, [.ref gt, .ref gg, .ref gn, .int gs, .int gm])), (rv, .inl (cI, 4, .inl fv)), (vp, .inl (cI, 40, .inl fp)), (nw, .inr (8, [.ref sf, .ref sh, .int tu])), (sf, .inl (cI, 40, .inl ff))] := hD
  have hl : lv_has ls 8 [(6, .int (nI k)), (5, .int sh_), (0, .ref so), (1, .ref nw), (2, .int p1), (3, .int p2), (4, .int p3)] := hl
  have hI : (k ≤ 4 ∧ 4 < k + (n_20 + 1) ∧ (k : Int) ≤ vc.toInt) ∧ sh_.toInt = ((kt_pn B_ (kt_rmv fv (upd ff p2.toInt.toNat p3) k) P_ : Nat) : Int) - ((kt_pn B_ ff P_ : Nat) : Int) := hI
  obtain ⟨hkb, hsh⟩ := hI
  have hk0 := kt_nI (n := k) (by omega)
  have hlk_ := hlt k
  refine lv_iload hx hb dX7_behindMove_20 (lv_at hl 0 rfl) ?_
  refine lv_aload_n hx hb dX7_behindMove_22 rfl (lv_at hl 2 rfl) ?_
  refine va_get (D := D) (ci := 7) (C := RX7) (T := TX7) (N := 15) hx hb hts iw_X7_behindMove_X7 hown hK hP 0 rfl rfl 0 (by decide) (hts (.fieldLink RX7 50 "KingTable$Solver" "rules" "LKingTable$Rules;") (List.mem_cons_of_mem _ (List.mem_append_left _ (List.mem_append_left _ (List.mem_append_left _ (List.mem_append_left _ (List.mem_cons_of_mem _ (List.Mem.head _)))))))) (fun _ h9 => h9) rfl dX7_behindMove_23 ?_
  refine va_getN (D := D) (ci := 6) (C := RX6) (T := TX6) (N := 9) hx hb hts iw_X7_behindMove_X6 hown hK hP 1 rfl rfl 8 (by decide) (va_Nw.use (w := .fieldLinkNest RX7 174 "KingTable$Rules" "victimCount" "I" "KingTable") rfl (hN _ (by decide +kernel))) (fun _ h9 => h9) rfl dX7_behindMove_26 ?_
  refine lv_icmp_ge (tgt := 80) hx hb dX7_behindMove_29 (by decide) (fun c_29 => ?_) (fun c_29 => ?_)
  · have d_29 := c_29
    simp only [kt_lt, kt_le, kt_eq, kt_c0, kt_c1, kt_c2, kt_c3, kt_c4, kt_c8, kt_c9, kt_cm1, kt_c81, kt_c40, kt_c7, kt_c5, kt_c6, kt_c512, kt_c10, kt_c10000] at d_29
    refine lv_iload_n hx hb dX7_behindMove_80 rfl (lv_at hl 4 rfl) ?_
    refine lv_iconst (v := 2) hx hb dX7_behindMove_81 (by decide) ?_
    refine lv_iload hx hb dX7_behindMove_82 (lv_at hl 1 rfl) ?_
    refine lv_imul hx hb dX7_behindMove_84 ?_
    refine lv_topi (fun t_84 et_84 => ?_)
    obtain ⟨k_84, hk_84, hm_84, hM_84⟩ := kt_mulk (C := 2) (et_84.trans (Int32.mul_comm _ _)) (by decide)
    try simp only [kt_c0, kt_c1, kt_c2, kt_c3, kt_c4, kt_c8, kt_c9, kt_cm1, kt_c81, kt_c40, kt_c7, kt_c5, kt_c6, kt_c512, kt_c10, kt_c10000] at hk_84
    refine lv_iadd hx hb dX7_behindMove_85 ?_
    refine lv_topi (fun t_85 et_85 => ?_)
    first | have hk_85 := kt_addx et_85 (by first | omega | (simp only [kt_c0, kt_c1, kt_c2, kt_c3, kt_c4, kt_c8, kt_c9, kt_cm1, kt_c81, kt_c40, kt_c7, kt_c5, kt_c6, kt_c512, kt_c10, kt_c10000]; omega)) (by first | omega | (simp only [kt_c0, kt_c1, kt_c2, kt_c3, kt_c4, kt_c8, kt_c9, kt_cm1, kt_c81, kt_c40, kt_c7, kt_c5, kt_c6, kt_c512, kt_c10, kt_c10000]; omega)) | obtain ⟨k_85, hk_85, hm_85, hM_85⟩ := kt_addk et_85
    refine lv_iconst (v := 1) hx hb dX7_behindMove_86 (by decide) ?_
    refine lv_iadd hx hb dX7_behindMove_87 ?_
    refine lv_topi (fun t_87 et_87 => ?_)
    first | have hk_87 := kt_addx et_87 (by first | omega | (simp only [kt_c0, kt_c1, kt_c2, kt_c3, kt_c4, kt_c8, kt_c9, kt_cm1, kt_c81, kt_c40, kt_c7, kt_c5, kt_c6, kt_c512, kt_c10, kt_c10000]; omega)) (by first | omega | (simp only [kt_c0, kt_c1, kt_c2, kt_c3, kt_c4, kt_c8, kt_c9, kt_cm1, kt_c81, kt_c40, kt_c7, kt_c5, kt_c6, kt_c512, kt_c10, kt_c10000]; omega)) | obtain ⟨k_87, hk_87, hm_87, hM_87⟩ := kt_addk et_87
    try simp only [kt_c0, kt_c1, kt_c2, kt_c3, kt_c4, kt_c8, kt_c9, kt_cm1, kt_c81, kt_c40, kt_c7, kt_c5, kt_c6, kt_c512, kt_c10, kt_c10000] at hk_87
    refine lv_iconst (v := 2) hx hb dX7_behindMove_88 (by decide) ?_
    refine lv_aload_n hx hb dX7_behindMove_89 rfl (lv_at hl 3 rfl) ?_
    refine va_getN (D := D) (ci := 8) (C := RX8) (T := TX8) (N := 3) hx hb hts iw_X7_behindMove_X8 hown hK hP 5 rfl rfl 2 (by decide) (va_Nw.use (w := .fieldLinkNest RX7 125 "KingTable$Stand" "turn" "I" "KingTable") rfl (hN _ (by decide +kernel))) (fun _ h9 => h9) rfl dX7_behindMove_90 ?_
    refine lv_imul hx hb dX7_behindMove_93 ?_
    refine lv_topi (fun t_93 et_93 => ?_)
    obtain ⟨k_93, hk_93, hm_93, hM_93⟩ := kt_mulk (C := 2) (et_93.trans (Int32.mul_comm _ _)) (by decide)
    try simp only [kt_c0, kt_c1, kt_c2, kt_c3, kt_c4, kt_c8, kt_c9, kt_cm1, kt_c81, kt_c40, kt_c7, kt_c5, kt_c6, kt_c512, kt_c10, kt_c10000] at hk_93
    refine lv_isub hx hb dX7_behindMove_94 ?_
    refine lv_topi (fun t_94 et_94 => ?_)
    first | have hk_94 := kt_subx et_94 (by first | omega | (simp only [kt_c0, kt_c1, kt_c2, kt_c3, kt_c4, kt_c8, kt_c9, kt_cm1, kt_c81, kt_c40, kt_c7, kt_c5, kt_c6, kt_c512, kt_c10, kt_c10000]; omega)) (by first | omega | (simp only [kt_c0, kt_c1, kt_c2, kt_c3, kt_c4, kt_c8, kt_c9, kt_cm1, kt_c81, kt_c40, kt_c7, kt_c5, kt_c6, kt_c512, kt_c10, kt_c10000]; omega)) | obtain ⟨k_94, hk_94, hm_94, hM_94⟩ := kt_subk et_94
    exact kt_ri () hx hb hr hlk hS dX7_behindMove_95 hP hD (by show t_94.toInt = 2 * ((kt_pn B_ mk_ P_ : Nat) : Int) + (1 - tu.toInt); (have hkv : k = vc.toInt.toNat := by omega); (have hpm : kt_pn B_ (kt_rmv fv (upd ff p2.toInt.toNat p3) k) P_ = kt_pn B_ mk_ P_ := by rw [hkv]; exact kt_pn_cong hmk); omega)
  · have d_29 := c_29
    simp only [kt_lt, kt_le, kt_eq, kt_c0, kt_c1, kt_c2, kt_c3, kt_c4, kt_c8, kt_c9, kt_cm1, kt_c81, kt_c40, kt_c7, kt_c5, kt_c6, kt_c512, kt_c10, kt_c10000] at d_29
    refine lv_aload_n hx hb dX7_behindMove_32 rfl (lv_at hl 2 rfl) ?_
    refine va_get (D := D) (ci := 7) (C := RX7) (T := TX7) (N := 15) hx hb hts iw_X7_behindMove_X7 hown hK hP 0 rfl rfl 0 (by decide) (hts (.fieldLink RX7 50 "KingTable$Solver" "rules" "LKingTable$Rules;") (List.mem_cons_of_mem _ (List.mem_append_left _ (List.mem_append_left _ (List.mem_append_left _ (List.mem_append_left _ (List.mem_cons_of_mem _ (List.Mem.head _)))))))) (fun _ h9 => h9) rfl dX7_behindMove_33 ?_
    refine va_getN (D := D) (ci := 6) (C := RX6) (T := TX6) (N := 9) hx hb hts iw_X7_behindMove_X6 hown hK hP 1 rfl rfl 7 (by decide) (va_Nw.use (w := .fieldLinkNest RX7 177 "KingTable$Rules" "victims" "[I" "KingTable") rfl (hN _ (by decide +kernel))) (fun _ h9 => h9) rfl dX7_behindMove_36 ?_
    refine lv_iload hx hb dX7_behindMove_39 (lv_at hl 0 rfl) ?_
    have hi_2 : vp_in (nI k) 4 := by exact kt_in (by omega) (by omega)
    refine va_iald hx hb hK hP 3 0 rfl rfl hi_2 dX7_behindMove_41 ?_
    refine lv_topi (fun a_41 ea_41 => ?_)
    have ra_41 := hrv.get hi_2
    rw [← ea_41] at ra_41
    have hvk := hvi k (by omega)
    have e41 : a_41 = fv k := by rw [ea_41, nI_clamp (by omega)]
    have i41 := congrArg Int32.toInt e41
    have n41 : a_41.toInt.toNat = (fv k).toInt.toNat := by rw [e41]
    refine lv_istore (lv' := [(7, .int a_41), (6, .int (nI k)), (5, .int sh_), (0, .ref so), (1, .ref nw), (2, .int p1), (3, .int p2), (4, .int p3)]) hx hb dX7_behindMove_42 hl (by decide) rfl (fun ls hl => ?_)
    refine lv_iload hx hb dX7_behindMove_44 (lv_at hl 2 rfl) ?_
    refine lv_aload_n hx hb dX7_behindMove_46 rfl (lv_at hl 3 rfl) ?_
    refine va_get (D := D) (ci := 7) (C := RX7) (T := TX7) (N := 15) hx hb hts iw_X7_behindMove_X7 hown hK hP 0 rfl rfl 0 (by decide) (hts (.fieldLink RX7 50 "KingTable$Solver" "rules" "LKingTable$Rules;") (List.mem_cons_of_mem _ (List.mem_append_left _ (List.mem_append_left _ (List.mem_append_left _ (List.mem_append_left _ (List.mem_cons_of_mem _ (List.Mem.head _)))))))) (fun _ h9 => h9) rfl dX7_behindMove_47 ?_
    refine va_getN (D := D) (ci := 6) (C := RX6) (T := TX6) (N := 9) hx hb hts iw_X7_behindMove_X6 hown hK hP 1 rfl rfl 1 (by decide) (va_Nw.use (w := .fieldLinkNest RX7 78 "KingTable$Rules" "ground" "LKingTable$Ground;" "KingTable") rfl (hN _ (by decide +kernel))) (fun _ h9 => h9) rfl dX7_behindMove_50 ?_
    refine va_getN (D := D) (ci := 0) (C := RX0) (T := TX0) (N := 5) hx hb hts iw_X7_behindMove_X0 hown hK hP 2 rfl rfl 3 (by decide) (va_Nw.use (w := .fieldLinkNest RX7 115 "KingTable$Ground" "size" "I" "KingTable") rfl (hN _ (by decide +kernel))) (fun _ h9 => h9) rfl dX7_behindMove_53 ?_
    refine lv_aload_n hx hb dX7_behindMove_56 rfl (lv_at hl 4 rfl) ?_
    refine lv_iload hx hb dX7_behindMove_57 (lv_at hl 0 rfl) ?_
    refine kt_pi (wc := [(nw, .inr (8, [.ref sf, .ref sh, .int tu])), (sf, .inl (cI, 40, .inl ff))]) [5, 6] hP hD hS hA rfl (by decide) (fun hPc hDc => va_runV (As := [.int a_41]) (rest := [.int gs, .int sh_]) ⟨hx, hb, hml, hown, hts⟩ (c_X8_fieldOfE l D cI cZ cB H.size nw sf sh tu ff a_41 hff) (cwV 1 hts gX7_behindMove_X8_fieldOf rfl rfl rfl (by decide +kernel) ⟨Nat.le_of_ble_eq_true rfl, Nat.le_of_ble_eq_true rfl⟩) (kt_preV hN hK hPc hDc 0 (ci := 8) (q := (RX8, TX8, 3)) rfl rfl) rfl rfl hl.1 rfl (lv_room (Nat.le_of_ble_eq_true rfl)) dX7_behindMove_59 ⟨Nat.le_of_ble_eq_true rfl, Nat.le_of_ble_eq_true rfl⟩) (fun r_59 _ H locs hw_59 hP hS => ?_)
    have e59 := congrArg Int32.toInt (hw_59.1 (by omega))
    refine lv_isub hx hb dX7_behindMove_62 ?_
    refine lv_topi (fun t_62 et_62 => ?_)
    first | have hk_62 := kt_subx et_62 (by first | omega | (simp only [kt_c0, kt_c1, kt_c2, kt_c3, kt_c4, kt_c8, kt_c9, kt_cm1, kt_c81, kt_c40, kt_c7, kt_c5, kt_c6, kt_c512, kt_c10, kt_c10000]; omega)) (by first | omega | (simp only [kt_c0, kt_c1, kt_c2, kt_c3, kt_c4, kt_c8, kt_c9, kt_cm1, kt_c81, kt_c40, kt_c7, kt_c5, kt_c6, kt_c512, kt_c10, kt_c10000]; omega)) | obtain ⟨k_62, hk_62, hm_62, hM_62⟩ := kt_subk et_62
    refine lv_aload_n hx hb dX7_behindMove_63 rfl (lv_at hl 3 rfl) ?_
    refine va_get (D := D) (ci := 7) (C := RX7) (T := TX7) (N := 15) hx hb hts iw_X7_behindMove_X7 hown hK hP 0 rfl rfl 3 (by decide) (hts (.fieldLink RX7 25 "KingTable$Solver" "powers" "[I") (List.mem_cons_of_mem _ (List.mem_append_left _ (List.mem_append_left _ (List.mem_append_left _ (List.mem_append_left _ (List.Mem.head _))))))) (fun _ h9 => h9) rfl dX7_behindMove_64 ?_
    refine lv_iload hx hb dX7_behindMove_67 (lv_at hl 0 rfl) ?_
    have hi_3 : vp_in a_41 40 := by exact kt_in (by omega) (by omega)
    refine va_iald hx hb hK hP 4 0 rfl rfl hi_3 dX7_behindMove_69 ?_
    refine lv_topi (fun a_69 ea_69 => ?_)
    have e69 : a_69.toInt = ((B_ ^ (fv k).toInt.toNat : Nat) : Int) := by
      rw [ea_69, show a_41.toNatClampNeg = (fv k).toInt.toNat from n41]
      exact hpw _ hvk.1
    have hb69 := hpb _ hvk.1
    have e59b : r_59.toInt = (ff (fv k).toInt.toNat).toInt := by rw [← n41]; exact e59
    refine lv_imul hx hb dX7_behindMove_70 ?_
    refine lv_topi (fun t_70 et_70 => ?_)
    obtain ⟨k_70, hk_70, hm_70, hM_70⟩ := kt_mulxk et_70
    have h70 := kt_pn_vic (B := B_) (P := P_) (k := k) (fv := fv) (ff := ff) (F := upd ff p2.toInt.toNat p3) (gs := gs.toInt) (t := t_62.toInt) (a := a_69.toInt) (by omega) hB.1 hvk.1 (by rw [kt_rmv_not hvk.2.2.2, pk_un hvk.2.1]) hvk.2.2.1 (by omega) e69
    have hlk1 := hlt (k + 1)
    have hlk0 := hlt k
    refine lv_iadd hx hb dX7_behindMove_71 ?_
    refine lv_topi (fun t_71 et_71 => ?_)
    first | have hk_71 := kt_addx et_71 (by first | omega | (simp only [kt_c0, kt_c1, kt_c2, kt_c3, kt_c4, kt_c8, kt_c9, kt_cm1, kt_c81, kt_c40, kt_c7, kt_c5, kt_c6, kt_c512, kt_c10, kt_c10000]; omega)) (by first | omega | (simp only [kt_c0, kt_c1, kt_c2, kt_c3, kt_c4, kt_c8, kt_c9, kt_cm1, kt_c81, kt_c40, kt_c7, kt_c5, kt_c6, kt_c512, kt_c10, kt_c10000]; omega)) | obtain ⟨k_71, hk_71, hm_71, hM_71⟩ := kt_addk et_71
    refine lv_istore (lv' := [(5, .int t_71), (7, .int a_41), (6, .int (nI k)), (0, .ref so), (1, .ref nw), (2, .int p1), (3, .int p2), (4, .int p3)]) hx hb dX7_behindMove_72 hl (by decide) rfl (fun ls hl => ?_)
    refine lv_iinc (v := nI (k + 1)) (lv' := [(6, .int (nI (k + 1))), (5, .int t_71), (7, .int a_41), (0, .ref so), (1, .ref nw), (2, .int p1), (3, .int p2), (4, .int p3)]) hx hb dX7_behindMove_74 hl (k := 2) rfl (nI_1 _) (by decide) rfl (fun ls hl => ?_)
    refine lv_goto (tgt := 20) hx hb dX7_behindMove_77 (by decide) ?_
    exact ih_20 ((k + 1), t_71) (by show ((k + 1) ≤ 4 ∧ 4 < (k + 1) + n_20 ∧ ((k + 1) : Int) ≤ vc.toInt) ∧ t_71.toInt = ((kt_pn B_ (kt_rmv fv (upd ff p2.toInt.toNat p3) (k + 1)) P_ : Nat) : Int) - ((kt_pn B_ ff P_ : Nat) : Int); exact ⟨by omega, by omega⟩) H _ hP hD hS ls (lv_sub hl [0, 1, 3, 4, 5, 6, 7] rfl)
