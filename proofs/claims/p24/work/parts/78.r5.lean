/-! ===== all stands entered ===== -/
theorem kt_gc_ext {G : Nat → Prop} {U : Nat} : ∀ m, (∀ e, U ≤ e → e < U + m → ¬ G e) → kt_gc G (U + m) = kt_gc G U
  | 0, _ => rfl
  | m + 1, h => by
    rw [← Nat.add_assoc, (kt_gc_c G (U + m)).2 (h (U + m) (by omega) (by omega))]
    exact kt_gc_ext m (fun e h1 h2 => h e h1 (by omega))
theorem kt_gc_rng {G : Nat → Prop} {U : Nat} : ∀ m, (∀ e, U ≤ e → e < U + m → G e) → kt_gc G (U + m) = kt_gc G U + m
  | 0, _ => rfl
  | m + 1, h => by
    rw [← Nat.add_assoc, (kt_gc_c G (U + m)).1 (h (U + m) (by omega) (by omega)), kt_gc_rng m (fun e h1 h2 => h e h1 (by omega))]
    omega
theorem kt_gc_zero {G : Nat → Prop} : ∀ n, (∀ e, e < n → ¬ G e) → kt_gc G n = 0
  | 0, _ => rfl
  | n + 1, h => by
    rw [(kt_gc_c G n).2 (h n (by omega))]
    exact kt_gc_zero n (fun e he => h e (by omega))
theorem kt_J0.more {n U U2 N : Nat} {E X Y O : Nat → Int} {es es2 q : Nat → Nat} (h : kt_J0 n U E es X Y O q N) (hU : U ≤ U2) (h1 : ∀ e, e < U → es2 e = es e) (h2 : ∀ e, U ≤ e → e < U2 → n ≤ es2 e) : kt_J0 n U2 E es2 X Y O q N := by
  obtain ⟨a, b, c, d, f⟩ := h
  refine ⟨a, b, c, d, fun s hs => ?_⟩
  rcases f s hs with g | g | ⟨g1, g2, g3, g4, g5⟩
  · exact Or.inl g
  · exact Or.inr (Or.inl g)
  · refine Or.inr (Or.inr ⟨g1, g2, g3, ?_, g5⟩)
    have e1 := kt_gc_ext (G := fun e => es2 e = s) (U := U) (U2 - U) (fun e h3 h4 h5 => by
      have h6 := h2 e h3 (by omega)
      have h7 : es2 e = s := h5
      omega)
    rw [show U + (U2 - U) = U2 by omega] at e1
    rw [e1, g4, kt_gc_cong (n := U) (G := fun e => es e = s) (G' := fun e => es2 e = s) (fun e he => by
      show es e = s ↔ es2 e = s
      rw [h1 e he])]
theorem kt_J0.skip {n U N : Nat} {E X Y O X' Y' O' : Nat → Int} {es q : Nat → Nat} (h : kt_J0 n U E es X Y O q N) (hX : ∀ s, s < n → X' s = X s ∧ Y' s = Y s ∧ O' s = O s) (hd : ¬ kt_dc X' n) (hn : (E n = 4 ∧ X' n = -1 ∧ Y' n = 0) ∨ (E n = 3 ∧ X' n = 2 ∧ Y' n = 0 ∧ O' n = ((kt_gc (fun e => es e = n) U : Nat) : Int) ∧ 1 ≤ O' n)) : kt_J0 (n + 1) U E es X' Y' O' q N := by
  obtain ⟨a, b, c, d, f⟩ := h
  have hdi : ∀ s, s < n → (kt_dc X s ↔ kt_dc X' s) := fun s hs => by
    unfold kt_dc
    rw [(hX s hs).1]
  refine ⟨?_, fun j hj => ?_, fun s hs hds => ?_, d, fun s hs => ?_⟩
  · rw [(kt_gc_c (kt_dc X') n).2 hd, a]
    exact kt_gc_cong hdi
  · obtain ⟨b1, b2, b3⟩ := b j hj
    exact ⟨by omega, (hdi _ b1).mp b2, by rw [(hX _ b1).2.1]; exact b3⟩
  · by_cases e : s = n
    · rw [e] at hds
      exact absurd hds hd
    · exact c s (by omega) ((hdi s (by omega)).mpr hds)
  · by_cases e : s = n
    · rw [e]
      rcases hn with g | g
      · exact Or.inl g
      · exact Or.inr (Or.inr g)
    · have hs2 : s < n := by omega
      rw [(hX s hs2).1, (hX s hs2).2.1, (hX s hs2).2.2]
      exact f s hs2
theorem kt_J0.put {n U N : Nat} {E X Y O X' Y' O' : Nat → Int} {es q : Nat → Nat} (h : kt_J0 n U E es X Y O q N) (hX : ∀ s, s < n → X' s = X s ∧ Y' s = Y s ∧ O' s = O s) (hE : 0 ≤ E n ∧ E n ≤ 1) (hn : X' n = E n ∧ Y' n = 0) : kt_J0 (n + 1) U E es X' Y' O' (kt_up q N n) (N + 1) := by
  obtain ⟨a, b, c, d, f⟩ := h
  have hdi : ∀ s, s < n → (kt_dc X s ↔ kt_dc X' s) := fun s hs => by
    unfold kt_dc
    rw [(hX s hs).1]
  have hd : kt_dc X' n := ⟨by omega, by omega⟩
  have hqo : ∀ j, j < N → kt_up q N n j = q j := fun j hj => kt_up_n (by omega)
  refine ⟨?_, fun j hj => ?_, fun s hs hds => ?_, fun j k hjk hk => ?_, fun s hs => ?_⟩
  · rw [(kt_gc_c (kt_dc X') n).1 hd, a, kt_gc_cong hdi]
  · by_cases e : j = N
    · rw [e, kt_up_s]
      exact ⟨by omega, hd, hn.2⟩
    · obtain ⟨b1, b2, b3⟩ := b j (by omega)
      rw [hqo j (by omega)]
      exact ⟨by omega, (hdi _ b1).mp b2, by rw [(hX _ b1).2.1]; exact b3⟩
  · by_cases e : s = n
    · exact ⟨N, by omega, by rw [kt_up_s, e]⟩
    · obtain ⟨j, j1, j2⟩ := c s (by omega) ((hdi s (by omega)).mpr hds)
      exact ⟨j, by omega, by rw [hqo j j1]; exact j2⟩
  · rw [hqo j (by omega)]
    by_cases e : k = N
    · rw [e, kt_up_s]
      have b1 := (b j (by omega)).1
      omega
    · rw [hqo k (by omega)]
      exact d j k hjk (by omega)
  · by_cases e : s = n
    · rw [e]
      exact Or.inr (Or.inl ⟨hE.1, hE.2, hn.1, hn.2⟩)
    · have hs2 : s < n := by omega
      rw [(hX s hs2).1, (hX s hs2).2.1, (hX s hs2).2.2]
      exact f s hs2
theorem kt_J0.castq {n U N : Nat} {E X Y O : Nat → Int} {es q q' : Nat → Nat} (h : kt_J0 n U E es X Y O q N) (hq : q' = q) : kt_J0 n U E es X Y O q' N := by
  subst hq
  exact h
/-- the first n stands are entered -/
def kt_EN (T n U : Nat) (E : Nat → Int) (ed : Nat → Nat → Prop) (et : Nat → Nat) (sr he ne wo de op qu : Nat → Int32) (N : Nat) : Prop :=
  kt_LI T U et he ne ∧ kt_J0 n U E (fun e => (sr e).toInt.toNat) (fun s => (wo s).toInt) (fun s => (de s).toInt) (fun s => (op s).toInt) (fun j => (qu j).toInt.toNat) N ∧ (∀ e, e < U → (sr e).toInt.toNat < n ∧ ed (sr e).toInt.toNat (et e)) ∧ ∀ s, s < n → E s = 3 → ∀ u, ed s u → ∃ e, e < U ∧ (sr e).toInt.toNat = s ∧ et e = u
theorem kt_EN.none {T n U N : Nat} {E : Nat → Int} {ed : Nat → Nat → Prop} {et : Nat → Nat} {sr he ne wo de op qu : Nat → Int32} {x y z : Int32} (h : kt_EN T n U E ed et sr he ne wo de op qu N) (hE : E n = 4) (hx : x.toInt = -1) (hy : y.toInt = 0) : kt_EN T (n + 1) U E ed et sr he ne (upd wo n x) (upd de n y) (upd op n z) qu N := by
  obtain ⟨h1, h2, h3, h4⟩ := h
  refine ⟨h1, h2.skip (fun s hs => ?_) (fun hd => ?_) (Or.inl ⟨hE, ?_, ?_⟩), fun e he => ⟨by have h5 := (h3 e he).1; omega, (h3 e he).2⟩, fun s hs hs3 => ?_⟩
  · show (upd wo n x s).toInt = (wo s).toInt ∧ (upd de n y s).toInt = (de s).toInt ∧ (upd op n z s).toInt = (op s).toInt
    rw [pk_un (by omega), pk_un (by omega), pk_un (by omega)]
    exact ⟨rfl, rfl, rfl⟩
  · have h5 : 0 ≤ (upd wo n x n).toInt := hd.1
    rw [pk_us] at h5
    omega
  · show (upd wo n x n).toInt = -1
    rw [pk_us]
    exact hx
  · show (upd de n y n).toInt = 0
    rw [pk_us]
    exact hy
  · by_cases e : s = n
    · rw [e] at hs3
      omega
    · exact h4 s (by omega) hs3
theorem kt_EN.won {T n U N : Nat} {E : Nat → Int} {ed : Nat → Nat → Prop} {et : Nat → Nat} {sr he ne wo de op qu : Nat → Int32} {x y z sv : Int32} (h : kt_EN T n U E ed et sr he ne wo de op qu N) (hx : x.toInt = E n) (hE : 0 ≤ E n ∧ E n ≤ 1) (hy : y.toInt = 0) (hs : sv.toInt.toNat = n) : kt_EN T (n + 1) U E ed et sr he ne (upd wo n x) (upd de n y) (upd op n z) (upd qu N sv) (N + 1) := by
  obtain ⟨h1, h2, h3, h4⟩ := h
  have h5 := h2.put (X' := fun s => (upd wo n x s).toInt) (Y' := fun s => (upd de n y s).toInt) (O' := fun s => (upd op n z s).toInt) (fun s hs => by
    show (upd wo n x s).toInt = (wo s).toInt ∧ (upd de n y s).toInt = (de s).toInt ∧ (upd op n z s).toInt = (op s).toInt
    rw [pk_un (by omega), pk_un (by omega), pk_un (by omega)]
    exact ⟨rfl, rfl, rfl⟩) hE (by
    show (upd wo n x n).toInt = E n ∧ (upd de n y n).toInt = 0
    rw [pk_us, pk_us]
    exact ⟨hx, hy⟩)
  refine ⟨h1, ?_, fun e he => ⟨by have h5 := (h3 e he).1; omega, (h3 e he).2⟩, fun s hs hs3 => ?_⟩
  · exact h5.castq (by
      rw [← hs]
      exact kt_up_t qu N sv)
  · by_cases e : s = n
    · rw [e] at hs3
      omega
    · exact h4 s (by omega) hs3
theorem kt_EN.lnk {T n U N Y : Nat} {E : Nat → Int} {ed : Nat → Nat → Prop} {et suc : Nat → Nat} {mv : Nat → Prop} {sr he ne wo de op op1 qu sr2 he2 ne2 op2 : Nat → Int32} {x y us2 : Int32} {cap : Int} (h : kt_EN T n U E ed et sr he ne wo de op qu N) (hE : E n = 3) (hx : x.toInt = 2) (hy : y.toInt = 0) (hop : ∀ j, ¬ j = n → op1 j = op j) (hlx : kt_LMX T U n Y mv suc et sr op1 cap us2 sr2 he2 ne2 op2) (hmv : ∀ z, mv z → z < Y) (hed : ∀ u, ed n u ↔ ∃ z, mv z ∧ u = suc z) (hex : ∃ z, mv z) : ∃ (et2 : Nat → Nat) (U2 : Nat), us2.toInt = (U2 : Int) ∧ (U2 : Int) ≤ (U : Int) + cap ∧ kt_EN T (n + 1) U2 E ed et2 sr2 he2 ne2 (upd wo n x) (upd de n y) op2 qu N := by
  obtain ⟨h1, h2, h3, h4⟩ := h
  obtain ⟨et2, U2, u1, ⟨m1, m2, m3, m4, m5⟩, u3, u4, u5⟩ := hlx
  have hes : ∀ e, e < U → (sr2 e).toInt.toNat = (sr e).toInt.toNat := fun e he => by rw [(m3 e he).2]
  have hen : ∀ e, U ≤ e → e < U2 → (sr2 e).toInt.toNat = n := fun e h5 h6 => by
    have h7 := (m4 e h5 h6).1
    omega
  refine ⟨et2, U2, u1, u3, m2, ?_, fun e he => ?_, fun s hs hs3 u hu => ?_⟩
  · have h5 := h2.more (es2 := fun e => (sr2 e).toInt.toNat) m1 hes (fun e h6 h7 => by
      have h8 := hen e h6 h7
      show n ≤ (sr2 e).toInt.toNat
      omega)
    have hgc : kt_gc (fun e => (sr2 e).toInt.toNat = n) U2 = U2 - U := by
      have e1 := kt_gc_rng (G := fun e => (sr2 e).toInt.toNat = n) (U := U) (U2 - U) (fun e h6 h7 => hen e h6 (by omega))
      rw [show U + (U2 - U) = U2 by omega, kt_gc_zero (G := fun e => (sr2 e).toInt.toNat = n) U (fun e he h6 => by
        have h7 : (sr2 e).toInt.toNat = n := h6
        rw [hes e he] at h7
        have h8 := (h3 e he).1
        omega)] at e1
      omega
    have hpos : U < U2 := by
      obtain ⟨z, hz⟩ := hex
      obtain ⟨e, e1, e2, -⟩ := m5 z (hmv z hz) hz
      omega
    refine h5.skip (fun s hs => ?_) (fun hd => ?_) (Or.inr ⟨hE, ?_, ?_, ?_, ?_⟩)
    · show (upd wo n x s).toInt = (wo s).toInt ∧ (upd de n y s).toInt = (de s).toInt ∧ (op2 s).toInt = (op s).toInt
      rw [pk_un (by omega), pk_un (by omega), u5 s (by omega), hop s (by omega)]
      exact ⟨rfl, rfl, rfl⟩
    · have h6 : (upd wo n x n).toInt ≤ 1 := hd.2
      rw [pk_us] at h6
      omega
    · show (upd wo n x n).toInt = 2
      rw [pk_us]
      exact hx
    · show (upd de n y n).toInt = 0
      rw [pk_us]
      exact hy
    · show (op2 n).toInt = ((kt_gc (fun e => (sr2 e).toInt.toNat = n) U2 : Nat) : Int)
      rw [hgc, u4]
      omega
    · show 1 ≤ (op2 n).toInt
      rw [u4]
      omega
  · by_cases e1 : e < U
    · rw [hes e e1, (m3 e e1).1]
      exact ⟨by have h5 := (h3 e e1).1; omega, (h3 e e1).2⟩
    · rw [hen e (by omega) he]
      obtain ⟨-, z, z1, z2⟩ := m4 e (by omega) he
      exact ⟨by omega, (hed _).mpr ⟨z, z1, z2⟩⟩
  · by_cases e : s = n
    · rw [e] at hu
      obtain ⟨z, z1, z2⟩ := (hed u).mp hu
      obtain ⟨e2, a, b, c⟩ := m5 z (hmv z z1) z1
      exact ⟨e2, b, by rw [e]; exact hen e2 a b, by rw [z2]; exact c⟩
    · obtain ⟨e2, a, b, c⟩ := h4 s (by omega) hs3 u hu
      exact ⟨e2, by omega, by rw [hes e2 a]; exact b, by rw [(m3 e2 a).1]; exact c⟩
theorem kt_EN.start {T : Nat} {E : Nat → Int} {ed : Nat → Nat → Prop} {et : Nat → Nat} {sr ne wo de op qu : Nat → Int32} : kt_EN T 0 0 E ed et sr (fun _ => -1) ne wo de op qu 0 := ⟨kt_LI.new, ⟨rfl, fun j hj => absurd hj (Nat.not_lt_zero j), fun s hs => absurd hs (Nat.not_lt_zero s), fun j k _ hk => absurd hk (Nat.not_lt_zero k), fun s hs => absurd hs (Nat.not_lt_zero s)⟩, fun e he => absurd he (Nat.not_lt_zero e), fun s hs => absurd hs (Nat.not_lt_zero s)⟩
def kt_ENX (T n U0 : Nat) (cap : Int) (E : Nat → Int) (ed : Nat → Nat → Prop) (us : Int32) (sr he ne wo de op qu : Nat → Int32) (N : Nat) : Prop := ∃ (et : Nat → Nat) (U : Nat), us.toInt = (U : Int) ∧ (U : Int) ≤ (U0 : Int) + cap ∧ kt_EN T n U E ed et sr he ne wo de op qu N
/-- entered all: the queue may run, and its end is a solved table -/
theorem kt_EN.run {T U N : Nat} {E : Nat → Int} {ed : Nat → Nat → Prop} {et : Nat → Nat} {sr he ne wo de op qu : Nat → Int32} (h : kt_EN T T U E ed et sr he ne wo de op qu N) : kt_JH T U E et sr wo de op qu N 0 := by
  obtain ⟨h1, h2, h3, h4⟩ := h
  refine ⟨⟨_, h2.run⟩, fun k hk => ?_⟩
  have h5 : (de (qu k).toInt.toNat).toInt = 0 := (h2.2.1 k hk).2.2
  omega
theorem kt_sol_ed {c : Int} {E X Y : Nat → Int} {ed ed' : Nat → Nat → Prop} {s : Nat} (h : kt_sol c E ed X Y s) (hi : E s = 3 → ∀ u, ed s u ↔ ed' s u) : kt_sol c E ed' X Y s := by
  rcases h with h | h | ⟨a, b, d, f, ⟨u, g1, g2⟩⟩ | ⟨a, b, d, ⟨u, g1, g2, g3⟩, f⟩ | ⟨a, b, d, ⟨u, g1, g3⟩, f⟩
  · exact Or.inl h
  · exact Or.inr (Or.inl h)
  · exact Or.inr (Or.inr (Or.inl ⟨a, b, d, fun v hv => f v ((hi a v).mpr hv), u, (hi a u).mp g1, g2⟩))
  · exact Or.inr (Or.inr (Or.inr (Or.inl ⟨a, b, d, ⟨u, (hi a u).mp g1, g2, g3⟩, fun v hv => f v ((hi a v).mpr hv)⟩)))
  · exact Or.inr (Or.inr (Or.inr (Or.inr ⟨a, b, d, ⟨u, (hi a u).mp g1, g3⟩, fun v hv => f v ((hi a v).mpr hv)⟩)))
theorem kt_EN.lk {T U N : Nat} {E : Nat → Int} {ed : Nat → Nat → Prop} {et : Nat → Nat} {sr he ne wo de op qu : Nat → Int32} (h : kt_EN T T U E ed et sr he ne wo de op qu N) {s : Nat} (hs : s < T) (h3 : E s = 3) (u : Nat) : kt_lk U (fun e => (sr e).toInt.toNat) et s u ↔ ed s u := by
  constructor
  · rintro ⟨e, he, h1, h2⟩
    have h5 := (h.2.2.1 e he).2
    have h6 : (sr e).toInt.toNat = s := h1
    rw [h6, h2] at h5
    exact h5
  · intro hu
    obtain ⟨e, a, b, c⟩ := h.2.2.2 s hs h3 u hu
    exact ⟨e, a, b, c⟩
def kt_cq (g : Int) (fk : Nat → Int32) (P k : Nat) : Int := (if 1 ≤ k then kt_cp g 0 fk P else 0) + (if 2 ≤ k then kt_cp g 1 fk P else 0)
theorem kt_cq_s {g : Int} {fk : Nat → Int32} {P k : Nat} (hk : k < 2) : kt_cq g fk P (k + 1) = kt_cq g fk P k + kt_cp g (k : Int) fk P := by
  unfold kt_cq
  rcases (show k = 0 ∨ k = 1 by omega) with rfl | rfl
  · rw [if_pos (by omega), if_neg (by omega), if_neg (by omega), if_neg (by omega)]
    show kt_cp g 0 fk P + 0 = 0 + 0 + kt_cp g 0 fk P
    omega
  · rw [if_pos (by omega), if_pos (by omega), if_pos (by omega), if_neg (by omega)]
    show kt_cp g 0 fk P + kt_cp g 1 fk P = kt_cp g 0 fk P + 0 + kt_cp g 1 fk P
    omega
theorem kt_cq_2 {g : Int} {fk : Nat → Int32} {P : Nat} : kt_cq g fk P 2 = (P : Int) * g := by
  unfold kt_cq
  rw [if_pos (by omega), if_pos (by omega)]
  exact kt_cp_01 P
theorem kt_cq_0 {g : Int} {fk : Nat → Int32} {P : Nat} : kt_cq g fk P 0 = 0 := by
  unfold kt_cq
  rw [if_neg (by omega), if_neg (by omega)]
  rfl
theorem kt_ENX.N {T n U0 N : Nat} {cap : Int} {E : Nat → Int} {ed : Nat → Nat → Prop} {us : Int32} {sr he ne wo de op qu : Nat → Int32} (h : kt_ENX T n U0 cap E ed us sr he ne wo de op qu N) : N ≤ n := by
  obtain ⟨et, U, -, -, -, h1, -⟩ := h
  rw [h1.1]
  exact kt_gc_le _ n
/-- what the reference's and the class's first look at a stand say -/
theorem kt_ev_no {B P kg s : Nat} {w L re : Int} {fr fk : Nat → Int32} {lg : Int32} (h : ¬ kt_gdp (L * w) fr fk (fun p => ((kt_dg B (s / 2) p : Nat) : Int)) P) : kt_ev B P w L fr fk re lg kg s = 4 := by
  unfold kt_ev
  rw [if_neg h]
theorem kt_ev_yes {B P kg s v k : Nat} {w L re r : Int} {fr fk A o : Nat → Int32} {lg : Int32} (hw : 2 ≤ w ∧ w ≤ 9) (hL : 2 ≤ L ∧ L ≤ 9) (hv : s / 2 = v) (hk : s % 2 = k) (hkg : kg < P) (h : kt_gdp (L * w) fr fk (fun p => ((kt_dg B v p : Nat) : Int)) P) (hr : kt_r A P (-1) (L * w - 1)) (hA : ∀ j, j < P → A j = kt_po B P v j) (ho : ∀ f, f < 81 → o f = kt_who (kt_po B P v) P f) (hWN : kt_WN (A kg = -1) (kt_goR lg w L (fr (A kg).toInt.toNat) (A kg).toInt) (kt_can P o fr fk A re w L (k : Int)) (k : Int) r) : (kt_ev B P w L fr fk re lg kg s = if r = -1 then 3 else r) ∧ (r = -1 → ∃ y, kt_mvs P w L fr fk re (kt_po B P v) (k : Int) y) := by
  have hC := kt_can_cong (fr := fr) (fk := fk) (re := re) (s := (k : Int)) hw hL hr hA ho
  rw [hA kg hkg, propext hC] at hWN
  have hk2 : k < 2 := by omega
  have e1 : kt_ev B P w L fr fk re lg kg s = kt_wn (kt_po B P v kg = -1) (kt_goR lg w L (fr (kt_po B P v kg).toInt.toNat) (kt_po B P v kg).toInt) (kt_can P (kt_who (kt_po B P v) P) fr fk (kt_po B P v) re w L (k : Int)) (k : Int) := by
    unfold kt_ev
    rw [hv, hk, if_pos h]
  refine ⟨by rw [e1]; exact kt_wn_of (by omega) hWN, fun hr1 => ?_⟩
  rcases hWN with ⟨-, b⟩ | ⟨-, -, b⟩ | ⟨-, -, d, -⟩ | ⟨-, -, -, b⟩
  · exfalso; omega
  · exfalso; omega
  · exact kt_can_mvs d
  · exfalso; omega
theorem kt_ev_r {B P kg s : Nat} {w L re : Int} {fr fk : Nat → Int32} {lg : Int32} : kt_ev B P w L fr fk re lg kg s = 4 ∨ kt_ev B P w L fr fk re lg kg s = 3 ∨ (0 ≤ kt_ev B P w L fr fk re lg kg s ∧ kt_ev B P w L fr fk re lg kg s ≤ 1) := by
  unfold kt_ev
  by_cases h : kt_gdp (L * w) fr fk (fun p => ((kt_dg B (s / 2) p : Nat) : Int)) P
  · rw [if_pos h]
    rcases kt_wn_r (K := kt_po B P (s / 2) kg = -1) (G := kt_goR lg w L (fr (kt_po B P (s / 2) kg).toInt.toNat) (kt_po B P (s / 2) kg).toInt) (C := kt_can P (kt_who (kt_po B P (s / 2)) P) fr fk (kt_po B P (s / 2)) re w L ((s % 2 : Nat) : Int)) (s := ((s % 2 : Nat) : Int)) (by omega) with h1 | h1
    · exact Or.inr (Or.inr h1)
    · exact Or.inr (Or.inl h1.1)
  · rw [if_neg h]
    exact Or.inl rfl

set_option maxHeartbeats 4000000 in
set_option maxRecDepth 100000 in
theorem c_X7_enterX (l : Launch) (D : va_G) (cI cZ cB : ClassId) (sz : Nat) (so : Nat) (ru : Nat) (tr : Nat) (lk : Nat) (vp : Nat) (vd : Nat) (vt : Nat) (vg : Nat) (vw : Nat) (ve : Nat) (vo : Nat) (vq : Nat) (qd : Int32) (pp : Int32) (ct : Int32) (sv : Int32) (LW : Nat) (LH : Nat) (LS : Nat) (LQ : Nat) (la : Nat) (gr : Nat) (rk : Nat) (rs : Nat) (rt : Nat) (rv : Nat) (tt : Int32) (kg : Int32) (vc : Int32) (lg : Int32) (lh : Int32) (lt : Int32) (lr : Int32) (lc : Int32) (gt : Nat) (gg : Nat) (gn : Nat) (gs : Int32) (gm : Int32) (tg : Nat → Int32) (nb : Nat → Int32) (tf : Nat) (th : Nat) (tn : Int32) (xf : Nat → Int32) (xh : Nat → Int32) (ck : Nat → Int32) (fs : Nat → Int32) (ft : Nat → Int32) (fv : Nat → Int32) (fp : Nat → Int32) (kh : Nat) (ks : Nat) (kn : Nat) (us : Int32) (he : Nat → Int32) (sr : Nat → Int32) (ne : Nat → Int32) (op : Nat → Int32) (gl : Nat → Int32) (fd : Nat → Int32) (wo : Nat → Int32) (de : Nat → Int32) (qu : Nat → Int32) (w_ : Int) (L_ : Int) (P_ : Nat) (fk : Nat → Int32) (fr : Nat → Int32) (T_ : Nat) (U_ : Nat) (B_ : Nat) (v_ : Nat) (p1 : Int32) (hlw : LW ≤ 10000) (hlh : LH ≤ 10000) (hls : LS ≤ 4000000) (hlq : LQ ≤ LW ∧ LQ ≤ LH) (hgs : 0 ≤ gs.toInt ∧ gs.toInt ≤ 81) (hgt : kt_r tg 81 0 2) (hnb : kt_r nb 324 (-1) 80) (hlr : 0 ≤ lr.toInt ∧ lr.toInt ≤ 8) (htt : 0 ≤ tt.toInt ∧ tt.toInt ≤ 40) (hkg : -1 ≤ kg.toInt ∧ kg.toInt ≤ 39) (hvc : 0 ≤ vc.toInt ∧ vc.toInt ≤ 4) (hxf : kt_r xf 40 (-1) 80) (hxh : kt_r xh 81 (-1) 39) (htn : 0 ≤ tn.toInt ∧ tn.toInt ≤ 1) (hrk : kt_r ck 40 0 4) (hrs : kt_r fs 40 0 1) (hrt : kt_r ft 40 0 1) (hrv : kt_r fv 4 0 39) (hus : 0 ≤ us.toInt ∧ us.toInt ≤ (LS : Int)) (hhe : kt_r he LH (-1) ((LS : Int) - 1)) (hsr : kt_r sr LS 0 ((LQ : Int) - 1)) (hne : kt_r ne LS (-1) ((LS : Int) - 1)) (hgg : kt_r gl 81 0 1) (hfd : kt_r fd 40 0 81) (hqd : 0 ≤ qd.toInt ∧ qd.toInt ≤ (LW : Int)) (hwo : kt_r wo LW (-1) 2) (hqu : kt_r qu LW 0 ((LQ : Int) - 1)) (hp1 : 0 ≤ p1.toInt ∧ p1.toInt + 1 < (LQ : Int)) (hrx : kt_RX w_ L_ P_ tt kg gs lg lt tg gl nb fk fs ft fr ck) (hstx : kt_ST w_ L_ P_ xf xh) (hctb : 0 ≤ ct.toInt ∧ ct.toInt ≤ 10000) (hB : gs.toInt = (B_ : Int) - 1 ∧ 5 ≤ B_ ∧ B_ ≤ 82) (hPl : P_ ≤ 40 ∧ B_ ^ P_ ≤ 5000) (hpw : ∀ p, p < P_ → (fp p).toInt = ((B_ ^ p : Nat) : Int)) (hT2 : T_ = 2 * B_ ^ P_) (hTL : T_ ≤ LQ) (hgm : gm.toInt = L_ + w_ - 2) (hls2 : LS ≤ 118300) (hv2 : p1.toInt = 2 * (v_ : Int) ∧ v_ < B_ ^ P_) (hdgv : ∀ p, p < P_ → fd p = nI (kt_dg B_ v_ p)) (hcap : (U_ : Int) + (P_ : Int) * gm.toInt ≤ (LS : Int)) (henx : kt_ENX T_ p1.toInt.toNat U_ 0 (kt_ev B_ P_ w_ L_ fr fk lr.toInt lg kg.toInt.toNat) (kt_ed B_ P_ w_ L_ fr fk lr.toInt lt lh) us sr he ne wo de op qu qd.toInt.toNat) : kt_Mv l yX7_enter wsX7_enter { frames := 4, cells := 0, slots := 0, locals := 103 } D (kt_ty cI cZ cB) [.ref so, .int p1] sz [(so, .inr (7, [.ref ru, .ref tr, .ref lk, .ref vp, .ref vd, .ref vt, .ref vg, .ref vw, .ref ve, .ref vo, .ref vq, .int qd, .int pp, .int ct, .int sv])), (ru, .inr (6, [.ref la, .ref gr, .ref rk, .ref rs, .ref rt, .int tt, .int kg, .ref rv, .int vc])), (la, .inr (1, [.int lg, .int lh, .int lt, .int lr, .int lc])), (gr, .inr (0, [.ref gt, .ref gg, .ref gn, .int gs, .int gm])), (gt, .inl (cI, 81, .inl tg)), (gn, .inl (cI, 324, .inl nb)), (tr, .inr (8, [.ref tf, .ref th, .int tn])), (tf, .inl (cI, 40, .inl xf)), (th, .inl (cI, 81, .inl xh)), (rk, .inl (cI, 40, .inl ck)), (rs, .inl (cI, 40, .inl fs)), (rt, .inl (cZ, 40, .inl ft)), (rv, .inl (cI, 4, .inl fv)), (vp, .inl (cI, 40, .inl fp)), (lk, .inr (2, [.ref kh, .ref ks, .ref kn, .int us])), (kh, .inl (cI, LH, .inl he)), (ks, .inl (cI, LS, .inl sr)), (kn, .inl (cI, LS, .inl ne)), (vo, .inl (cI, LW, .inl op)), (gg, .inl (cZ, 81, .inl gl)), (vd, .inl (cI, 40, .inl fd)), (vw, .inl (cI, LW, .inl wo)), (ve, .inl (cI, LW, .inl de)), (vq, .inl (cI, LW, .inl qu))] (fun (u : (Nat → Int32) × Int32 × Int32 × (Nat → Int32) × (Nat → Int32) × (Nat → Int32) × (Nat → Int32) × Int32 × Int32 × Int32 × (Nat → Int32) × (Nat → Int32) × (Nat → Int32) × (Nat → Int32) × (Nat → Int32)) => (kt_r u.1 4 0 39 ∧ (0 ≤ u.2.1.toInt ∧ u.2.1.toInt ≤ 4) ∧ (0 ≤ u.2.2.1.toInt ∧ u.2.2.1.toInt ≤ (LS : Int)) ∧ kt_r u.2.2.2.1 LH (-1) ((LS : Int) - 1) ∧ kt_r u.2.2.2.2.1 LS 0 ((LQ : Int) - 1) ∧ kt_r u.2.2.2.2.2.1 LS (-1) ((LS : Int) - 1) ∧ (0 ≤ u.2.2.2.2.2.2.2.1.toInt ∧ u.2.2.2.2.2.2.2.1.toInt ≤ 1) ∧ (0 ≤ u.2.2.2.2.2.2.2.2.1.toInt ∧ u.2.2.2.2.2.2.2.2.1.toInt ≤ (LW : Int)) ∧ kt_r u.2.2.2.2.2.2.2.2.2.2.1 LW (-1) 2 ∧ kt_r u.2.2.2.2.2.2.2.2.2.2.2.2.1 LW 0 ((LQ : Int) - 1)) ∧ (kt_ST w_ L_ P_ u.2.2.2.2.2.2.2.2.2.2.2.2.2.1 u.2.2.2.2.2.2.2.2.2.2.2.2.2.2 ∧ kt_r u.2.2.2.2.2.2.2.2.2.2.2.2.2.1 40 (-1) 80 ∧ kt_r u.2.2.2.2.2.2.2.2.2.2.2.2.2.2 81 (-1) 39) ∧ (((kt_gdp (L_ * w_) fr fk (fun p => (fd p).toInt) P_) → u.2.2.2.2.2.2.2.2.2.1.toInt = ct.toInt + 2) ∧ (¬ (kt_gdp (L_ * w_) fr fk (fun p => (fd p).toInt) P_) → u.2.2.2.2.2.2.2.2.2.1.toInt = ct.toInt)) ∧ kt_ENX T_ (p1.toInt.toNat + 2) U_ (kt_cq gm.toInt fk P_ 2) (kt_ev B_ P_ w_ L_ fr fk lr.toInt lg kg.toInt.toNat) (kt_ed B_ P_ w_ L_ fr fk lr.toInt lt lh) u.2.2.1 u.2.2.2.2.1 u.2.2.2.1 u.2.2.2.2.2.1 u.2.2.2.2.2.2.2.2.2.2.1 u.2.2.2.2.2.2.2.2.2.2.2.1 u.2.2.2.2.2.2.1 u.2.2.2.2.2.2.2.2.2.2.2.2.1 u.2.2.2.2.2.2.2.2.1.toInt.toNat) (fun (u : (Nat → Int32) × Int32 × Int32 × (Nat → Int32) × (Nat → Int32) × (Nat → Int32) × (Nat → Int32) × Int32 × Int32 × Int32 × (Nat → Int32) × (Nat → Int32) × (Nat → Int32) × (Nat → Int32) × (Nat → Int32)) => [(so, .inr (7, [.ref ru, .ref tr, .ref lk, .ref vp, .ref vd, .ref vt, .ref vg, .ref vw, .ref ve, .ref vo, .ref vq, .int u.2.2.2.2.2.2.2.2.1, .int pp, .int u.2.2.2.2.2.2.2.2.2.1, .int sv])), (ru, .inr (6, [.ref la, .ref gr, .ref rk, .ref rs, .ref rt, .int tt, .int kg, .ref rv, .int u.2.1])), (la, .inr (1, [.int lg, .int lh, .int lt, .int lr, .int lc])), (gr, .inr (0, [.ref gt, .ref gg, .ref gn, .int gs, .int gm])), (gt, .inl (cI, 81, .inl tg)), (gn, .inl (cI, 324, .inl nb)), (tr, .inr (8, [.ref tf, .ref th, .int u.2.2.2.2.2.2.2.1])), (tf, .inl (cI, 40, .inl u.2.2.2.2.2.2.2.2.2.2.2.2.2.1)), (th, .inl (cI, 81, .inl u.2.2.2.2.2.2.2.2.2.2.2.2.2.2)), (rk, .inl (cI, 40, .inl ck)), (rs, .inl (cI, 40, .inl fs)), (rt, .inl (cZ, 40, .inl ft)), (rv, .inl (cI, 4, .inl u.1)), (vp, .inl (cI, 40, .inl fp)), (lk, .inr (2, [.ref kh, .ref ks, .ref kn, .int u.2.2.1])), (kh, .inl (cI, LH, .inl u.2.2.2.1)), (ks, .inl (cI, LS, .inl u.2.2.2.2.1)), (kn, .inl (cI, LS, .inl u.2.2.2.2.2.1)), (vo, .inl (cI, LW, .inl u.2.2.2.2.2.2.1)), (gg, .inl (cZ, 81, .inl gl)), (vd, .inl (cI, 40, .inl fd)), (vw, .inl (cI, LW, .inl u.2.2.2.2.2.2.2.2.2.2.1)), (ve, .inl (cI, LW, .inl u.2.2.2.2.2.2.2.2.2.2.2.1)), (vq, .inl (cI, LW, .inl u.2.2.2.2.2.2.2.2.2.2.2.2.1))]) 0 0 := by
  refine kt_Mv.of (cc := cX7_enter) (maxL := 6) (ret := none) (by decide) rfl (Nat.le_of_ble_eq_true rfl) ?_
  intro p e s m below meth c A ls H hAt hP hD hS hl
  obtain ⟨hx, hb, hr, hml, hown, hts, hN, hK, hlk, hnm, hA⟩ := hAt
  have hl : lv_has ls 6 [(0, .ref so), (1, .int p1)] := hl
  have hown : s.vm.findClass RX7 = some m.cls := hown
  have hLWi : (nI LW).toInt = (LW : Int) := kt_nI (by omega)
  have hLHi : (nI LH).toInt = (LH : Int) := kt_nI (by omega)
  have hLSi : (nI LS).toInt = (LS : Int) := kt_nI (by omega)
  have hrx0 := hrx
  obtain ⟨hgx, hnx, htf, ⟨htP, hP40⟩, hsd_, hkq, hck, hkr⟩ := hrx
  have hgx1 := hgx.1
  have hw_ := hgx.2.1
  have hL_ := hgx.2.2
  have httP : tt.toInt = (P_ : Int) := by rw [htP, kt_nI (by omega)]
  have hsz := kt_mulb hL_ hw_
  have hg0 : 0 ≤ gm.toInt := by omega
  have hBF : (B_ : Int) = L_ * w_ + 1 := by omega
  have hdl : ∀ p, kt_dg B_ v_ p < B_ := fun p => kt_dg_lt (by omega)
  have hgdi : (kt_gdp (L_ * w_) fr fk (fun p => (fd p).toInt) P_) ↔ kt_gdp (L_ * w_) fr fk (fun p => ((kt_dg B_ v_ p : Nat) : Int)) P_ := kt_gdp_cong (fun p hp => by
    show (fd p).toInt = ((kt_dg B_ v_ p : Nat) : Int)
    have h5 := hdl p
    rw [hdgv p hp, kt_nI (by omega)])
  have hkgP : kg.toInt.toNat < P_ := by omega
  have hc0 : ∀ t, 0 ≤ kt_cp gm.toInt t fk P_ := fun t => kt_cp_le hg0 (Nat.zero_le P_)
  have hc01 := kt_cq_2 (g := gm.toInt) (fk := fk) (P := P_)
  have hcq0 := kt_cq_0 (g := gm.toInt) (fk := fk) (P := P_)
  have hpnv : kt_pn B_ (kt_po B_ P_ v_) P_ = v_ := by
    rw [kt_pn_po (by omega) (by omega) P_ (Nat.le_refl P_), Nat.mod_eq_of_lt hv2.2]
  refine lv_aload_n hx hb dX7_enter_0 rfl (lv_at hl 0 rfl) ?_
  refine kt_bi (wc := [(so, .inr (7, [.ref ru, .ref tr, .ref lk, .ref vp, .ref vd, .ref vt, .ref vg, .ref vw, .ref ve, .ref vo, .ref vq, .int qd, .int pp, .int ct, .int sv])), (ru, .inr (6, [.ref la, .ref gr, .ref rk, .ref rs, .ref rt, .int tt, .int kg, .ref rv, .int vc])), (gr, .inr (0, [.ref gt, .ref gg, .ref gn, .int gs, .int gm])), (gt, .inl (cI, 81, .inl tg)), (tr, .inr (8, [.ref tf, .ref th, .int tn])), (tf, .inl (cI, 40, .inl xf)), (th, .inl (cI, 81, .inl xh)), (vd, .inl (cI, 40, .inl fd))]) (wr := [(la, .inr (1, [.int lg, .int lh, .int lt, .int lr, .int lc])), (gn, .inl (cI, 324, .inl nb)), (rk, .inl (cI, 40, .inl ck)), (rs, .inl (cI, 40, .inl fs)), (rt, .inl (cZ, 40, .inl ft)), (rv, .inl (cI, 4, .inl fv)), (vp, .inl (cI, 40, .inl fp)), (lk, .inr (2, [.ref kh, .ref ks, .ref kn, .int us])), (kh, .inl (cI, LH, .inl he)), (ks, .inl (cI, LS, .inl sr)), (kn, .inl (cI, LS, .inl ne)), (vo, .inl (cI, LW, .inl op)), (gg, .inl (cZ, 81, .inl gl)), (vw, .inl (cI, LW, .inl wo)), (ve, .inl (cI, LW, .inl de)), (vq, .inl (cI, LW, .inl qu))]) [0, 1, 3, 4, 6, 7, 8, 20] [2, 5, 9, 10, 11, 12, 13, 14, 15, 16, 17, 18, 19, 21, 22, 23] hP hD hS hA rfl rfl (by decide) (by decide) (by decide) (fun hPc hDc => va_runV (As := []) (rest := []) ⟨hx, hb, hml, hown, hts⟩ (c_X7_setUpE l D cI cZ cB H.size so ru tr lk vp vd vt vg vw ve vo vq qd pp ct sv la gr rk rs rt rv tt kg vc gt gg gn gs gm tf th tn tg xf xh fd lg lt nb w_ L_ P_ gl fk fs ft fr ck (by first | assumption | omega | rfl | decide) (by first | assumption | omega | rfl | decide) (by first | assumption | omega | rfl | decide) (by first | assumption | omega | rfl | decide) (by first | assumption | omega | rfl | decide) (by first | assumption | omega | rfl | decide) (by first | assumption | omega | rfl | decide) (by first | assumption | omega | rfl | decide)) (cwV 0 hts gX7_enter_X7_setUp rfl rfl rfl (by decide +kernel) ⟨Nat.le_of_ble_eq_true rfl, Nat.le_of_ble_eq_true rfl⟩) (kt_preV hN hK hPc hDc 0 (ci := 7) (q := (RX7, TX7, 15)) rfl rfl) rfl rfl hl.1 rfl (lv_room (Nat.le_of_ble_eq_true rfl)) dX7_enter_1 ⟨Nat.le_of_ble_eq_true rfl, Nat.le_of_ble_eq_true rfl⟩) (fun r_1 u_ H locs hw_1 hP hD hS => ?_)
  obtain ⟨xf2_1, xh2_1⟩ := u_
  have hP : va_P D vwCl [(so, .inr (7, [.ref ru, .ref tr, .ref lk, .ref vp, .ref vd, .ref vt, .ref vg, .ref vw, .ref ve, .ref vo, .ref vq, .int qd, .int pp, .int ct, .int sv])), (ru, .inr (6, [.ref la, .ref gr, .ref rk, .ref rs, .ref rt, .int tt, .int kg, .ref rv, .int vc])), (la, .inr (1, [.int lg, .int lh, .int lt, .int lr, .int lc])), (gr, .inr (0, [.ref gt, .ref gg, .ref gn, .int gs, .int gm])), (gt, .inl (cI, 81, .inl tg)), (gn, .inl (cI, 324, .inl nb)), (tr, .inr (8, [.ref tf, .ref th, .int tn])), (tf, .inl (cI, 40, .inl xf2_1)), (th, .inl (cI, 81, .inl xh2_1)), (rk, .inl (cI, 40, .inl ck)), (rs, .inl (cI, 40, .inl fs)), (rt, .inl (cZ, 40, .inl ft)), (rv, .inl (cI, 4, .inl fv)), (vp, .inl (cI, 40, .inl fp)), (lk, .inr (2, [.ref kh, .ref ks, .ref kn, .int us])), (kh, .inl (cI, LH, .inl he)), (ks, .inl (cI, LS, .inl sr)), (kn, .inl (cI, LS, .inl ne)), (vo, .inl (cI, LW, .inl op)), (gg, .inl (cZ, 81, .inl gl)), (vd, .inl (cI, 40, .inl fd)), (vw, .inl (cI, LW, .inl wo)), (ve, .inl (cI, LW, .inl de)), (vq, .inl (cI, LW, .inl qu))] H := hP.sub [16, 17, 0, 18, 19, 1, 20, 21, 22, 2, 3, 4, 5, 6, 7, 8, 9, 10, 11, 12, 23, 13, 14, 15] rfl
  have hD : va_D A [(so, .inr (7, [.ref ru, .ref tr, .ref lk, .ref vp, .ref vd, .ref vt, .ref vg, .ref vw, .ref ve, .ref vo, .ref vq, .int qd, .int pp, .int ct, .int sv])), (ru, .inr (6, [.ref la, .ref gr, .ref rk, .ref rs, .ref rt, .int tt, .int kg, .ref rv, .int vc])), (la, .inr (1, [.int lg, .int lh, .int lt, .int lr, .int lc])), (gr, .inr (0, [.ref gt, .ref gg, .ref gn, .int gs, .int gm])), (gt, .inl (cI, 81, .inl tg)), (gn, .inl (cI, 324, .inl nb)), (tr, .inr (8, [.ref tf, .ref th, .int tn])), (tf, .inl (cI, 40, .inl xf2_1)), (th, .inl (cI, 81, .inl xh2_1)), (rk, .inl (cI, 40, .inl ck)), (rs, .inl (cI, 40, .inl fs)), (rt, .inl (cZ, 40, .inl ft)), (rv, .inl (cI, 4, .inl fv)), (vp, .inl (cI, 40, .inl fp)), (lk, .inr (2, [.ref kh, .ref ks, .ref kn, .int us])), (kh, .inl (cI, LH, .inl he)), (ks, .inl (cI, LS, .inl sr)), (kn, .inl (cI, LS, .inl ne)), (vo, .inl (cI, LW, .inl op)), (gg, .inl (cZ, 81, .inl gl)), (vd, .inl (cI, 40, .inl fd)), (vw, .inl (cI, LW, .inl wo)), (ve, .inl (cI, LW, .inl de)), (vq, .inl (cI, LW, .inl qu))] := hD.sub [16, 17, 0, 18, 19, 1, 20, 21, 22, 2, 3, 4, 5, 6, 7, 8, 9, 10, 11, 12, 23, 13, 14, 15] (by decide) rfl
  try dsimp only at hw_1
  obtain ⟨hsu, hst1, hpos, hxf, hxh⟩ := hw_1
  refine lv_istore_n (lv' := [(2, .int r_1), (0, .ref so), (1, .int p1)]) hx hb dX7_enter_4 rfl hl (by decide) rfl (fun ls hl => ?_)
  refine lv_iconst (v := 0) hx hb dX7_enter_5 (by decide) ?_
  refine lv_istore_n (lv' := [(3, .int 0), (2, .int r_1), (0, .ref so), (1, .int p1)]) hx hb dX7_enter_6 rfl hl (by decide) rfl (fun ls hl => ?_)
  refine kt_loop (σ := Nat × (Nat → Int32) × Int32 × Int32 × (Nat → Int32) × (Nat → Int32) × (Nat → Int32) × (Nat → Int32) × Int32 × Int32 × Int32 × (Nat → Int32) × (Nat → Int32) × (Nat → Int32)) 7 6 (fun u => [(so, .inr (7, [.ref ru, .ref tr, .ref lk, .ref vp, .ref vd, .ref vt, .ref vg, .ref vw, .ref ve, .ref vo, .ref vq, .int u.2.2.2.2.2.2.2.2.2.1, .int pp, .int u.2.2.2.2.2.2.2.2.2.2.1, .int sv])), (ru, .inr (6, [.ref la, .ref gr, .ref rk, .ref rs, .ref rt, .int tt, .int kg, .ref rv, .int u.2.2.1])), (la, .inr (1, [.int lg, .int lh, .int lt, .int lr, .int lc])), (gr, .inr (0, [.ref gt, .ref gg, .ref gn, .int gs, .int gm])), (gt, .inl (cI, 81, .inl tg)), (gn, .inl (cI, 324, .inl nb)), (tr, .inr (8, [.ref tf, .ref th, .int u.2.2.2.2.2.2.2.2.1])), (tf, .inl (cI, 40, .inl xf2_1)), (th, .inl (cI, 81, .inl xh2_1)), (rk, .inl (cI, 40, .inl ck)), (rs, .inl (cI, 40, .inl fs)), (rt, .inl (cZ, 40, .inl ft)), (rv, .inl (cI, 4, .inl u.2.1)), (vp, .inl (cI, 40, .inl fp)), (lk, .inr (2, [.ref kh, .ref ks, .ref kn, .int u.2.2.2.1])), (kh, .inl (cI, LH, .inl u.2.2.2.2.1)), (ks, .inl (cI, LS, .inl u.2.2.2.2.2.1)), (kn, .inl (cI, LS, .inl u.2.2.2.2.2.2.1)), (vo, .inl (cI, LW, .inl u.2.2.2.2.2.2.2.1)), (gg, .inl (cZ, 81, .inl gl)), (vd, .inl (cI, 40, .inl fd)), (vw, .inl (cI, LW, .inl u.2.2.2.2.2.2.2.2.2.2.2.1)), (ve, .inl (cI, LW, .inl u.2.2.2.2.2.2.2.2.2.2.2.2.1)), (vq, .inl (cI, LW, .inl u.2.2.2.2.2.2.2.2.2.2.2.2.2))]) (fun u => [(3, .int (nI u.1)), (2, .int r_1), (0, .ref so), (1, .int p1)]) (fun n u => (u.1 ≤ 2 ∧ 2 < u.1 + n) ∧ (kt_r u.2.1 4 0 39 ∧ (0 ≤ u.2.2.1.toInt ∧ u.2.2.1.toInt ≤ 4) ∧ (0 ≤ u.2.2.2.1.toInt ∧ u.2.2.2.1.toInt ≤ (LS : Int)) ∧ kt_r u.2.2.2.2.1 LH (-1) ((LS : Int) - 1) ∧ kt_r u.2.2.2.2.2.1 LS 0 ((LQ : Int) - 1) ∧ kt_r u.2.2.2.2.2.2.1 LS (-1) ((LS : Int) - 1) ∧ (0 ≤ u.2.2.2.2.2.2.2.2.1.toInt ∧ u.2.2.2.2.2.2.2.2.1.toInt ≤ 1) ∧ (0 ≤ u.2.2.2.2.2.2.2.2.2.1.toInt ∧ u.2.2.2.2.2.2.2.2.2.1.toInt ≤ (LW : Int)) ∧ kt_r u.2.2.2.2.2.2.2.2.2.2.2.1 LW (-1) 2 ∧ kt_r u.2.2.2.2.2.2.2.2.2.2.2.2.2 LW 0 ((LQ : Int) - 1)) ∧ (0 ≤ u.2.2.2.2.2.2.2.2.2.2.1.toInt ∧ u.2.2.2.2.2.2.2.2.2.2.1.toInt ≤ ct.toInt + (u.1 : Int)) ∧ (((kt_gdp (L_ * w_) fr fk (fun p => (fd p).toInt) P_) → u.2.2.2.2.2.2.2.2.2.2.1.toInt = ct.toInt + (u.1 : Int)) ∧ (¬ (kt_gdp (L_ * w_) fr fk (fun p => (fd p).toInt) P_) → u.2.2.2.2.2.2.2.2.2.2.1.toInt = ct.toInt)) ∧ kt_ENX T_ ((p1.toInt.toNat + u.1)) U_ (kt_cq gm.toInt fk P_ u.1) (kt_ev B_ P_ w_ L_ fr fk lr.toInt lg kg.toInt.toNat) (kt_ed B_ P_ w_ L_ fr fk lr.toInt lt lh) u.2.2.2.1 u.2.2.2.2.2.1 u.2.2.2.2.1 u.2.2.2.2.2.2.1 u.2.2.2.2.2.2.2.2.2.2.2.1 u.2.2.2.2.2.2.2.2.2.2.2.2.1 u.2.2.2.2.2.2.2.1 u.2.2.2.2.2.2.2.2.2.2.2.2.2 u.2.2.2.2.2.2.2.2.2.1.toInt.toNat) (fun u h => by omega) (fun n_7 ih_7 u hI H locs hP hD hS ls hl => ?_) (3) (0, fv, vc, us, he, sr, ne, op, tn, qd, ct, wo, de, qu) (by show (0 ≤ 2 ∧ 2 < 0 + 3) ∧ (kt_r fv 4 0 39 ∧ (0 ≤ vc.toInt ∧ vc.toInt ≤ 4) ∧ (0 ≤ us.toInt ∧ us.toInt ≤ (LS : Int)) ∧ kt_r he LH (-1) ((LS : Int) - 1) ∧ kt_r sr LS 0 ((LQ : Int) - 1) ∧ kt_r ne LS (-1) ((LS : Int) - 1) ∧ (0 ≤ tn.toInt ∧ tn.toInt ≤ 1) ∧ (0 ≤ qd.toInt ∧ qd.toInt ≤ (LW : Int)) ∧ kt_r wo LW (-1) 2 ∧ kt_r qu LW 0 ((LQ : Int) - 1)) ∧ (0 ≤ ct.toInt ∧ ct.toInt ≤ ct.toInt + (0 : Int)) ∧ (((kt_gdp (L_ * w_) fr fk (fun p => (fd p).toInt) P_) → ct.toInt = ct.toInt + (0 : Int)) ∧ (¬ (kt_gdp (L_ * w_) fr fk (fun p => (fd p).toInt) P_) → ct.toInt = ct.toInt)) ∧ kt_ENX T_ ((p1.toInt.toNat + 0)) U_ (kt_cq gm.toInt fk P_ 0) (kt_ev B_ P_ w_ L_ fr fk lr.toInt lg kg.toInt.toNat) (kt_ed B_ P_ w_ L_ fr fk lr.toInt lt lh) us sr he ne wo de op qu qd.toInt.toNat; exact ⟨by decide, ⟨hrv, hvc, hus, hhe, hsr, hne, htn, hqd, hwo, hqu⟩, by omega, ⟨fun _ => by omega, fun _ => rfl⟩, by rw [hcq0]; exact henx⟩) hP hD hS (lv_sub hl [0, 1, 2, 3] rfl)
  obtain ⟨k, y3, yv, yu, y4, y5, y6, y7, yt, yq, yc, y8, y9, y0⟩ := u
  have hP : va_P D vwCl [(so, .inr (7, [.ref ru, .ref tr, .ref lk, .ref vp, .ref vd, .ref vt, .ref vg, .ref vw, .ref ve, .ref vo, .ref vq, .int yq, .int pp, .int yc, .int sv])), (ru, .inr (6, [.ref la, .ref gr, .ref rk, .ref rs, .ref rt, .int tt, .int kg, .ref rv, .int yv])), (la, .inr (1, [.int lg, .int lh, .int lt, .int lr, .int lc])), (gr, .inr (0, [.ref gt, .ref gg, .ref gn, .int gs, .int gm])), (gt, .inl (cI, 81, .inl tg)), (gn, .inl (cI, 324, .inl nb)), (tr, .inr (8, [.ref tf, .ref th, .int yt])), (tf, .inl (cI, 40, .inl xf2_1)), (th, .inl (cI, 81, .inl xh2_1)), (rk, .inl (cI, 40, .inl ck)), (rs, .inl (cI, 40, .inl fs)), (rt, .inl (cZ, 40, .inl ft)), (rv, .inl (cI, 4, .inl y3)), (vp, .inl (cI, 40, .inl fp)), (lk, .inr (2, [.ref kh, .ref ks, .ref kn, .int yu])), (kh, .inl (cI, LH, .inl y4)), (ks, .inl (cI, LS, .inl y5)), (kn, .inl (cI, LS, .inl y6)), (vo, .inl (cI, LW, .inl y7)), (gg, .inl (cZ, 81, .inl gl)), (vd, .inl (cI, 40, .inl fd)), (vw, .inl (cI, LW, .inl y8)), (ve, .inl (cI, LW, .inl y9)), (vq, .inl (cI, LW, .inl y0))] H := hP
  have hD : va_D A [(so, .inr (7, [.ref ru, .ref tr, .ref lk, .ref vp, .ref vd, .ref vt, .ref vg, .ref vw, .ref ve, .ref vo, .ref vq, .int yq, .int pp, .int yc, .int sv])), (ru, .inr (6, [.ref la, .ref gr, .ref rk, .ref rs, .ref rt, .int tt, .int kg, .ref rv, .int yv])), (la, .inr (1, [.int lg, .int lh, .int lt, .int lr, .int lc])), (gr, .inr (0, [.ref gt, .ref gg, .ref gn, .int gs, .int gm])), (gt, .inl (cI, 81, .inl tg)), (gn, .inl (cI, 324, .inl nb)), (tr, .inr (8, [.ref tf, .ref th, .int yt])), (tf, .inl (cI, 40, .inl xf2_1)), (th, .inl (cI, 81, .inl xh2_1)), (rk, .inl (cI, 40, .inl ck)), (rs, .inl (cI, 40, .inl fs)), (rt, .inl (cZ, 40, .inl ft)), (rv, .inl (cI, 4, .inl y3)), (vp, .inl (cI, 40, .inl fp)), (lk, .inr (2, [.ref kh, .ref ks, .ref kn, .int yu])), (kh, .inl (cI, LH, .inl y4)), (ks, .inl (cI, LS, .inl y5)), (kn, .inl (cI, LS, .inl y6)), (vo, .inl (cI, LW, .inl y7)), (gg, .inl (cZ, 81, .inl gl)), (vd, .inl (cI, 40, .inl fd)), (vw, .inl (cI, LW, .inl y8)), (ve, .inl (cI, LW, .inl y9)), (vq, .inl (cI, LW, .inl y0))] := hD
  have hl : lv_has ls 6 [(3, .int (nI k)), (2, .int r_1), (0, .ref so), (1, .int p1)] := hl
  have hI : (k ≤ 2 ∧ 2 < k + (n_7 + 1)) ∧ (kt_r y3 4 0 39 ∧ (0 ≤ yv.toInt ∧ yv.toInt ≤ 4) ∧ (0 ≤ yu.toInt ∧ yu.toInt ≤ (LS : Int)) ∧ kt_r y4 LH (-1) ((LS : Int) - 1) ∧ kt_r y5 LS 0 ((LQ : Int) - 1) ∧ kt_r y6 LS (-1) ((LS : Int) - 1) ∧ (0 ≤ yt.toInt ∧ yt.toInt ≤ 1) ∧ (0 ≤ yq.toInt ∧ yq.toInt ≤ (LW : Int)) ∧ kt_r y8 LW (-1) 2 ∧ kt_r y0 LW 0 ((LQ : Int) - 1)) ∧ (0 ≤ yc.toInt ∧ yc.toInt ≤ ct.toInt + (k : Int)) ∧ (((kt_gdp (L_ * w_) fr fk (fun p => (fd p).toInt) P_) → yc.toInt = ct.toInt + (k : Int)) ∧ (¬ (kt_gdp (L_ * w_) fr fk (fun p => (fd p).toInt) P_) → yc.toInt = ct.toInt)) ∧ kt_ENX T_ ((p1.toInt.toNat + k)) U_ (kt_cq gm.toInt fk P_ k) (kt_ev B_ P_ w_ L_ fr fk lr.toInt lg kg.toInt.toNat) (kt_ed B_ P_ w_ L_ fr fk lr.toInt lt lh) yu y5 y4 y6 y8 y9 y7 y0 yq.toInt.toNat := hI
  obtain ⟨hkb, ⟨hrv, hvc, hus, hhe, hsr, hne, htn, hqd, hwo, hqu⟩, hcb, ⟨hc1, hc0_⟩, henx⟩ := hI
  have hk0 := kt_nI (n := k) (by omega)
  have hNn := henx.N
  obtain ⟨et1, U1, hu1, hu2, hen⟩ := henx
  refine lv_iload_n hx hb dX7_enter_7 rfl (lv_at hl 0 rfl) ?_
  refine lv_iconst (v := 2) hx hb dX7_enter_8 (by decide) ?_
  refine lv_icmp_ge (tgt := 117) hx hb dX7_enter_9 (by decide) (fun c_9 => ?_) (fun c_9 => ?_)
  · have d_9 := c_9
    simp only [kt_lt, kt_le, kt_eq, kt_c0, kt_c1, kt_c2, kt_c3, kt_c4, kt_c8, kt_c9, kt_cm1, kt_c81, kt_c40, kt_c7, kt_c5, kt_c6, kt_c512, kt_c10, kt_c10000] at d_9
    exact kt_rv (y3, yv, yu, y4, y5, y6, y7, yt, yq, yc, y8, y9, y0, xf2_1, xh2_1) hx hb hr hlk hS dX7_enter_117 hP hD (by show (kt_r y3 4 0 39 ∧ (0 ≤ yv.toInt ∧ yv.toInt ≤ 4) ∧ (0 ≤ yu.toInt ∧ yu.toInt ≤ (LS : Int)) ∧ kt_r y4 LH (-1) ((LS : Int) - 1) ∧ kt_r y5 LS 0 ((LQ : Int) - 1) ∧ kt_r y6 LS (-1) ((LS : Int) - 1) ∧ (0 ≤ yt.toInt ∧ yt.toInt ≤ 1) ∧ (0 ≤ yq.toInt ∧ yq.toInt ≤ (LW : Int)) ∧ kt_r y8 LW (-1) 2 ∧ kt_r y0 LW 0 ((LQ : Int) - 1)) ∧ (kt_ST w_ L_ P_ xf2_1 xh2_1 ∧ kt_r xf2_1 40 (-1) 80 ∧ kt_r xh2_1 81 (-1) 39) ∧ (((kt_gdp (L_ * w_) fr fk (fun p => (fd p).toInt) P_) → yc.toInt = ct.toInt + 2) ∧ (¬ (kt_gdp (L_ * w_) fr fk (fun p => (fd p).toInt) P_) → yc.toInt = ct.toInt)) ∧ kt_ENX T_ (p1.toInt.toNat + 2) U_ (kt_cq gm.toInt fk P_ 2) (kt_ev B_ P_ w_ L_ fr fk lr.toInt lg kg.toInt.toNat) (kt_ed B_ P_ w_ L_ fr fk lr.toInt lt lh) yu y5 y4 y6 y8 y9 y7 y0 yq.toInt.toNat; (have hk2 : k = 2 := by omega); (rw [hk2] at hc1 hu2 hen); exact ⟨⟨hrv, hvc, hus, hhe, hsr, hne, htn, hqd, hwo, hqu⟩, ⟨hst1, hxf, hxh⟩, ⟨hc1, hc0_⟩, et1, U1, hu1, hu2, hen⟩)
  · have d_9 := c_9
    simp only [kt_lt, kt_le, kt_eq, kt_c0, kt_c1, kt_c2, kt_c3, kt_c4, kt_c8, kt_c9, kt_cm1, kt_c81, kt_c40, kt_c7, kt_c5, kt_c6, kt_c512, kt_c10, kt_c10000] at d_9
    refine lv_iload_n hx hb dX7_enter_12 rfl (lv_at hl 3 rfl) ?_
    refine lv_iload_n hx hb dX7_enter_13 rfl (lv_at hl 0 rfl) ?_
    refine lv_iadd hx hb dX7_enter_14 ?_
    refine lv_topi (fun t_14 et_14 => ?_)
    first | have hk_14 := kt_addx et_14 (by first | omega | (simp only [kt_c0, kt_c1, kt_c2, kt_c3, kt_c4, kt_c8, kt_c9, kt_cm1, kt_c81, kt_c40, kt_c7, kt_c5, kt_c6, kt_c512, kt_c10, kt_c10000]; omega)) (by first | omega | (simp only [kt_c0, kt_c1, kt_c2, kt_c3, kt_c4, kt_c8, kt_c9, kt_cm1, kt_c81, kt_c40, kt_c7, kt_c5, kt_c6, kt_c512, kt_c10, kt_c10000]; omega)) | obtain ⟨k_14, hk_14, hm_14, hM_14⟩ := kt_addk et_14
    have hsN : t_14.toInt.toNat = (p1.toInt.toNat + k) := by omega
    have hn2 : (p1.toInt.toNat + k) / 2 = v_ := by omega
    have hn1 : (p1.toInt.toNat + k) % 2 = k := by omega
    have hcqs := kt_cq_s (g := gm.toInt) (fk := fk) (P := P_) (k := k) (by omega)
    have hck0 := hc0 (k : Int)
    have hcqm : (kt_cq gm.toInt fk P_ (k + 1)) ≤ (P_ : Int) * gm.toInt := by
      rcases (show k = 0 ∨ k = 1 by omega) with h | h
      · have h6 := congrArg (kt_cq gm.toInt fk P_) (show k + 1 = 1 by omega); rw [← hc01, h6, kt_cq_s (k := 1) (by omega)]; have h5 := hc0 ((1 : Nat) : Int); omega
      · rw [← hc01, h]; exact Int.le_refl _
    refine lv_istore (lv' := [(4, .int t_14), (3, .int (nI k)), (2, .int r_1), (0, .ref so), (1, .int p1)]) hx hb dX7_enter_15 hl (by decide) rfl (fun ls hl => ?_)
    refine lv_aload_n hx hb dX7_enter_17 rfl (lv_at hl 3 rfl) ?_
    refine va_get (D := D) (ci := 7) (C := RX7) (T := TX7) (N := 15) hx hb hts iw_X7_enter_X7 hown hK hP 0 rfl rfl 7 (by decide) (hts (.fieldLink RX7 38 "KingTable$Solver" "worths" "[I") (kt_wp_X7_enter__X7_enter_r1 kt_wm0)) (fun _ h9 => h9) rfl dX7_enter_18 ?_
    refine lv_iload hx hb dX7_enter_21 (lv_at hl 0 rfl) ?_
    refine lv_iload_n hx hb dX7_enter_23 rfl (lv_at hl 2 rfl) ?_
    refine kt_join (σ := Int32) 32 6 (fun u => [(so, .inr (7, [.ref ru, .ref tr, .ref lk, .ref vp, .ref vd, .ref vt, .ref vg, .ref vw, .ref ve, .ref vo, .ref vq, .int yq, .int pp, .int yc, .int sv])), (ru, .inr (6, [.ref la, .ref gr, .ref rk, .ref rs, .ref rt, .int tt, .int kg, .ref rv, .int yv])), (la, .inr (1, [.int lg, .int lh, .int lt, .int lr, .int lc])), (gr, .inr (0, [.ref gt, .ref gg, .ref gn, .int gs, .int gm])), (gt, .inl (cI, 81, .inl tg)), (gn, .inl (cI, 324, .inl nb)), (tr, .inr (8, [.ref tf, .ref th, .int yt])), (tf, .inl (cI, 40, .inl xf2_1)), (th, .inl (cI, 81, .inl xh2_1)), (rk, .inl (cI, 40, .inl ck)), (rs, .inl (cI, 40, .inl fs)), (rt, .inl (cZ, 40, .inl ft)), (rv, .inl (cI, 4, .inl y3)), (vp, .inl (cI, 40, .inl fp)), (lk, .inr (2, [.ref kh, .ref ks, .ref kn, .int yu])), (kh, .inl (cI, LH, .inl y4)), (ks, .inl (cI, LS, .inl y5)), (kn, .inl (cI, LS, .inl y6)), (vo, .inl (cI, LW, .inl y7)), (gg, .inl (cZ, 81, .inl gl)), (vd, .inl (cI, 40, .inl fd)), (vw, .inl (cI, LW, .inl y8)), (ve, .inl (cI, LW, .inl y9)), (vq, .inl (cI, LW, .inl y0))]) (fun u => [(4, .int t_14), (3, .int (nI k)), (2, .int r_1), (0, .ref so), (1, .int p1)]) (fun u => [.int u, .int t_14, .ref vw]) (fun u => (r_1 = 0 ∧ u = -1) ∨ (¬ r_1 = 0 ∧ u = 2)) (D := D) (A := A) (H0 := s.heap) (fun u hI H locs hP hD hS ls hl => ?_) (fun j_32 => ?_)
    · obtain ⟨wv, rfl⟩ : ∃ z, z = u := ⟨_, rfl⟩
      have hP : va_P D vwCl [(so, .inr (7, [.ref ru, .ref tr, .ref lk, .ref vp, .ref vd, .ref vt, .ref vg, .ref vw, .ref ve, .ref vo, .ref vq, .int yq, .int pp, .int yc, .int sv])), (ru, .inr (6, [.ref la, .ref gr, .ref rk, .ref rs, .ref rt, .int tt, .int kg, .ref rv, .int yv])), (la, .inr (1, [.int lg, .int lh, .int lt, .int lr, .int lc])), (gr, .inr (0, [.ref gt, .ref gg, .ref gn, .int gs, .int gm])), (gt, .inl (cI, 81, .inl tg)), (gn, .inl (cI, 324, .inl nb)), (tr, .inr (8, [.ref tf, .ref th, .int yt])), (tf, .inl (cI, 40, .inl xf2_1)), (th, .inl (cI, 81, .inl xh2_1)), (rk, .inl (cI, 40, .inl ck)), (rs, .inl (cI, 40, .inl fs)), (rt, .inl (cZ, 40, .inl ft)), (rv, .inl (cI, 4, .inl y3)), (vp, .inl (cI, 40, .inl fp)), (lk, .inr (2, [.ref kh, .ref ks, .ref kn, .int yu])), (kh, .inl (cI, LH, .inl y4)), (ks, .inl (cI, LS, .inl y5)), (kn, .inl (cI, LS, .inl y6)), (vo, .inl (cI, LW, .inl y7)), (gg, .inl (cZ, 81, .inl gl)), (vd, .inl (cI, 40, .inl fd)), (vw, .inl (cI, LW, .inl y8)), (ve, .inl (cI, LW, .inl y9)), (vq, .inl (cI, LW, .inl y0))] H := hP
      have hD : va_D A [(so, .inr (7, [.ref ru, .ref tr, .ref lk, .ref vp, .ref vd, .ref vt, .ref vg, .ref vw, .ref ve, .ref vo, .ref vq, .int yq, .int pp, .int yc, .int sv])), (ru, .inr (6, [.ref la, .ref gr, .ref rk, .ref rs, .ref rt, .int tt, .int kg, .ref rv, .int yv])), (la, .inr (1, [.int lg, .int lh, .int lt, .int lr, .int lc])), (gr, .inr (0, [.ref gt, .ref gg, .ref gn, .int gs, .int gm])), (gt, .inl (cI, 81, .inl tg)), (gn, .inl (cI, 324, .inl nb)), (tr, .inr (8, [.ref tf, .ref th, .int yt])), (tf, .inl (cI, 40, .inl xf2_1)), (th, .inl (cI, 81, .inl xh2_1)), (rk, .inl (cI, 40, .inl ck)), (rs, .inl (cI, 40, .inl fs)), (rt, .inl (cZ, 40, .inl ft)), (rv, .inl (cI, 4, .inl y3)), (vp, .inl (cI, 40, .inl fp)), (lk, .inr (2, [.ref kh, .ref ks, .ref kn, .int yu])), (kh, .inl (cI, LH, .inl y4)), (ks, .inl (cI, LS, .inl y5)), (kn, .inl (cI, LS, .inl y6)), (vo, .inl (cI, LW, .inl y7)), (gg, .inl (cZ, 81, .inl gl)), (vd, .inl (cI, 40, .inl fd)), (vw, .inl (cI, LW, .inl y8)), (ve, .inl (cI, LW, .inl y9)), (vq, .inl (cI, LW, .inl y0))] := hD
      have hl : lv_has ls 6 [(4, .int t_14), (3, .int (nI k)), (2, .int r_1), (0, .ref so), (1, .int p1)] := hl
      have hI : (r_1 = 0 ∧ wv = -1) ∨ (¬ r_1 = 0 ∧ wv = 2) := hI
      have hwv := hI
      have hwvr : -1 ≤ wv.toInt ∧ wv.toInt ≤ 2 := by rcases hwv with ⟨-, h⟩ | ⟨-, h⟩ <;> rw [h] <;> decide
      have hi_1 : vp_in t_14 LW := by exact kt_in (by omega) (by omega)
      refine va_iast hx hb hK hP hD hS 21 0 rfl rfl hi_1 dX7_enter_32 (fun H locs hP hD hS => ?_)
      have hwo : kt_r (upd y8 t_14.toNatClampNeg wv) LW (-1) 2 := hwo.upd (by omega) (by omega)
      have hP : va_P D vwCl [(so, .inr (7, [.ref ru, .ref tr, .ref lk, .ref vp, .ref vd, .ref vt, .ref vg, .ref vw, .ref ve, .ref vo, .ref vq, .int yq, .int pp, .int yc, .int sv])), (ru, .inr (6, [.ref la, .ref gr, .ref rk, .ref rs, .ref rt, .int tt, .int kg, .ref rv, .int yv])), (la, .inr (1, [.int lg, .int lh, .int lt, .int lr, .int lc])), (gr, .inr (0, [.ref gt, .ref gg, .ref gn, .int gs, .int gm])), (gt, .inl (cI, 81, .inl tg)), (gn, .inl (cI, 324, .inl nb)), (tr, .inr (8, [.ref tf, .ref th, .int yt])), (tf, .inl (cI, 40, .inl xf2_1)), (th, .inl (cI, 81, .inl xh2_1)), (rk, .inl (cI, 40, .inl ck)), (rs, .inl (cI, 40, .inl fs)), (rt, .inl (cZ, 40, .inl ft)), (rv, .inl (cI, 4, .inl y3)), (vp, .inl (cI, 40, .inl fp)), (lk, .inr (2, [.ref kh, .ref ks, .ref kn, .int yu])), (kh, .inl (cI, LH, .inl y4)), (ks, .inl (cI, LS, .inl y5)), (kn, .inl (cI, LS, .inl y6)), (vo, .inl (cI, LW, .inl y7)), (gg, .inl (cZ, 81, .inl gl)), (vd, .inl (cI, 40, .inl fd)), (vw, .inl (cI, LW, .inl (upd y8 t_14.toNatClampNeg wv))), (ve, .inl (cI, LW, .inl y9)), (vq, .inl (cI, LW, .inl y0))] H := hP
      have hD : va_D A [(so, .inr (7, [.ref ru, .ref tr, .ref lk, .ref vp, .ref vd, .ref vt, .ref vg, .ref vw, .ref ve, .ref vo, .ref vq, .int yq, .int pp, .int yc, .int sv])), (ru, .inr (6, [.ref la, .ref gr, .ref rk, .ref rs, .ref rt, .int tt, .int kg, .ref rv, .int yv])), (la, .inr (1, [.int lg, .int lh, .int lt, .int lr, .int lc])), (gr, .inr (0, [.ref gt, .ref gg, .ref gn, .int gs, .int gm])), (gt, .inl (cI, 81, .inl tg)), (gn, .inl (cI, 324, .inl nb)), (tr, .inr (8, [.ref tf, .ref th, .int yt])), (tf, .inl (cI, 40, .inl xf2_1)), (th, .inl (cI, 81, .inl xh2_1)), (rk, .inl (cI, 40, .inl ck)), (rs, .inl (cI, 40, .inl fs)), (rt, .inl (cZ, 40, .inl ft)), (rv, .inl (cI, 4, .inl y3)), (vp, .inl (cI, 40, .inl fp)), (lk, .inr (2, [.ref kh, .ref ks, .ref kn, .int yu])), (kh, .inl (cI, LH, .inl y4)), (ks, .inl (cI, LS, .inl y5)), (kn, .inl (cI, LS, .inl y6)), (vo, .inl (cI, LW, .inl y7)), (gg, .inl (cZ, 81, .inl gl)), (vd, .inl (cI, 40, .inl fd)), (vw, .inl (cI, LW, .inl (upd y8 t_14.toNatClampNeg wv))), (ve, .inl (cI, LW, .inl y9)), (vq, .inl (cI, LW, .inl y0))] := hD
      refine lv_aload_n hx hb dX7_enter_33 rfl (lv_at hl 3 rfl) ?_
      refine va_get (D := D) (ci := 7) (C := RX7) (T := TX7) (N := 15) hx hb hts iw_X7_enter_X7 hown hK hP 0 rfl rfl 8 (by decide) (hts (.fieldLink RX7 41 "KingTable$Solver" "deeps" "[I") (kt_wp_X7_enter__X7_enter_r1 kt_wm1)) (fun _ h9 => h9) rfl dX7_enter_34 ?_
      refine lv_iload hx hb dX7_enter_37 (lv_at hl 0 rfl) ?_
      refine lv_iconst (v := 0) hx hb dX7_enter_39 (by decide) ?_
      have hi_2 : vp_in t_14 LW := by exact kt_in (by omega) (by omega)
      refine va_iast hx hb hK hP hD hS 22 0 rfl rfl hi_2 dX7_enter_40 (fun H locs hP hD hS => ?_)
      have hP : va_P D vwCl [(so, .inr (7, [.ref ru, .ref tr, .ref lk, .ref vp, .ref vd, .ref vt, .ref vg, .ref vw, .ref ve, .ref vo, .ref vq, .int yq, .int pp, .int yc, .int sv])), (ru, .inr (6, [.ref la, .ref gr, .ref rk, .ref rs, .ref rt, .int tt, .int kg, .ref rv, .int yv])), (la, .inr (1, [.int lg, .int lh, .int lt, .int lr, .int lc])), (gr, .inr (0, [.ref gt, .ref gg, .ref gn, .int gs, .int gm])), (gt, .inl (cI, 81, .inl tg)), (gn, .inl (cI, 324, .inl nb)), (tr, .inr (8, [.ref tf, .ref th, .int yt])), (tf, .inl (cI, 40, .inl xf2_1)), (th, .inl (cI, 81, .inl xh2_1)), (rk, .inl (cI, 40, .inl ck)), (rs, .inl (cI, 40, .inl fs)), (rt, .inl (cZ, 40, .inl ft)), (rv, .inl (cI, 4, .inl y3)), (vp, .inl (cI, 40, .inl fp)), (lk, .inr (2, [.ref kh, .ref ks, .ref kn, .int yu])), (kh, .inl (cI, LH, .inl y4)), (ks, .inl (cI, LS, .inl y5)), (kn, .inl (cI, LS, .inl y6)), (vo, .inl (cI, LW, .inl y7)), (gg, .inl (cZ, 81, .inl gl)), (vd, .inl (cI, 40, .inl fd)), (vw, .inl (cI, LW, .inl (upd y8 t_14.toNatClampNeg wv))), (ve, .inl (cI, LW, .inl (upd y9 t_14.toNatClampNeg 0))), (vq, .inl (cI, LW, .inl y0))] H := hP
      have hD : va_D A [(so, .inr (7, [.ref ru, .ref tr, .ref lk, .ref vp, .ref vd, .ref vt, .ref vg, .ref vw, .ref ve, .ref vo, .ref vq, .int yq, .int pp, .int yc, .int sv])), (ru, .inr (6, [.ref la, .ref gr, .ref rk, .ref rs, .ref rt, .int tt, .int kg, .ref rv, .int yv])), (la, .inr (1, [.int lg, .int lh, .int lt, .int lr, .int lc])), (gr, .inr (0, [.ref gt, .ref gg, .ref gn, .int gs, .int gm])), (gt, .inl (cI, 81, .inl tg)), (gn, .inl (cI, 324, .inl nb)), (tr, .inr (8, [.ref tf, .ref th, .int yt])), (tf, .inl (cI, 40, .inl xf2_1)), (th, .inl (cI, 81, .inl xh2_1)), (rk, .inl (cI, 40, .inl ck)), (rs, .inl (cI, 40, .inl fs)), (rt, .inl (cZ, 40, .inl ft)), (rv, .inl (cI, 4, .inl y3)), (vp, .inl (cI, 40, .inl fp)), (lk, .inr (2, [.ref kh, .ref ks, .ref kn, .int yu])), (kh, .inl (cI, LH, .inl y4)), (ks, .inl (cI, LS, .inl y5)), (kn, .inl (cI, LS, .inl y6)), (vo, .inl (cI, LW, .inl y7)), (gg, .inl (cZ, 81, .inl gl)), (vd, .inl (cI, 40, .inl fd)), (vw, .inl (cI, LW, .inl (upd y8 t_14.toNatClampNeg wv))), (ve, .inl (cI, LW, .inl (upd y9 t_14.toNatClampNeg 0))), (vq, .inl (cI, LW, .inl y0))] := hD
      refine lv_aload_n hx hb dX7_enter_41 rfl (lv_at hl 3 rfl) ?_
      refine va_get (D := D) (ci := 7) (C := RX7) (T := TX7) (N := 15) hx hb hts iw_X7_enter_X7 hown hK hP 0 rfl rfl 9 (by decide) (hts (.fieldLink RX7 44 "KingTable$Solver" "open" "[I") (kt_wp_X7_enter__X7_enter_r1 kt_wm2)) (fun _ h9 => h9) rfl dX7_enter_42 ?_
      refine lv_iload hx hb dX7_enter_45 (lv_at hl 0 rfl) ?_
      refine lv_iconst (v := 0) hx hb dX7_enter_47 (by decide) ?_
      have hi_3 : vp_in t_14 LW := by exact kt_in (by omega) (by omega)
      refine va_iast hx hb hK hP hD hS 18 0 rfl rfl hi_3 dX7_enter_48 (fun H locs hP hD hS => ?_)
      have hP : va_P D vwCl [(so, .inr (7, [.ref ru, .ref tr, .ref lk, .ref vp, .ref vd, .ref vt, .ref vg, .ref vw, .ref ve, .ref vo, .ref vq, .int yq, .int pp, .int yc, .int sv])), (ru, .inr (6, [.ref la, .ref gr, .ref rk, .ref rs, .ref rt, .int tt, .int kg, .ref rv, .int yv])), (la, .inr (1, [.int lg, .int lh, .int lt, .int lr, .int lc])), (gr, .inr (0, [.ref gt, .ref gg, .ref gn, .int gs, .int gm])), (gt, .inl (cI, 81, .inl tg)), (gn, .inl (cI, 324, .inl nb)), (tr, .inr (8, [.ref tf, .ref th, .int yt])), (tf, .inl (cI, 40, .inl xf2_1)), (th, .inl (cI, 81, .inl xh2_1)), (rk, .inl (cI, 40, .inl ck)), (rs, .inl (cI, 40, .inl fs)), (rt, .inl (cZ, 40, .inl ft)), (rv, .inl (cI, 4, .inl y3)), (vp, .inl (cI, 40, .inl fp)), (lk, .inr (2, [.ref kh, .ref ks, .ref kn, .int yu])), (kh, .inl (cI, LH, .inl y4)), (ks, .inl (cI, LS, .inl y5)), (kn, .inl (cI, LS, .inl y6)), (vo, .inl (cI, LW, .inl (upd y7 t_14.toNatClampNeg 0))), (gg, .inl (cZ, 81, .inl gl)), (vd, .inl (cI, 40, .inl fd)), (vw, .inl (cI, LW, .inl (upd y8 t_14.toNatClampNeg wv))), (ve, .inl (cI, LW, .inl (upd y9 t_14.toNatClampNeg 0))), (vq, .inl (cI, LW, .inl y0))] H := hP
      have hD : va_D A [(so, .inr (7, [.ref ru, .ref tr, .ref lk, .ref vp, .ref vd, .ref vt, .ref vg, .ref vw, .ref ve, .ref vo, .ref vq, .int yq, .int pp, .int yc, .int sv])), (ru, .inr (6, [.ref la, .ref gr, .ref rk, .ref rs, .ref rt, .int tt, .int kg, .ref rv, .int yv])), (la, .inr (1, [.int lg, .int lh, .int lt, .int lr, .int lc])), (gr, .inr (0, [.ref gt, .ref gg, .ref gn, .int gs, .int gm])), (gt, .inl (cI, 81, .inl tg)), (gn, .inl (cI, 324, .inl nb)), (tr, .inr (8, [.ref tf, .ref th, .int yt])), (tf, .inl (cI, 40, .inl xf2_1)), (th, .inl (cI, 81, .inl xh2_1)), (rk, .inl (cI, 40, .inl ck)), (rs, .inl (cI, 40, .inl fs)), (rt, .inl (cZ, 40, .inl ft)), (rv, .inl (cI, 4, .inl y3)), (vp, .inl (cI, 40, .inl fp)), (lk, .inr (2, [.ref kh, .ref ks, .ref kn, .int yu])), (kh, .inl (cI, LH, .inl y4)), (ks, .inl (cI, LS, .inl y5)), (kn, .inl (cI, LS, .inl y6)), (vo, .inl (cI, LW, .inl (upd y7 t_14.toNatClampNeg 0))), (gg, .inl (cZ, 81, .inl gl)), (vd, .inl (cI, 40, .inl fd)), (vw, .inl (cI, LW, .inl (upd y8 t_14.toNatClampNeg wv))), (ve, .inl (cI, LW, .inl (upd y9 t_14.toNatClampNeg 0))), (vq, .inl (cI, LW, .inl y0))] := hD
      refine lv_iload_n hx hb dX7_enter_49 rfl (lv_at hl 2 rfl) ?_
      refine lv_if_ne (tgt := 56) hx hb dX7_enter_50 (by decide) (fun c_50 => ?_) (fun c_50 => ?_)
      · have d_50 := c_50
        simp only [kt_lt, kt_le, kt_eq, kt_c0, kt_c1, kt_c2, kt_c3, kt_c4, kt_c8, kt_c9, kt_cm1, kt_c81, kt_c40, kt_c7, kt_c5, kt_c6, kt_c512, kt_c10, kt_c10000] at d_50
        have hgd := hgdi.mp (hsu.t c_50)
        have hr1 : r_1 = 1 := by
          rcases hsu with ⟨h, -⟩ | ⟨h, -⟩
          · exact h
          · exact absurd h c_50
        have hwv2 : wv = 2 := by
          rcases hwv with ⟨h, -⟩ | ⟨-, h⟩
          · exact absurd h c_50
          · exact h
        have hposA : ∀ j, j < P_ → xf2_1 j = (kt_po B_ P_ v_) j := fun j hj => by
          have h5 := hdl j
          rw [hpos hr1 j hj, kt_po_if hBF hj, hdgv j hj, kt_nI (by omega)]
        have hwho : ∀ f, f < 81 → xh2_1 f = kt_who (kt_po B_ P_ v_) P_ f := fun f hf => (kt_who_of hst1.2.1 hst1.2.2.1 hP40 hf).trans (kt_who_cong hposA)
        refine lv_aload_n hx hb dX7_enter_56 rfl (lv_at hl 3 rfl) ?_
        refine lv_dup hx hb dX7_enter_57 rfl ?_
        refine va_get (D := D) (ci := 7) (C := RX7) (T := TX7) (N := 15) hx hb hts iw_X7_enter_X7 hown hK hP 0 rfl rfl 13 (by decide) (hts (.fieldLink RX7 58 "KingTable$Solver" "counted" "I") (kt_wp_X7_enter__X7_enter_r1 kt_wm3)) (fun _ h9 => h9) rfl dX7_enter_58 ?_
        refine lv_iconst (v := 1) hx hb dX7_enter_61 (by decide) ?_
        refine lv_iadd hx hb dX7_enter_62 ?_
        refine lv_topi (fun t_62 et_62 => ?_)
        first | have hk_62 := kt_addx et_62 (by first | omega | (simp only [kt_c0, kt_c1, kt_c2, kt_c3, kt_c4, kt_c8, kt_c9, kt_cm1, kt_c81, kt_c40, kt_c7, kt_c5, kt_c6, kt_c512, kt_c10, kt_c10000]; omega)) (by first | omega | (simp only [kt_c0, kt_c1, kt_c2, kt_c3, kt_c4, kt_c8, kt_c9, kt_cm1, kt_c81, kt_c40, kt_c7, kt_c5, kt_c6, kt_c512, kt_c10, kt_c10000]; omega)) | obtain ⟨k_62, hk_62, hm_62, hM_62⟩ := kt_addk et_62
        try simp only [kt_c0, kt_c1, kt_c2, kt_c3, kt_c4, kt_c8, kt_c9, kt_cm1, kt_c81, kt_c40, kt_c7, kt_c5, kt_c6, kt_c512, kt_c10, kt_c10000] at hk_62
        refine va_put (D := D) (ci := 7) (v := .int t_62) (ty := .int) (C := RX7) (T := TX7) (N := 15) hx hb hts iw_X7_enter_X7 tyX7 tyX7_ok nmX7 hown hK hP hD hS 0 rfl rfl 13 (by decide) (hts (.fieldLink RX7 58 "KingTable$Solver" "counted" "I") (kt_wp_X7_enter__X7_enter_r1 kt_wm3)) (fun _ h9 => h9) rfl (by decide +kernel) rfl rfl (Nat.le_of_ble_eq_true rfl) dX7_enter_63 (fun H locs hP hD hS => ?_)
        have hP : va_P D vwCl [(so, .inr (7, [.ref ru, .ref tr, .ref lk, .ref vp, .ref vd, .ref vt, .ref vg, .ref vw, .ref ve, .ref vo, .ref vq, .int yq, .int pp, .int t_62, .int sv])), (ru, .inr (6, [.ref la, .ref gr, .ref rk, .ref rs, .ref rt, .int tt, .int kg, .ref rv, .int yv])), (la, .inr (1, [.int lg, .int lh, .int lt, .int lr, .int lc])), (gr, .inr (0, [.ref gt, .ref gg, .ref gn, .int gs, .int gm])), (gt, .inl (cI, 81, .inl tg)), (gn, .inl (cI, 324, .inl nb)), (tr, .inr (8, [.ref tf, .ref th, .int yt])), (tf, .inl (cI, 40, .inl xf2_1)), (th, .inl (cI, 81, .inl xh2_1)), (rk, .inl (cI, 40, .inl ck)), (rs, .inl (cI, 40, .inl fs)), (rt, .inl (cZ, 40, .inl ft)), (rv, .inl (cI, 4, .inl y3)), (vp, .inl (cI, 40, .inl fp)), (lk, .inr (2, [.ref kh, .ref ks, .ref kn, .int yu])), (kh, .inl (cI, LH, .inl y4)), (ks, .inl (cI, LS, .inl y5)), (kn, .inl (cI, LS, .inl y6)), (vo, .inl (cI, LW, .inl (upd y7 t_14.toNatClampNeg 0))), (gg, .inl (cZ, 81, .inl gl)), (vd, .inl (cI, 40, .inl fd)), (vw, .inl (cI, LW, .inl (upd y8 t_14.toNatClampNeg wv))), (ve, .inl (cI, LW, .inl (upd y9 t_14.toNatClampNeg 0))), (vq, .inl (cI, LW, .inl y0))] H := hP
        have hD : va_D A [(so, .inr (7, [.ref ru, .ref tr, .ref lk, .ref vp, .ref vd, .ref vt, .ref vg, .ref vw, .ref ve, .ref vo, .ref vq, .int yq, .int pp, .int t_62, .int sv])), (ru, .inr (6, [.ref la, .ref gr, .ref rk, .ref rs, .ref rt, .int tt, .int kg, .ref rv, .int yv])), (la, .inr (1, [.int lg, .int lh, .int lt, .int lr, .int lc])), (gr, .inr (0, [.ref gt, .ref gg, .ref gn, .int gs, .int gm])), (gt, .inl (cI, 81, .inl tg)), (gn, .inl (cI, 324, .inl nb)), (tr, .inr (8, [.ref tf, .ref th, .int yt])), (tf, .inl (cI, 40, .inl xf2_1)), (th, .inl (cI, 81, .inl xh2_1)), (rk, .inl (cI, 40, .inl ck)), (rs, .inl (cI, 40, .inl fs)), (rt, .inl (cZ, 40, .inl ft)), (rv, .inl (cI, 4, .inl y3)), (vp, .inl (cI, 40, .inl fp)), (lk, .inr (2, [.ref kh, .ref ks, .ref kn, .int yu])), (kh, .inl (cI, LH, .inl y4)), (ks, .inl (cI, LS, .inl y5)), (kn, .inl (cI, LS, .inl y6)), (vo, .inl (cI, LW, .inl (upd y7 t_14.toNatClampNeg 0))), (gg, .inl (cZ, 81, .inl gl)), (vd, .inl (cI, 40, .inl fd)), (vw, .inl (cI, LW, .inl (upd y8 t_14.toNatClampNeg wv))), (ve, .inl (cI, LW, .inl (upd y9 t_14.toNatClampNeg 0))), (vq, .inl (cI, LW, .inl y0))] := hD
        refine lv_aload_n hx hb dX7_enter_66 rfl (lv_at hl 3 rfl) ?_
        refine va_get (D := D) (ci := 7) (C := RX7) (T := TX7) (N := 15) hx hb hts iw_X7_enter_X7 hown hK hP 0 rfl rfl 1 (by decide) (hts (.fieldLink RX7 12 "KingTable$Solver" "trial" "LKingTable$Stand;") (kt_wp_X7_enter__X7_enter_r1 kt_wm4)) (fun _ h9 => h9) rfl dX7_enter_67 ?_
        refine lv_iload_n hx hb dX7_enter_70 rfl (lv_at hl 1 rfl) ?_
        refine va_putN (D := D) (ci := 8) (v := .int (nI k)) (ty := .int) (C := RX8) (T := TX8) (N := 3) hx hb hts iw_X7_enter_X8 tyX8 tyX8_ok nmX8 hown hK hP hD hS 6 rfl rfl 2 (by decide) (va_Nw.use (w := .fieldLinkNest RX7 125 "KingTable$Stand" "turn" "I" "KingTable") rfl (hN _ (by decide +kernel))) (fun _ h9 => h9) rfl (by decide +kernel) rfl rfl (Nat.le_of_ble_eq_true rfl) dX7_enter_71 (fun H locs hP hD hS => ?_)
        have hP : va_P D vwCl [(so, .inr (7, [.ref ru, .ref tr, .ref lk, .ref vp, .ref vd, .ref vt, .ref vg, .ref vw, .ref ve, .ref vo, .ref vq, .int yq, .int pp, .int t_62, .int sv])), (ru, .inr (6, [.ref la, .ref gr, .ref rk, .ref rs, .ref rt, .int tt, .int kg, .ref rv, .int yv])), (la, .inr (1, [.int lg, .int lh, .int lt, .int lr, .int lc])), (gr, .inr (0, [.ref gt, .ref gg, .ref gn, .int gs, .int gm])), (gt, .inl (cI, 81, .inl tg)), (gn, .inl (cI, 324, .inl nb)), (tr, .inr (8, [.ref tf, .ref th, .int (nI k)])), (tf, .inl (cI, 40, .inl xf2_1)), (th, .inl (cI, 81, .inl xh2_1)), (rk, .inl (cI, 40, .inl ck)), (rs, .inl (cI, 40, .inl fs)), (rt, .inl (cZ, 40, .inl ft)), (rv, .inl (cI, 4, .inl y3)), (vp, .inl (cI, 40, .inl fp)), (lk, .inr (2, [.ref kh, .ref ks, .ref kn, .int yu])), (kh, .inl (cI, LH, .inl y4)), (ks, .inl (cI, LS, .inl y5)), (kn, .inl (cI, LS, .inl y6)), (vo, .inl (cI, LW, .inl (upd y7 t_14.toNatClampNeg 0))), (gg, .inl (cZ, 81, .inl gl)), (vd, .inl (cI, 40, .inl fd)), (vw, .inl (cI, LW, .inl (upd y8 t_14.toNatClampNeg wv))), (ve, .inl (cI, LW, .inl (upd y9 t_14.toNatClampNeg 0))), (vq, .inl (cI, LW, .inl y0))] H := hP
        have hD : va_D A [(so, .inr (7, [.ref ru, .ref tr, .ref lk, .ref vp, .ref vd, .ref vt, .ref vg, .ref vw, .ref ve, .ref vo, .ref vq, .int yq, .int pp, .int t_62, .int sv])), (ru, .inr (6, [.ref la, .ref gr, .ref rk, .ref rs, .ref rt, .int tt, .int kg, .ref rv, .int yv])), (la, .inr (1, [.int lg, .int lh, .int lt, .int lr, .int lc])), (gr, .inr (0, [.ref gt, .ref gg, .ref gn, .int gs, .int gm])), (gt, .inl (cI, 81, .inl tg)), (gn, .inl (cI, 324, .inl nb)), (tr, .inr (8, [.ref tf, .ref th, .int (nI k)])), (tf, .inl (cI, 40, .inl xf2_1)), (th, .inl (cI, 81, .inl xh2_1)), (rk, .inl (cI, 40, .inl ck)), (rs, .inl (cI, 40, .inl fs)), (rt, .inl (cZ, 40, .inl ft)), (rv, .inl (cI, 4, .inl y3)), (vp, .inl (cI, 40, .inl fp)), (lk, .inr (2, [.ref kh, .ref ks, .ref kn, .int yu])), (kh, .inl (cI, LH, .inl y4)), (ks, .inl (cI, LS, .inl y5)), (kn, .inl (cI, LS, .inl y6)), (vo, .inl (cI, LW, .inl (upd y7 t_14.toNatClampNeg 0))), (gg, .inl (cZ, 81, .inl gl)), (vd, .inl (cI, 40, .inl fd)), (vw, .inl (cI, LW, .inl (upd y8 t_14.toNatClampNeg wv))), (ve, .inl (cI, LW, .inl (upd y9 t_14.toNatClampNeg 0))), (vq, .inl (cI, LW, .inl y0))] := hD
        have htn : 0 ≤ (nI k).toInt ∧ (nI k).toInt ≤ 1 := by omega
        refine lv_aload_n hx hb dX7_enter_74 rfl (lv_at hl 3 rfl) ?_
        refine va_get (D := D) (ci := 7) (C := RX7) (T := TX7) (N := 15) hx hb hts iw_X7_enter_X7 hown hK hP 0 rfl rfl 0 (by decide) (hts (.fieldLink RX7 50 "KingTable$Solver" "rules" "LKingTable$Rules;") (kt_wp_X7_enter__X7_enter_r1 kt_wm5)) (fun _ h9 => h9) rfl dX7_enter_75 ?_
        refine lv_aload_n hx hb dX7_enter_78 rfl (lv_at hl 3 rfl) ?_
        refine va_get (D := D) (ci := 7) (C := RX7) (T := TX7) (N := 15) hx hb hts iw_X7_enter_X7 hown hK hP 0 rfl rfl 1 (by decide) (hts (.fieldLink RX7 12 "KingTable$Solver" "trial" "LKingTable$Stand;") (kt_wp_X7_enter__X7_enter_r1 kt_wm4)) (fun _ h9 => h9) rfl dX7_enter_79 ?_
        refine kt_pi (wc := [(ru, .inr (6, [.ref la, .ref gr, .ref rk, .ref rs, .ref rt, .int tt, .int kg, .ref rv, .int yv])), (la, .inr (1, [.int lg, .int lh, .int lt, .int lr, .int lc])), (gr, .inr (0, [.ref gt, .ref gg, .ref gn, .int gs, .int gm])), (gt, .inl (cI, 81, .inl tg)), (gn, .inl (cI, 324, .inl nb)), (tr, .inr (8, [.ref tf, .ref th, .int (nI k)])), (tf, .inl (cI, 40, .inl xf2_1)), (th, .inl (cI, 81, .inl xh2_1)), (rs, .inl (cI, 40, .inl fs)), (gg, .inl (cZ, 81, .inl gl))]) [1, 2, 3, 4, 5, 6, 7, 8, 10, 19] hP hD hS hA rfl (by decide) (fun hPc hDc => va_runV (As := [.ref tr]) (rest := []) ⟨hx, hb, hml, hown, hts⟩ (c_X6_winnerE l D cI cZ cB H.size ru la gr rk rs rt rv tt kg yv lg lh lt lr lc gt gg gn gs gm tg nb tr tf th (nI k) xf2_1 xh2_1 w_ L_ P_ gl fk fs ft fr ck hgs hgt hnb hxf hxh hlr htt hrs hgg htn hrx0 hst1.1) (cwV 1 hts gX7_enter_X6_winner rfl rfl rfl (by decide +kernel) ⟨Nat.le_of_ble_eq_true rfl, Nat.le_of_ble_eq_true rfl⟩) (kt_preV hN hK hPc hDc 0 (ci := 6) (q := (RX6, TX6, 9)) rfl rfl) rfl rfl hl.1 rfl (lv_room (Nat.le_of_ble_eq_true rfl)) dX7_enter_82 ⟨Nat.le_of_ble_eq_true rfl, Nat.le_of_ble_eq_true rfl⟩) (fun r_82 _ H locs hw_82 hP hS => ?_)
        obtain ⟨hwn, hwr⟩ := hw_82
        rw [hk0] at hwn
        have hev := kt_ev_yes (B := B_) (s := (p1.toInt.toNat + k)) hw_ hL_ hn2 hn1 hkgP hgd hst1.1 hposA hwho hwn
        refine lv_istore (lv' := [(5, .int r_82), (4, .int t_14), (3, .int (nI k)), (2, .int r_1), (0, .ref so), (1, .int p1)]) hx hb dX7_enter_85 hl (by decide) rfl (fun ls hl => ?_)
        refine lv_iload hx hb dX7_enter_87 (lv_at hl 0 rfl) ?_
        refine lv_iconst (v := (-1)) hx hb dX7_enter_89 (by decide) ?_
        refine lv_icmp_eq (tgt := 105) hx hb dX7_enter_90 (by decide) (fun c_90 => ?_) (fun c_90 => ?_)
        · have d_90 := c_90
          simp only [kt_lt, kt_le, kt_eq, kt_c0, kt_c1, kt_c2, kt_c3, kt_c4, kt_c8, kt_c9, kt_cm1, kt_c81, kt_c40, kt_c7, kt_c5, kt_c6, kt_c512, kt_c10, kt_c10000] at d_90
          refine lv_aload_n hx hb dX7_enter_105 rfl (lv_at hl 4 rfl) ?_
          refine lv_iload hx hb dX7_enter_106 (lv_at hl 1 rfl) ?_
          refine kt_bv (wc := [(so, .inr (7, [.ref ru, .ref tr, .ref lk, .ref vp, .ref vd, .ref vt, .ref vg, .ref vw, .ref ve, .ref vo, .ref vq, .int yq, .int pp, .int t_62, .int sv])), (ru, .inr (6, [.ref la, .ref gr, .ref rk, .ref rs, .ref rt, .int tt, .int kg, .ref rv, .int yv])), (la, .inr (1, [.int lg, .int lh, .int lt, .int lr, .int lc])), (gr, .inr (0, [.ref gt, .ref gg, .ref gn, .int gs, .int gm])), (gt, .inl (cI, 81, .inl tg)), (gn, .inl (cI, 324, .inl nb)), (tr, .inr (8, [.ref tf, .ref th, .int (nI k)])), (tf, .inl (cI, 40, .inl xf2_1)), (th, .inl (cI, 81, .inl xh2_1)), (rk, .inl (cI, 40, .inl ck)), (rs, .inl (cI, 40, .inl fs)), (rt, .inl (cZ, 40, .inl ft)), (rv, .inl (cI, 4, .inl y3)), (vp, .inl (cI, 40, .inl fp)), (lk, .inr (2, [.ref kh, .ref ks, .ref kn, .int yu])), (kh, .inl (cI, LH, .inl y4)), (ks, .inl (cI, LS, .inl y5)), (kn, .inl (cI, LS, .inl y6)), (vo, .inl (cI, LW, .inl (upd y7 t_14.toNatClampNeg 0)))]) (wr := [(gg, .inl (cZ, 81, .inl gl)), (vd, .inl (cI, 40, .inl fd)), (vw, .inl (cI, LW, .inl (upd y8 t_14.toNatClampNeg wv))), (ve, .inl (cI, LW, .inl (upd y9 t_14.toNatClampNeg 0))), (vq, .inl (cI, LW, .inl y0))]) [0, 1, 2, 3, 4, 5, 6, 7, 8, 9, 10, 11, 12, 13, 14, 15, 16, 17, 18] [19, 20, 21, 22, 23] hP hD hS hA rfl rfl (by decide) (by decide) (by decide) (fun hPc hDc => va_runV (As := [.int t_14]) (rest := []) ⟨hx, hb, hml, hown, hts⟩ (c_X7_linkMovesE l D cI cZ cB H.size so ru tr lk vp vd vt vg vw ve vo vq yq pp t_62 sv LW LH LS LQ la gr rk rs rt rv tt kg yv lg lh lt lr lc gt gg gn gs gm tg nb tf th (nI k) xf2_1 xh2_1 ck fs ft y3 fp kh ks kn yu y4 y5 y6 (upd y7 t_14.toNatClampNeg 0) w_ L_ P_ gl fk fr T_ U1 B_ et1 (kt_po B_ P_ v_) t_14 hlw hlh hls hlq hgs hgt hnb hlr htt hkg hvc hxf hxh htn hrk hrs hrt hrv hus hhe hsr hne (by omega) hrx0 hst1 hB hPl hpw hT2 hTL hgm hls2 hu1 hen.1 hposA (by rw [hpnv, hk0]; omega) (by rw [hk0]; omega) (by show (upd y7 t_14.toNatClampNeg 0 t_14.toNatClampNeg).toInt = 0; rw [pk_us]; decide)) (cwV 1 hts gX7_enter_X7_linkMoves rfl rfl rfl (by decide +kernel) ⟨Nat.le_of_ble_eq_true rfl, Nat.le_of_ble_eq_true rfl⟩) (kt_preV hN hK hPc hDc 0 (ci := 7) (q := (RX7, TX7, 15)) rfl rfl) rfl rfl hl.1 rfl (lv_room (Nat.le_of_ble_eq_true rfl)) dX7_enter_108 ⟨Nat.le_of_ble_eq_true rfl, Nat.le_of_ble_eq_true rfl⟩) (fun u_ H locs hw_108 hP hD hS => ?_)
          obtain ⟨z3_108, zv_108, zu_108, z4_108, z5_108, z6_108, z7_108⟩ := u_
          have hP : va_P D vwCl [(so, .inr (7, [.ref ru, .ref tr, .ref lk, .ref vp, .ref vd, .ref vt, .ref vg, .ref vw, .ref ve, .ref vo, .ref vq, .int yq, .int pp, .int t_62, .int sv])), (ru, .inr (6, [.ref la, .ref gr, .ref rk, .ref rs, .ref rt, .int tt, .int kg, .ref rv, .int zv_108])), (la, .inr (1, [.int lg, .int lh, .int lt, .int lr, .int lc])), (gr, .inr (0, [.ref gt, .ref gg, .ref gn, .int gs, .int gm])), (gt, .inl (cI, 81, .inl tg)), (gn, .inl (cI, 324, .inl nb)), (tr, .inr (8, [.ref tf, .ref th, .int (nI k)])), (tf, .inl (cI, 40, .inl xf2_1)), (th, .inl (cI, 81, .inl xh2_1)), (rk, .inl (cI, 40, .inl ck)), (rs, .inl (cI, 40, .inl fs)), (rt, .inl (cZ, 40, .inl ft)), (rv, .inl (cI, 4, .inl z3_108)), (vp, .inl (cI, 40, .inl fp)), (lk, .inr (2, [.ref kh, .ref ks, .ref kn, .int zu_108])), (kh, .inl (cI, LH, .inl z4_108)), (ks, .inl (cI, LS, .inl z5_108)), (kn, .inl (cI, LS, .inl z6_108)), (vo, .inl (cI, LW, .inl z7_108)), (gg, .inl (cZ, 81, .inl gl)), (vd, .inl (cI, 40, .inl fd)), (vw, .inl (cI, LW, .inl (upd y8 t_14.toNatClampNeg wv))), (ve, .inl (cI, LW, .inl (upd y9 t_14.toNatClampNeg 0))), (vq, .inl (cI, LW, .inl y0))] H := hP.sub [5, 6, 7, 8, 9, 10, 11, 12, 13, 14, 15, 16, 17, 18, 19, 20, 21, 22, 23, 0, 1, 2, 3, 4] rfl
          have hD : va_D A [(so, .inr (7, [.ref ru, .ref tr, .ref lk, .ref vp, .ref vd, .ref vt, .ref vg, .ref vw, .ref ve, .ref vo, .ref vq, .int yq, .int pp, .int t_62, .int sv])), (ru, .inr (6, [.ref la, .ref gr, .ref rk, .ref rs, .ref rt, .int tt, .int kg, .ref rv, .int zv_108])), (la, .inr (1, [.int lg, .int lh, .int lt, .int lr, .int lc])), (gr, .inr (0, [.ref gt, .ref gg, .ref gn, .int gs, .int gm])), (gt, .inl (cI, 81, .inl tg)), (gn, .inl (cI, 324, .inl nb)), (tr, .inr (8, [.ref tf, .ref th, .int (nI k)])), (tf, .inl (cI, 40, .inl xf2_1)), (th, .inl (cI, 81, .inl xh2_1)), (rk, .inl (cI, 40, .inl ck)), (rs, .inl (cI, 40, .inl fs)), (rt, .inl (cZ, 40, .inl ft)), (rv, .inl (cI, 4, .inl z3_108)), (vp, .inl (cI, 40, .inl fp)), (lk, .inr (2, [.ref kh, .ref ks, .ref kn, .int zu_108])), (kh, .inl (cI, LH, .inl z4_108)), (ks, .inl (cI, LS, .inl z5_108)), (kn, .inl (cI, LS, .inl z6_108)), (vo, .inl (cI, LW, .inl z7_108)), (gg, .inl (cZ, 81, .inl gl)), (vd, .inl (cI, 40, .inl fd)), (vw, .inl (cI, LW, .inl (upd y8 t_14.toNatClampNeg wv))), (ve, .inl (cI, LW, .inl (upd y9 t_14.toNatClampNeg 0))), (vq, .inl (cI, LW, .inl y0))] := hD.sub [5, 6, 7, 8, 9, 10, 11, 12, 13, 14, 15, 16, 17, 18, 19, 20, 21, 22, 23, 0, 1, 2, 3, 4] (by decide) rfl
          try dsimp only at hw_108
          obtain ⟨⟨hrv, hvc, hus, hhe, hsr, hne⟩, hlx⟩ := hw_108
          rw [hsN, hk0, show ((k : Int)).toNat = k by omega] at hlx
          have hev1 : (kt_ev B_ P_ w_ L_ fr fk lr.toInt lg kg.toInt.toNat) (p1.toInt.toNat + k) = 3 := by rw [hev.1, if_pos (by omega)]
          obtain ⟨et2, U2, hu3, hu4, hen2⟩ := hen.lnk (x := 2) (y := 0) hev1 (by decide) (by decide) (fun j hj => by rw [show t_14.toNatClampNeg = (p1.toInt.toNat + k) from hsN, pk_un hj]) hlx (fun z hz => hz.1) (fun u => by unfold kt_ed; rw [hn2, hn1]) (hev.2 (by omega))
          have hnew : kt_ENX T_ (p1.toInt.toNat + (k + 1)) U_ (kt_cq gm.toInt fk P_ (k + 1)) (kt_ev B_ P_ w_ L_ fr fk lr.toInt lg kg.toInt.toNat) (kt_ed B_ P_ w_ L_ fr fk lr.toInt lt lh) zu_108 z5_108 z4_108 z6_108 (upd y8 t_14.toNatClampNeg wv) (upd y9 t_14.toNatClampNeg 0) z7_108 y0 yq.toInt.toNat := by
            rw [show t_14.toNatClampNeg = (p1.toInt.toNat + k) from hsN, hwv2]
            exact ⟨et2, U2, hu3, by omega, hen2⟩
          refine lv_iinc (v := nI (k + 1)) (lv' := [(3, .int (nI (k + 1))), (5, .int r_82), (4, .int t_14), (2, .int r_1), (0, .ref so), (1, .int p1)]) hx hb dX7_enter_111 hl (k := 2) rfl (nI_1 _) (by decide) rfl (fun ls hl => ?_)
          refine lv_goto (tgt := 7) hx hb dX7_enter_114 (by decide) ?_
          exact ih_7 ((k + 1), z3_108, zv_108, zu_108, z4_108, z5_108, z6_108, z7_108, (nI k), yq, t_62, (upd y8 t_14.toNatClampNeg wv), (upd y9 t_14.toNatClampNeg 0), y0) (by show ((k + 1) ≤ 2 ∧ 2 < (k + 1) + n_7) ∧ (kt_r z3_108 4 0 39 ∧ (0 ≤ zv_108.toInt ∧ zv_108.toInt ≤ 4) ∧ (0 ≤ zu_108.toInt ∧ zu_108.toInt ≤ (LS : Int)) ∧ kt_r z4_108 LH (-1) ((LS : Int) - 1) ∧ kt_r z5_108 LS 0 ((LQ : Int) - 1) ∧ kt_r z6_108 LS (-1) ((LS : Int) - 1) ∧ (0 ≤ (nI k).toInt ∧ (nI k).toInt ≤ 1) ∧ (0 ≤ yq.toInt ∧ yq.toInt ≤ (LW : Int)) ∧ kt_r (upd y8 t_14.toNatClampNeg wv) LW (-1) 2 ∧ kt_r y0 LW 0 ((LQ : Int) - 1)) ∧ (0 ≤ t_62.toInt ∧ t_62.toInt ≤ ct.toInt + ((k + 1) : Int)) ∧ (((kt_gdp (L_ * w_) fr fk (fun p => (fd p).toInt) P_) → t_62.toInt = ct.toInt + ((k + 1) : Int)) ∧ (¬ (kt_gdp (L_ * w_) fr fk (fun p => (fd p).toInt) P_) → t_62.toInt = ct.toInt)) ∧ kt_ENX T_ ((p1.toInt.toNat + (k + 1))) U_ (kt_cq gm.toInt fk P_ (k + 1)) (kt_ev B_ P_ w_ L_ fr fk lr.toInt lg kg.toInt.toNat) (kt_ed B_ P_ w_ L_ fr fk lr.toInt lt lh) zu_108 z5_108 z4_108 z6_108 (upd y8 t_14.toNatClampNeg wv) (upd y9 t_14.toNatClampNeg 0) z7_108 y0 yq.toInt.toNat; first | exact ⟨by omega, ⟨hrv, hvc, hus, hhe, hsr, hne, htn, hqd, hwo, hqu⟩, by omega, ⟨fun h => absurd h (hsu.f c_50), hc0_⟩, hnew⟩ | exact ⟨by omega, ⟨hrv, hvc, hus, hhe, hsr, hne, htn, hqd, hwo, hqu⟩, by omega, ⟨fun h => by have h5 := hc1 h; omega, fun h => absurd (hsu.t c_50) h⟩, hnew⟩) H _ hP hD hS ls (lv_sub hl [0, 3, 4, 5] rfl)
        · have d_90 := c_90
          simp only [kt_lt, kt_le, kt_eq, kt_c0, kt_c1, kt_c2, kt_c3, kt_c4, kt_c8, kt_c9, kt_cm1, kt_c81, kt_c40, kt_c7, kt_c5, kt_c6, kt_c512, kt_c10, kt_c10000] at d_90
          refine lv_aload_n hx hb dX7_enter_93 rfl (lv_at hl 4 rfl) ?_
          refine lv_iload hx hb dX7_enter_94 (lv_at hl 1 rfl) ?_
          refine lv_iload hx hb dX7_enter_96 (lv_at hl 0 rfl) ?_
          refine lv_iconst (v := 0) hx hb dX7_enter_98 (by decide) ?_
          refine kt_bv (wc := [(so, .inr (7, [.ref ru, .ref tr, .ref lk, .ref vp, .ref vd, .ref vt, .ref vg, .ref vw, .ref ve, .ref vo, .ref vq, .int yq, .int pp, .int t_62, .int sv])), (vw, .inl (cI, LW, .inl (upd y8 t_14.toNatClampNeg wv))), (ve, .inl (cI, LW, .inl (upd y9 t_14.toNatClampNeg 0))), (vq, .inl (cI, LW, .inl y0))]) (wr := [(ru, .inr (6, [.ref la, .ref gr, .ref rk, .ref rs, .ref rt, .int tt, .int kg, .ref rv, .int yv])), (la, .inr (1, [.int lg, .int lh, .int lt, .int lr, .int lc])), (gr, .inr (0, [.ref gt, .ref gg, .ref gn, .int gs, .int gm])), (gt, .inl (cI, 81, .inl tg)), (gn, .inl (cI, 324, .inl nb)), (tr, .inr (8, [.ref tf, .ref th, .int (nI k)])), (tf, .inl (cI, 40, .inl xf2_1)), (th, .inl (cI, 81, .inl xh2_1)), (rk, .inl (cI, 40, .inl ck)), (rs, .inl (cI, 40, .inl fs)), (rt, .inl (cZ, 40, .inl ft)), (rv, .inl (cI, 4, .inl y3)), (vp, .inl (cI, 40, .inl fp)), (lk, .inr (2, [.ref kh, .ref ks, .ref kn, .int yu])), (kh, .inl (cI, LH, .inl y4)), (ks, .inl (cI, LS, .inl y5)), (kn, .inl (cI, LS, .inl y6)), (vo, .inl (cI, LW, .inl (upd y7 t_14.toNatClampNeg 0))), (gg, .inl (cZ, 81, .inl gl)), (vd, .inl (cI, 40, .inl fd))]) [0, 21, 22, 23] [1, 2, 3, 4, 5, 6, 7, 8, 9, 10, 11, 12, 13, 14, 15, 16, 17, 18, 19, 20] hP hD hS hA rfl rfl (by decide) (by decide) (by decide) (fun hPc hDc => va_runV (As := [.int t_14, .int r_82, .int 0]) (rest := []) ⟨hx, hb, hml, hown, hts⟩ (c_X7_decideE l D cI cZ cB H.size so ru tr lk vp vd vt vg vw ve vo vq yq pp t_62 sv LW LH LS LQ (upd y8 t_14.toNatClampNeg wv) (upd y9 t_14.toNatClampNeg 0) y0 t_14 r_82 0 hlw hlh hls hlq hqd hwo hqu (by omega) (by omega) (by omega)) (cwV 3 hts gX7_enter_X7_decide rfl rfl rfl (by decide +kernel) ⟨Nat.le_of_ble_eq_true rfl, Nat.le_of_ble_eq_true rfl⟩) (kt_preV hN hK hPc hDc 0 (ci := 7) (q := (RX7, TX7, 15)) rfl rfl) rfl rfl hl.1 rfl (lv_room (Nat.le_of_ble_eq_true rfl)) dX7_enter_99 ⟨Nat.le_of_ble_eq_true rfl, Nat.le_of_ble_eq_true rfl⟩) (fun u_ H locs hw_99 hP hD hS => ?_)
          obtain ⟨qd2_99, wo2_99, de2_99, qu2_99⟩ := u_
          have hP : va_P D vwCl [(so, .inr (7, [.ref ru, .ref tr, .ref lk, .ref vp, .ref vd, .ref vt, .ref vg, .ref vw, .ref ve, .ref vo, .ref vq, .int qd2_99, .int pp, .int t_62, .int sv])), (ru, .inr (6, [.ref la, .ref gr, .ref rk, .ref rs, .ref rt, .int tt, .int kg, .ref rv, .int yv])), (la, .inr (1, [.int lg, .int lh, .int lt, .int lr, .int lc])), (gr, .inr (0, [.ref gt, .ref gg, .ref gn, .int gs, .int gm])), (gt, .inl (cI, 81, .inl tg)), (gn, .inl (cI, 324, .inl nb)), (tr, .inr (8, [.ref tf, .ref th, .int (nI k)])), (tf, .inl (cI, 40, .inl xf2_1)), (th, .inl (cI, 81, .inl xh2_1)), (rk, .inl (cI, 40, .inl ck)), (rs, .inl (cI, 40, .inl fs)), (rt, .inl (cZ, 40, .inl ft)), (rv, .inl (cI, 4, .inl y3)), (vp, .inl (cI, 40, .inl fp)), (lk, .inr (2, [.ref kh, .ref ks, .ref kn, .int yu])), (kh, .inl (cI, LH, .inl y4)), (ks, .inl (cI, LS, .inl y5)), (kn, .inl (cI, LS, .inl y6)), (vo, .inl (cI, LW, .inl (upd y7 t_14.toNatClampNeg 0))), (gg, .inl (cZ, 81, .inl gl)), (vd, .inl (cI, 40, .inl fd)), (vw, .inl (cI, LW, .inl wo2_99)), (ve, .inl (cI, LW, .inl de2_99)), (vq, .inl (cI, LW, .inl qu2_99))] H := hP.sub [20, 0, 1, 2, 3, 4, 5, 6, 7, 8, 9, 10, 11, 12, 13, 14, 15, 16, 17, 18, 19, 21, 22, 23] rfl
          have hD : va_D A [(so, .inr (7, [.ref ru, .ref tr, .ref lk, .ref vp, .ref vd, .ref vt, .ref vg, .ref vw, .ref ve, .ref vo, .ref vq, .int qd2_99, .int pp, .int t_62, .int sv])), (ru, .inr (6, [.ref la, .ref gr, .ref rk, .ref rs, .ref rt, .int tt, .int kg, .ref rv, .int yv])), (la, .inr (1, [.int lg, .int lh, .int lt, .int lr, .int lc])), (gr, .inr (0, [.ref gt, .ref gg, .ref gn, .int gs, .int gm])), (gt, .inl (cI, 81, .inl tg)), (gn, .inl (cI, 324, .inl nb)), (tr, .inr (8, [.ref tf, .ref th, .int (nI k)])), (tf, .inl (cI, 40, .inl xf2_1)), (th, .inl (cI, 81, .inl xh2_1)), (rk, .inl (cI, 40, .inl ck)), (rs, .inl (cI, 40, .inl fs)), (rt, .inl (cZ, 40, .inl ft)), (rv, .inl (cI, 4, .inl y3)), (vp, .inl (cI, 40, .inl fp)), (lk, .inr (2, [.ref kh, .ref ks, .ref kn, .int yu])), (kh, .inl (cI, LH, .inl y4)), (ks, .inl (cI, LS, .inl y5)), (kn, .inl (cI, LS, .inl y6)), (vo, .inl (cI, LW, .inl (upd y7 t_14.toNatClampNeg 0))), (gg, .inl (cZ, 81, .inl gl)), (vd, .inl (cI, 40, .inl fd)), (vw, .inl (cI, LW, .inl wo2_99)), (ve, .inl (cI, LW, .inl de2_99)), (vq, .inl (cI, LW, .inl qu2_99))] := hD.sub [20, 0, 1, 2, 3, 4, 5, 6, 7, 8, 9, 10, 11, 12, 13, 14, 15, 16, 17, 18, 19, 21, 22, 23] (by decide) rfl
          try dsimp only at hw_99
          obtain ⟨⟨hqd, hwo, hqu⟩, q1_, q2_, q3_, q4_⟩ := hw_99
          have hev1 : (kt_ev B_ P_ w_ L_ fr fk lr.toInt lg kg.toInt.toNat) (p1.toInt.toNat + k) = r_82.toInt := by rw [hev.1, if_neg (by omega)]
          have hnew : kt_ENX T_ (p1.toInt.toNat + (k + 1)) U_ (kt_cq gm.toInt fk P_ (k + 1)) (kt_ev B_ P_ w_ L_ fr fk lr.toInt lg kg.toInt.toNat) (kt_ed B_ P_ w_ L_ fr fk lr.toInt lt lh) yu y5 y4 y6 wo2_99 de2_99 (upd y7 t_14.toNatClampNeg 0) qu2_99 qd2_99.toInt.toNat := by
            rw [q2_, q3_, q4_, show t_14.toNatClampNeg = (p1.toInt.toNat + k) from hsN, hsN, fa_upd_twice_, fa_upd_twice_, show qd2_99.toInt.toNat = yq.toInt.toNat + 1 by omega]
            exact ⟨et1, U1, hu1, by omega, hen.won (hev1.symm) (by omega) (by decide) hsN⟩
          refine lv_goto (tgt := 111) hx hb dX7_enter_102 (by decide) ?_
          refine lv_iinc (v := nI (k + 1)) (lv' := [(3, .int (nI (k + 1))), (5, .int r_82), (4, .int t_14), (2, .int r_1), (0, .ref so), (1, .int p1)]) hx hb dX7_enter_111 hl (k := 2) rfl (nI_1 _) (by decide) rfl (fun ls hl => ?_)
          refine lv_goto (tgt := 7) hx hb dX7_enter_114 (by decide) ?_
          exact ih_7 ((k + 1), y3, yv, yu, y4, y5, y6, (upd y7 t_14.toNatClampNeg 0), (nI k), qd2_99, t_62, wo2_99, de2_99, qu2_99) (by show ((k + 1) ≤ 2 ∧ 2 < (k + 1) + n_7) ∧ (kt_r y3 4 0 39 ∧ (0 ≤ yv.toInt ∧ yv.toInt ≤ 4) ∧ (0 ≤ yu.toInt ∧ yu.toInt ≤ (LS : Int)) ∧ kt_r y4 LH (-1) ((LS : Int) - 1) ∧ kt_r y5 LS 0 ((LQ : Int) - 1) ∧ kt_r y6 LS (-1) ((LS : Int) - 1) ∧ (0 ≤ (nI k).toInt ∧ (nI k).toInt ≤ 1) ∧ (0 ≤ qd2_99.toInt ∧ qd2_99.toInt ≤ (LW : Int)) ∧ kt_r wo2_99 LW (-1) 2 ∧ kt_r qu2_99 LW 0 ((LQ : Int) - 1)) ∧ (0 ≤ t_62.toInt ∧ t_62.toInt ≤ ct.toInt + ((k + 1) : Int)) ∧ (((kt_gdp (L_ * w_) fr fk (fun p => (fd p).toInt) P_) → t_62.toInt = ct.toInt + ((k + 1) : Int)) ∧ (¬ (kt_gdp (L_ * w_) fr fk (fun p => (fd p).toInt) P_) → t_62.toInt = ct.toInt)) ∧ kt_ENX T_ ((p1.toInt.toNat + (k + 1))) U_ (kt_cq gm.toInt fk P_ (k + 1)) (kt_ev B_ P_ w_ L_ fr fk lr.toInt lg kg.toInt.toNat) (kt_ed B_ P_ w_ L_ fr fk lr.toInt lt lh) yu y5 y4 y6 wo2_99 de2_99 (upd y7 t_14.toNatClampNeg 0) qu2_99 qd2_99.toInt.toNat; first | exact ⟨by omega, ⟨hrv, hvc, hus, hhe, hsr, hne, htn, hqd, hwo, hqu⟩, by omega, ⟨fun h => absurd h (hsu.f c_50), hc0_⟩, hnew⟩ | exact ⟨by omega, ⟨hrv, hvc, hus, hhe, hsr, hne, htn, hqd, hwo, hqu⟩, by omega, ⟨fun h => by have h5 := hc1 h; omega, fun h => absurd (hsu.t c_50) h⟩, hnew⟩) H _ hP hD hS ls (lv_sub hl [0, 3, 4, 5] rfl)
      · have d_50 := c_50
        simp only [kt_lt, kt_le, kt_eq, kt_c0, kt_c1, kt_c2, kt_c3, kt_c4, kt_c8, kt_c9, kt_cm1, kt_c81, kt_c40, kt_c7, kt_c5, kt_c6, kt_c512, kt_c10, kt_c10000] at d_50
        have hng := fun h => (hsu.f c_50) (hgdi.mpr h)
        have hwvm : wv = -1 := by
          rcases hwv with ⟨-, h⟩ | ⟨h, -⟩
          · exact h
          · exact absurd c_50 h
        have hnew : kt_ENX T_ (p1.toInt.toNat + (k + 1)) U_ (kt_cq gm.toInt fk P_ (k + 1)) (kt_ev B_ P_ w_ L_ fr fk lr.toInt lg kg.toInt.toNat) (kt_ed B_ P_ w_ L_ fr fk lr.toInt lt lh) yu y5 y4 y6 (upd y8 t_14.toNatClampNeg wv) (upd y9 t_14.toNatClampNeg 0) (upd y7 t_14.toNatClampNeg 0) y0 yq.toInt.toNat := by
          rw [show t_14.toNatClampNeg = (p1.toInt.toNat + k) from hsN, hwvm]
          exact ⟨et1, U1, hu1, by omega, hen.none (kt_ev_no (by rw [hn2]; exact hng)) (by decide) (by decide)⟩
        refine lv_goto (tgt := 111) hx hb dX7_enter_53 (by decide) ?_
        refine lv_iinc (v := nI (k + 1)) (lv' := [(3, .int (nI (k + 1))), (4, .int t_14), (2, .int r_1), (0, .ref so), (1, .int p1)]) hx hb dX7_enter_111 hl (k := 1) rfl (nI_1 _) (by decide) rfl (fun ls hl => ?_)
        refine lv_goto (tgt := 7) hx hb dX7_enter_114 (by decide) ?_
        exact ih_7 ((k + 1), y3, yv, yu, y4, y5, y6, (upd y7 t_14.toNatClampNeg 0), yt, yq, yc, (upd y8 t_14.toNatClampNeg wv), (upd y9 t_14.toNatClampNeg 0), y0) (by show ((k + 1) ≤ 2 ∧ 2 < (k + 1) + n_7) ∧ (kt_r y3 4 0 39 ∧ (0 ≤ yv.toInt ∧ yv.toInt ≤ 4) ∧ (0 ≤ yu.toInt ∧ yu.toInt ≤ (LS : Int)) ∧ kt_r y4 LH (-1) ((LS : Int) - 1) ∧ kt_r y5 LS 0 ((LQ : Int) - 1) ∧ kt_r y6 LS (-1) ((LS : Int) - 1) ∧ (0 ≤ yt.toInt ∧ yt.toInt ≤ 1) ∧ (0 ≤ yq.toInt ∧ yq.toInt ≤ (LW : Int)) ∧ kt_r (upd y8 t_14.toNatClampNeg wv) LW (-1) 2 ∧ kt_r y0 LW 0 ((LQ : Int) - 1)) ∧ (0 ≤ yc.toInt ∧ yc.toInt ≤ ct.toInt + ((k + 1) : Int)) ∧ (((kt_gdp (L_ * w_) fr fk (fun p => (fd p).toInt) P_) → yc.toInt = ct.toInt + ((k + 1) : Int)) ∧ (¬ (kt_gdp (L_ * w_) fr fk (fun p => (fd p).toInt) P_) → yc.toInt = ct.toInt)) ∧ kt_ENX T_ ((p1.toInt.toNat + (k + 1))) U_ (kt_cq gm.toInt fk P_ (k + 1)) (kt_ev B_ P_ w_ L_ fr fk lr.toInt lg kg.toInt.toNat) (kt_ed B_ P_ w_ L_ fr fk lr.toInt lt lh) yu y5 y4 y6 (upd y8 t_14.toNatClampNeg wv) (upd y9 t_14.toNatClampNeg 0) (upd y7 t_14.toNatClampNeg 0) y0 yq.toInt.toNat; first | exact ⟨by omega, ⟨hrv, hvc, hus, hhe, hsr, hne, htn, hqd, hwo, hqu⟩, by omega, ⟨fun h => absurd h (hsu.f c_50), hc0_⟩, hnew⟩ | exact ⟨by omega, ⟨hrv, hvc, hus, hhe, hsr, hne, htn, hqd, hwo, hqu⟩, by omega, ⟨fun h => by have h5 := hc1 h; omega, fun h => absurd (hsu.t c_50) h⟩, hnew⟩) H _ hP hD hS ls (lv_sub hl [0, 2, 3, 4] rfl)
    refine lv_if_eq (tgt := 31) hx hb dX7_enter_24 (by decide) (fun c_24 => ?_) (fun c_24 => ?_)
    · have d_24 := c_24
      simp only [kt_lt, kt_le, kt_eq, kt_c0, kt_c1, kt_c2, kt_c3, kt_c4, kt_c8, kt_c9, kt_cm1, kt_c81, kt_c40, kt_c7, kt_c5, kt_c6, kt_c512, kt_c10, kt_c10000] at d_24
      refine lv_iconst (v := (-1)) hx hb dX7_enter_31 (by decide) ?_
      exact j_32 (-1 : Int32) (by show (r_1 = 0 ∧ (-1 : Int32) = -1) ∨ (¬ r_1 = 0 ∧ (-1 : Int32) = 2); first | exact Or.inl ⟨c_24, rfl⟩ | exact Or.inr ⟨c_24, rfl⟩) H _ hP hD hS ls (lv_sub hl [0, 1, 2, 3, 4] rfl)
    · have d_24 := c_24
      simp only [kt_lt, kt_le, kt_eq, kt_c0, kt_c1, kt_c2, kt_c3, kt_c4, kt_c8, kt_c9, kt_cm1, kt_c81, kt_c40, kt_c7, kt_c5, kt_c6, kt_c512, kt_c10, kt_c10000] at d_24
      refine lv_iconst (v := 2) hx hb dX7_enter_27 (by decide) ?_
      refine lv_goto (tgt := 32) hx hb dX7_enter_28 (by decide) ?_
      exact j_32 (2 : Int32) (by show (r_1 = 0 ∧ (2 : Int32) = -1) ∨ (¬ r_1 = 0 ∧ (2 : Int32) = 2); first | exact Or.inl ⟨c_24, rfl⟩ | exact Or.inr ⟨c_24, rfl⟩) H _ hP hD hS ls (lv_sub hl [0, 1, 2, 3, 4] rfl)
