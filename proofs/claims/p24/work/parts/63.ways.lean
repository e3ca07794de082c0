/-! ===== ways, bars, rooms ===== -/
theorem kt_al_0 {x w L a : Int} (hw : 2 ≤ w ∧ w ≤ 9) (hL : 2 ≤ L ∧ L ≤ 9) (hx : 0 ≤ x ∧ x < L * w) : kt_al x w L a 0 = x := by
  have hr := kt_rom_b (a := a) hw hL hx
  rw [(kt_al_c x w L a 0).1 hr.1, Int.zero_mul, Int.add_zero]
theorem kt_al_next {x w L a k : Int} (hw : 2 ≤ w ∧ w ≤ 9) (hL : 2 ≤ L ∧ L ≤ 9) (hx : 0 ≤ x ∧ x < L * w) (ha : 0 ≤ a ∧ a < 4) (hk : 0 ≤ k) : (kt_al x w L a k = -1 → kt_al x w L a (k + 1) = -1) ∧ (¬ kt_al x w L a k = -1 → (0 ≤ kt_al x w L a k ∧ kt_al x w L a k < L * w) ∧ k ≤ kt_rom x w L a ∧ kt_al (kt_al x w L a k) w L a 1 = kt_al x w L a (k + 1)) := by
  have hc := kt_al_c x w L a k
  have hc1 := kt_al_c x w L a (k + 1)
  have h0 := kt_al_0 (a := a) hw hL hx
  by_cases e : k ≤ kt_rom x w L a
  · have hin : 0 ≤ kt_al x w L a k ∧ kt_al x w L a k < L * w := by
      by_cases e0 : k = 0
      · rw [e0, h0]; exact hx
      · rcases kt_al_r (a := a) (n := k) hw hL hx (by omega) with h | h
        · exact absurd e h.2
        · omega
    refine ⟨fun h => by omega, fun _ => ⟨hin, e, ?_⟩⟩
    have h1 := kt_al_add (f := x) (L := L) hw ha hk e
    rw [← hc.1 e] at h1
    exact h1
  · exact ⟨fun _ => hc1.2 (by omega), fun h => absurd (hc.2 e) h⟩
theorem kt_al_ninj {x w L a m n : Int} (hw : 2 ≤ w ∧ w ≤ 9) (hm : m ≤ kt_rom x w L a) (hn : n ≤ kt_rom x w L a) (h : kt_al x w L a m = kt_al x w L a n) : m = n := by
  rw [(kt_al_c x w L a m).1 hm, (kt_al_c x w L a n).1 hn] at h
  have hs : kt_stp w a ≠ 0 := by
    unfold kt_stp
    split
    · omega
    · split
      · omega
      · split <;> omega
  exact Int.eq_of_mul_eq_mul_right hs (by omega)
/-- what stops a piece of a kind on the first n fields of a way: 8 a piece, 9 a ground, 0 nothing -/
def kt_pth (fo fr : Nat → Int32) (kp : Int32) (x w L a : Int) : Nat → Int
  | 0 => 0
  | n + 1 => if kt_pth fo fr kp x w L a n = 0 then (if fo (kt_al x w L a ((n : Int) + 1)).toNat = -1 then (if fr (kt_al x w L a ((n : Int) + 1)).toNat = 0 ∨ kp = 2 then 0 else 9) else 8) else kt_pth fo fr kp x w L a n
theorem kt_pth_s {fo fr : Nat → Int32} {kp : Int32} {x w L a : Int} {n : Nat} (h : kt_pth fo fr kp x w L a n = 0) : (¬ fo (kt_al x w L a ((n : Int) + 1)).toNat = -1 → kt_pth fo fr kp x w L a (n + 1) = 8) ∧ (fo (kt_al x w L a ((n : Int) + 1)).toNat = -1 → ¬ (fr (kt_al x w L a ((n : Int) + 1)).toNat = 0 ∨ kp = 2) → kt_pth fo fr kp x w L a (n + 1) = 9) ∧ (fo (kt_al x w L a ((n : Int) + 1)).toNat = -1 → (fr (kt_al x w L a ((n : Int) + 1)).toNat = 0 ∨ kp = 2) → kt_pth fo fr kp x w L a (n + 1) = 0) := by
  show (_ → (if kt_pth fo fr kp x w L a n = 0 then (if fo (kt_al x w L a ((n : Int) + 1)).toNat = -1 then (if fr (kt_al x w L a ((n : Int) + 1)).toNat = 0 ∨ kp = 2 then (0 : Int) else 9) else 8) else kt_pth fo fr kp x w L a n) = 8) ∧ (_ → _ → (if kt_pth fo fr kp x w L a n = 0 then (if fo (kt_al x w L a ((n : Int) + 1)).toNat = -1 then (if fr (kt_al x w L a ((n : Int) + 1)).toNat = 0 ∨ kp = 2 then (0 : Int) else 9) else 8) else kt_pth fo fr kp x w L a n) = 9) ∧ (_ → _ → (if kt_pth fo fr kp x w L a n = 0 then (if fo (kt_al x w L a ((n : Int) + 1)).toNat = -1 then (if fr (kt_al x w L a ((n : Int) + 1)).toNat = 0 ∨ kp = 2 then (0 : Int) else 9) else 8) else kt_pth fo fr kp x w L a n) = 0)
  rw [if_pos h]
  exact ⟨fun h1 => if_neg h1, fun h1 h2 => by rw [if_pos h1, if_neg h2], fun h1 h2 => by rw [if_pos h1, if_pos h2]⟩
theorem kt_pth_n {fo fr : Nat → Int32} {kp : Int32} {x w L a : Int} {n : Nat} (h : ¬ kt_pth fo fr kp x w L a n = 0) : kt_pth fo fr kp x w L a (n + 1) = kt_pth fo fr kp x w L a n := by
  show (if kt_pth fo fr kp x w L a n = 0 then _ else kt_pth fo fr kp x w L a n) = _
  rw [if_neg h]
theorem kt_pth_up {fo fr : Nat → Int32} {kp : Int32} {x w L a : Int} {n : Nat} (h : ¬ kt_pth fo fr kp x w L a n = 0) : ∀ k, kt_pth fo fr kp x w L a (n + k) = kt_pth fo fr kp x w L a n
  | 0 => rfl
  | k + 1 => by
    have h1 := kt_pth_up h k
    rw [← Nat.add_assoc, kt_pth_n (by rw [h1]; exact h), h1]
theorem kt_pth_m {fo fr : Nat → Int32} {kp : Int32} {x w L a : Int} {n m : Nat} (h : ¬ kt_pth fo fr kp x w L a n = 0) (hm : n ≤ m) : kt_pth fo fr kp x w L a m = kt_pth fo fr kp x w L a n := by
  have e : m = n + (m - n) := by omega
  rw [e]
  exact kt_pth_up h _
/-- only the holders on the board count -/
theorem kt_pth_cong {fo fo' fr : Nat → Int32} {kp : Int32} {x w L a : Int} (h : ∀ f, f < 81 → fo f = fo' f) (hb : ∀ n : Nat, (kt_al x w L a ((n : Int) + 1)).toNat < 81) : ∀ n, kt_pth fo fr kp x w L a n = kt_pth fo' fr kp x w L a n
  | 0 => rfl
  | n + 1 => by
    unfold kt_pth
    rw [kt_pth_cong h hb n, h _ (hb _)]
/-- why a piece can't go n fields: 6 beyond the board, 7 beyond its reach, 8, 9 -/
def kt_bar (fo fr : Nat → Int32) (kp : Int32) (re x w L a n : Int) : Int := if n ≤ kt_rom x w L a then (if kp = 2 ∧ 0 < re ∧ re < n then 7 else kt_pth fo fr kp x w L a n.toNat) else 6
theorem kt_bar_c (fo fr : Nat → Int32) (kp : Int32) (re x w L a n : Int) : (¬ n ≤ kt_rom x w L a → kt_bar fo fr kp re x w L a n = 6) ∧ (n ≤ kt_rom x w L a → (kp = 2 ∧ 0 < re ∧ re < n) → kt_bar fo fr kp re x w L a n = 7) ∧ (n ≤ kt_rom x w L a → ¬ (kp = 2 ∧ 0 < re ∧ re < n) → kt_bar fo fr kp re x w L a n = kt_pth fo fr kp x w L a n.toNat) := by
  unfold kt_bar
  exact ⟨fun h => if_neg h, fun h1 h2 => by rw [if_pos h1, if_pos h2], fun h1 h2 => by rw [if_pos h1, if_neg h2]⟩
theorem kt_bar_0 {fo fr : Nat → Int32} {kp : Int32} {re x w L a n : Int} : kt_bar fo fr kp re x w L a n = 0 ↔ n ≤ kt_rom x w L a ∧ ¬ (kp = 2 ∧ 0 < re ∧ re < n) ∧ kt_pth fo fr kp x w L a n.toNat = 0 := by
  obtain ⟨h1, h2, h3⟩ := kt_bar_c fo fr kp re x w L a n
  by_cases c1 : n ≤ kt_rom x w L a
  · by_cases c2 : kp = 2 ∧ 0 < re ∧ re < n
    · rw [h2 c1 c2]; exact ⟨fun h => absurd h (by decide), fun h => absurd c2 h.2.1⟩
    · rw [h3 c1 c2]; exact ⟨fun h => ⟨c1, c2, h⟩, fun h => h.2.2⟩
  · rw [h1 c1]; exact ⟨fun h => absurd h (by decide), fun h => absurd h.1 c1⟩
theorem kt_bar_le {fo fr : Nat → Int32} {kp : Int32} {re x w L a n m : Int} (h : kt_bar fo fr kp re x w L a n = 0) (h0 : 0 ≤ m) (hm : m ≤ n) : kt_bar fo fr kp re x w L a m = 0 := by
  obtain ⟨h1, h2, h3⟩ := kt_bar_0.mp h
  refine kt_bar_0.mpr ⟨by omega, fun h4 => h2 ⟨h4.1, h4.2.1, by omega⟩, ?_⟩
  by_cases e : kt_pth fo fr kp x w L a m.toNat = 0
  · exact e
  · rw [← kt_pth_m e (m := n.toNat) (by omega)]; exact h3
/-- how many fields a piece can go a way -/
def kt_RM (fo fr : Nat → Int32) (kp : Int32) (re x w L a r : Int) : Prop := (0 ≤ r ∧ r ≤ 8) ∧ ∀ n : Nat, 1 ≤ n → ((n : Int) ≤ r ↔ kt_bar fo fr kp re x w L a n = 0)
theorem kt_RM_of {fo fr : Nat → Int32} {kp : Int32} {re x w L a : Int} {k : Nat} (h8 : k ≤ 8) (h1 : (k : Int) ≤ kt_rom x w L a) (h2 : kt_pth fo fr kp x w L a k = 0) (h3 : kp = 2 ∧ 0 < re → (k : Int) ≤ re) (h4 : ¬ (k : Int) + 1 ≤ kt_rom x w L a ∨ (kp = 2 ∧ 0 < re ∧ (k : Int) = re) ∨ ¬ kt_pth fo fr kp x w L a (k + 1) = 0) : kt_RM fo fr kp re x w L a k := by
  refine ⟨by omega, fun n hn => ⟨fun h => ?_, fun h => ?_⟩⟩
  · refine kt_bar_0.mpr ⟨by omega, fun h5 => by have := h3 ⟨h5.1, h5.2.1⟩; omega, ?_⟩
    rw [show ((n : Int)).toNat = n by omega]
    by_cases e : kt_pth fo fr kp x w L a n = 0
    · exact e
    · rw [← kt_pth_m e (m := k) (by omega)]; exact h2
  · obtain ⟨b1, b2, b3⟩ := kt_bar_0.mp h
    rw [show ((n : Int)).toNat = n by omega] at b3
    rcases Int.lt_or_le (k : Int) (n : Int) with hlt | hle
    · exfalso
      rcases h4 with h4 | h4 | h4
      · omega
      · exact b2 ⟨h4.1, h4.2.1, by omega⟩
      · exact h4 (by rw [← kt_pth_m h4 (m := n) (by omega)]; exact b3)
    · exact hle
theorem kt_RM.uniq {fo fr : Nat → Int32} {kp : Int32} {re x w L a r r' : Int} (h : kt_RM fo fr kp re x w L a r) (h' : kt_RM fo fr kp re x w L a r') : r = r' := by
  obtain ⟨a1, a2⟩ := h
  obtain ⟨b1, b2⟩ := h'
  rcases Int.lt_trichotomy r r' with c | c | c
  · have h3 := (a2 r'.toNat (by omega)).mpr ((b2 r'.toNat (by omega)).mp (by omega)); omega
  · exact c
  · have h3 := (b2 r.toNat (by omega)).mpr ((a2 r.toNat (by omega)).mp (by omega)); omega
theorem kt_RM.pos {fo fr : Nat → Int32} {kp : Int32} {re x w L a r : Int} (h : kt_RM fo fr kp re x w L a r) : 0 < r ↔ kt_bar fo fr kp re x w L a 1 = 0 := by
  have h1 := h.2 1 (Nat.le_refl 1)
  rw [show ((1 : Nat) : Int) = 1 from rfl] at h1
  rw [← h1]
  exact ⟨fun h => by omega, fun h => by omega⟩
/-- moves of one way, counted one by one -/
def kt_cb (fo fr : Nat → Int32) (kp : Int32) (re x w L a : Int) : Nat → Nat
  | 0 => 0
  | n + 1 => kt_cb fo fr kp re x w L a n + (if kt_bar fo fr kp re x w L a ((n : Int) + 1) = 0 then 1 else 0)
theorem kt_cb_RM {fo fr : Nat → Int32} {kp : Int32} {re x w L a r : Int} (h : kt_RM fo fr kp re x w L a r) : ∀ n : Nat, ((n : Int) ≤ r → (kt_cb fo fr kp re x w L a n : Int) = n) ∧ (r ≤ (n : Int) → (kt_cb fo fr kp re x w L a n : Int) = r)
  | 0 => by
    have := h.1
    exact ⟨fun _ => rfl, fun h1 => by show ((0 : Nat) : Int) = r; omega⟩
  | n + 1 => by
    obtain ⟨i1, i2⟩ := kt_cb_RM h n
    have h1 := h.2 (n + 1) (by omega)
    rw [show (((n + 1 : Nat)) : Int) = (n : Int) + 1 from rfl] at h1 ⊢
    show (_ → ((kt_cb fo fr kp re x w L a n + (if kt_bar fo fr kp re x w L a ((n : Int) + 1) = 0 then 1 else 0) : Nat) : Int) = _) ∧ (_ → ((kt_cb fo fr kp re x w L a n + (if kt_bar fo fr kp re x w L a ((n : Int) + 1) = 0 then 1 else 0) : Nat) : Int) = _)
    by_cases e : (n : Int) + 1 ≤ r
    · rw [if_pos (h1.mp e)]
      have := i1 (by omega)
      exact ⟨fun _ => by omega, fun _ => by omega⟩
    · rw [if_neg (fun h2 => e (h1.mpr h2))]
      have := i2 (by omega)
      exact ⟨fun h2 => absurd h2 e, fun _ => by omega⟩
theorem kt_RM.cb {fo fr : Nat → Int32} {kp : Int32} {re x w L a r : Int} (h : kt_RM fo fr kp re x w L a r) : (kt_cb fo fr kp re x w L a 8 : Int) = r := (kt_cb_RM h 8).2 h.1.2
/-- moves of the first ways -/
def kt_ms (fo fr : Nat → Int32) (kp : Int32) (re x w L : Int) : Nat → Nat
  | 0 => 0
  | a + 1 => kt_ms fo fr kp re x w L a + kt_cb fo fr kp re x w L (a : Int) 8
theorem kt_cb_pos {fo fr : Nat → Int32} {kp : Int32} {re x w L a : Int} : ∀ {n : Nat}, 1 ≤ n → (0 < kt_cb fo fr kp re x w L a n ↔ kt_bar fo fr kp re x w L a 1 = 0)
  | 0, h => absurd h (by omega)
  | 1, _ => by
    show 0 < 0 + (if kt_bar fo fr kp re x w L a (((0 : Nat) : Int) + 1) = 0 then 1 else 0) ↔ _
    rw [show ((0 : Nat) : Int) + 1 = 1 from rfl]
    split
    · rename_i h; exact ⟨fun _ => h, fun _ => by omega⟩
    · rename_i h; exact ⟨fun h1 => by omega, fun h1 => absurd h1 h⟩
  | n + 2, _ => by
    have ih := kt_cb_pos (fo := fo) (fr := fr) (kp := kp) (re := re) (x := x) (w := w) (L := L) (a := a) (n := n + 1) (by omega)
    show 0 < kt_cb fo fr kp re x w L a (n + 1) + (if kt_bar fo fr kp re x w L a (((n + 1 : Nat) : Int) + 1) = 0 then 1 else 0) ↔ _
    split
    · rename_i h; exact ⟨fun _ => kt_bar_le h (by omega) (by omega), fun _ => by omega⟩
    · rw [← ih]; exact ⟨fun h1 => by omega, fun h1 => by omega⟩
theorem kt_ms_pos {fo fr : Nat → Int32} {kp : Int32} {re x w L : Int} : ∀ {n : Nat}, 0 < kt_ms fo fr kp re x w L n ↔ ∃ a : Nat, a < n ∧ kt_bar fo fr kp re x w L a 1 = 0
  | 0 => ⟨fun h => absurd h (Nat.lt_irrefl 0), fun ⟨a, h, _⟩ => absurd h (Nat.not_lt_zero a)⟩
  | n + 1 => by
    show 0 < kt_ms fo fr kp re x w L n + kt_cb fo fr kp re x w L (n : Int) 8 ↔ _
    have h1 := kt_ms_pos (fo := fo) (fr := fr) (kp := kp) (re := re) (x := x) (w := w) (L := L) (n := n)
    have h2 := kt_cb_pos (fo := fo) (fr := fr) (kp := kp) (re := re) (x := x) (w := w) (L := L) (a := (n : Int)) (n := 8) (by omega)
    constructor
    · intro h
      by_cases c : 0 < kt_ms fo fr kp re x w L n
      · obtain ⟨a, h3, h4⟩ := h1.mp c
        exact ⟨a, by omega, h4⟩
      · exact ⟨n, by omega, h2.mp (by omega)⟩
    · intro ⟨a, h3, h4⟩
      by_cases c : a = n
      · rw [c] at h4
        have := h2.mpr h4
        omega
      · have := h1.mpr ⟨a, by omega, h4⟩
        omega
/-- a side can go -/
def kt_can (P : Nat) (fo fr fk A : Nat → Int32) (re w L s : Int) : Prop := ∃ p : Nat, p < P ∧ kt_side (fk p) = s ∧ ¬ A p = -1 ∧ ∃ a : Nat, a < 4 ∧ kt_bar fo fr (fk p) re (A p).toInt w L a 1 = 0
/-! ===== the class's board and pieces against the reference's ===== -/
def kt_RX (w L : Int) (P : Nat) (tt kg gs lg lt : Int32) (tg gl nb fk fs ft fr ck : Nat → Int32) : Prop :=
  (gs.toInt = L * w ∧ (2 ≤ w ∧ w ≤ 9) ∧ (2 ≤ L ∧ L ≤ 9)) ∧ (∀ f : Nat, (f : Int) < L * w → ∀ a : Nat, a < 4 → (nb (4 * f + a)).toInt = kt_al (f : Int) w L a 1) ∧ (∀ f : Nat, (f : Int) < L * w → (tg f = 0 ↔ fr f = 0) ∧ (tg f = 2 ↔ fr f = 6) ∧ kt_B (gl f) (kt_goR lg w L (fr f) (f : Int))) ∧ (tt = nI P ∧ P ≤ 40) ∧ kt_SD fk fs ft lt P ∧ (∀ q, q < P → (fk q = 2 ↔ kg = nI q)) ∧ (∀ q, q < P → ck q = fk q) ∧ 0 ≤ kg.toInt ∧ kg.toInt < (P : Int)
/-- where the class's pieces are -/
def kt_ST (w L : Int) (P : Nat) (ff fh : Nat → Int32) : Prop := kt_r ff P (-1) (L * w - 1) ∧ kt_con fh ff P ∧ kt_coc fh ff P ∧ ∀ q, P ≤ q → q < 40 → ff q = -1
/-- one field further along a way -/
theorem kt_step {x w L a k f r : Int} (hw : 2 ≤ w ∧ w ≤ 9) (hL : 2 ≤ L ∧ L ≤ 9) (hx : 0 ≤ x ∧ x < L * w) (ha : 0 ≤ a ∧ a < 4) (hk : 0 ≤ k) (hf : f = kt_al x w L a k) (h1 : 0 ≤ f ∧ f < L * w ∧ 0 ≤ a ∧ a < 4 → r = kt_al f w L a 1) (h2 : ¬ (0 ≤ f ∧ f < L * w ∧ 0 ≤ a ∧ a < 4) → r = -1) : r = kt_al x w L a (k + 1) := by
  obtain ⟨n1, n2⟩ := kt_al_next hw hL hx ha hk
  by_cases e : kt_al x w L a k = -1
  · rw [h2 (by rw [hf, e]; omega), n1 e]
  · obtain ⟨m1, -, m3⟩ := n2 e
    rw [h1 (by rw [hf]; omega), hf, m3]
/-- how a room is looked for: k fields are free, f is the next one -/
def kt_rmi (fo fr : Nat → Int32) (kp : Int32) (X w L a : Int) (k : Nat) (f : Int) : Prop := (X = -1 ∧ k = 0 ∧ f = -1) ∨ (0 ≤ X ∧ f = kt_al X w L a ((k : Int) + 1) ∧ (k : Int) ≤ kt_rom X w L a ∧ kt_pth fo fr kp X w L a k = 0)
theorem kt_rmi.start {fo fr : Nat → Int32} {kp : Int32} {X w L a f : Int} (hw : 2 ≤ w ∧ w ≤ 9) (hL : 2 ≤ L ∧ L ≤ 9) (hX : -1 ≤ X ∧ X < L * w) (ha : 0 ≤ a ∧ a < 4) (h1 : 0 ≤ X ∧ X < L * w ∧ 0 ≤ a ∧ a < 4 → f = kt_al X w L a 1) (h2 : ¬ (0 ≤ X ∧ X < L * w ∧ 0 ≤ a ∧ a < 4) → f = -1) : kt_rmi fo fr kp X w L a 0 f := by
  by_cases e : X = -1
  · exact Or.inl ⟨e, rfl, h2 (by omega)⟩
  · exact Or.inr ⟨by omega, h1 (by omega), (kt_rom_b (a := a) hw hL (by omega)).1, rfl⟩
theorem kt_rmi.inn {fo fr : Nat → Int32} {kp : Int32} {X w L a f : Int} {k : Nat} (h : kt_rmi fo fr kp X w L a k f) (hw : 2 ≤ w ∧ w ≤ 9) (hL : 2 ≤ L ∧ L ≤ 9) (hX : -1 ≤ X ∧ X < L * w) (hne : ¬ f = -1) : (0 ≤ f ∧ f < L * w) ∧ (0 ≤ X ∧ f = kt_al X w L a ((k : Int) + 1) ∧ (k : Int) + 1 ≤ kt_rom X w L a ∧ kt_pth fo fr kp X w L a k = 0) := by
  rcases h with h | ⟨h1, h2, h3, h4⟩
  · exact absurd h.2.2 hne
  · rcases kt_al_r (a := a) (n := (k : Int) + 1) hw hL (show 0 ≤ X ∧ X < L * w by omega) (by omega) with h | h
    · exact absurd (h2.trans h.1) hne
    · exact ⟨by omega, h1, h2, h.1, h4⟩
theorem kt_rmi.go {fo fr : Nat → Int32} {kp : Int32} {X w L a f r : Int} {k : Nat} (h : kt_rmi fo fr kp X w L a k f) (hw : 2 ≤ w ∧ w ≤ 9) (hL : 2 ≤ L ∧ L ≤ 9) (hX : -1 ≤ X ∧ X < L * w) (ha : 0 ≤ a ∧ a < 4) (hne : ¬ f = -1) (hh : fo f.toNat = -1) (hb : fr f.toNat = 0 ∨ kp = 2) (h1 : 0 ≤ f ∧ f < L * w ∧ 0 ≤ a ∧ a < 4 → r = kt_al f w L a 1) (h2 : ¬ (0 ≤ f ∧ f < L * w ∧ 0 ≤ a ∧ a < 4) → r = -1) : kt_rmi fo fr kp X w L a (k + 1) r := by
  obtain ⟨-, g1, g2, g3, g4⟩ := h.inn hw hL hX hne
  rw [g2] at hh hb
  exact Or.inr ⟨g1, kt_step hw hL (by omega) ha (by omega) g2 h1 h2, g3, (kt_pth_s g4).2.2 hh hb⟩
theorem kt_rmi.stop {fo fr : Nat → Int32} {kp : Int32} {X w L a f re lim : Int} {k : Nat} (h : kt_rmi fo fr kp X w L a k f) (hw : 2 ≤ w ∧ w ≤ 9) (hL : 2 ≤ L ∧ L ≤ 9) (hX : -1 ≤ X ∧ X < L * w) (hl : (lim = 9 ∧ ¬ (kp = 2 ∧ 0 < re)) ∨ (lim = re ∧ kp = 2 ∧ 0 < re)) (hk : (k : Int) ≤ lim)
    (hs : (k : Int) = lim ∨ f = -1 ∨ (¬ f = -1 ∧ ¬ fo f.toNat = -1) ∨ (¬ f = -1 ∧ fo f.toNat = -1 ∧ ¬ (fr f.toNat = 0 ∨ kp = 2))) : (X = -1 → (k : Int) = 0) ∧ (¬ X = -1 → kt_RM fo fr kp re X w L a k) := by
  refine ⟨fun e => ?_, fun e => ?_⟩
  · rcases h with h | h
    · rw [h.2.1]; rfl
    · omega
  · rcases h with h | ⟨h1, h2, h3, h4⟩
    · exact absurd h.1 e
    · have hr := kt_rom_b (a := a) hw hL (show 0 ≤ X ∧ X < L * w by omega)
      refine kt_RM_of (by omega) h3 h4 (fun h5 => by rcases hl with h6 | h6; exact absurd h5 h6.2; omega) ?_
      rcases hs with hs | hs | hs | hs
      · rcases hl with h6 | h6
        · exfalso; omega
        · exact Or.inr (Or.inl ⟨h6.2.1, h6.2.2, by omega⟩)
      · refine Or.inl (fun h5 => ?_)
        rcases kt_al_r (a := a) (n := (k : Int) + 1) hw hL (show 0 ≤ X ∧ X < L * w by omega) (by omega) with h6 | h6
        · exact h6.2 h5
        · omega
      · rw [h2] at hs
        exact Or.inr (Or.inr (by rw [(kt_pth_s h4).1 hs.2]; decide))
      · rw [h2] at hs
        exact Or.inr (Or.inr (by rw [(kt_pth_s h4).2.1 hs.2.1 hs.2.2]; decide))
/-- who has won where nobody needs to move any more -/
def kt_WN (K G C : Prop) (s r : Int) : Prop := (K ∧ r = 1) ∨ (¬ K ∧ G ∧ r = 0) ∨ (¬ K ∧ ¬ G ∧ C ∧ r = -1) ∨ (¬ K ∧ ¬ G ∧ ¬ C ∧ r = 1 - s)
/-- how the play is: B says that the stand came back and that this ends the play -/
def kt_HW (K G C B : Prop) (s r : Int) : Prop := (K ∧ r = 3) ∨ (¬ K ∧ G ∧ r = 2) ∨ (¬ K ∧ ¬ G ∧ ¬ C ∧ r = 3 - s) ∨ (¬ K ∧ ¬ G ∧ C ∧ B ∧ r = 4) ∨ (¬ K ∧ ¬ G ∧ C ∧ ¬ B ∧ r = 1)
theorem kt_HW.eq {K G C B K' G' C' B' : Prop} {s r r' : Int} (h : kt_HW K G C B s r) (h' : kt_HW K' G' C' B' s r') (iK : K ↔ K') (iG : ¬ K → (G ↔ G')) (iC : ¬ K → ¬ G → (C ↔ C')) (iB : ¬ K → ¬ G → C → (B ↔ B')) : r = r' := by
  rcases h with ⟨a, b⟩ | ⟨a, c, b⟩ | ⟨a, c, d, b⟩ | ⟨a, c, d, e, b⟩ | ⟨a, c, d, e, b⟩ <;> rcases h' with ⟨a', b'⟩ | ⟨a', c', b'⟩ | ⟨a', c', d', b'⟩ | ⟨a', c', d', e', b'⟩ | ⟨a', c', d', e', b'⟩ <;> first
    | omega
    | exact absurd (iK.mp a) a'
    | exact absurd (iK.mpr a') a
    | exact absurd ((iG a).mp c) c'
    | exact absurd ((iG a).mpr c') c
    | exact absurd ((iC a c).mp d) d'
    | exact absurd ((iC a c).mpr d') d
    | exact absurd ((iB a c d).mp e) e'
    | exact absurd ((iB a c d).mpr e') e
theorem kt_HW.eq' {K G C B B' : Prop} {s r : Int} (h : kt_HW K G C B s r) (iB : B ↔ B') : kt_HW K G C B' s r := by
  rcases h with a | a | a | a | a
  · exact Or.inl a
  · exact Or.inr (Or.inl a)
  · exact Or.inr (Or.inr (Or.inl a))
  · exact Or.inr (Or.inr (Or.inr (Or.inl ⟨a.1, a.2.1, a.2.2.1, iB.mp a.2.2.2.1, a.2.2.2.2⟩)))
  · exact Or.inr (Or.inr (Or.inr (Or.inr ⟨a.1, a.2.1, a.2.2.1, fun h => a.2.2.2.1 (iB.mpr h), a.2.2.2.2⟩)))
