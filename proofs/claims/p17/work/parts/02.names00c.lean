/-! decode rows: a stretch of a method's bytes is read once, one lemma an opcode -/
def kt_bt (c : ByteArray) (i : Nat) : Option UInt8 := c.data.toList[i]?
theorem kt_bt_rd {c : ByteArray} {i : Nat} {x : UInt8} (h : kt_bt c i = some x) : ∃ hi : i < c.size, c[i] = x := by
  cases c with
  | mk bs =>
    obtain ⟨h1, h2⟩ := List.getElem?_eq_some_iff.mp h
    have h3 : i < bs.size := by
      have e := Array.length_toList (xs := bs)
      have h4 : i < bs.toList.length := h1
      omega
    exact ⟨h3, h2⟩
def kt_sg (c : ByteArray) (a : Nat) (l : List Nat) : Bool := ((c.data.toList.drop a).take l.length).map UInt8.toNat == l
theorem kt_sg_at {c : ByteArray} {a : Nat} {l : List Nat} (h : kt_sg c a l = true) {j n : Nat} (hj : l[j]? = some n) : ∃ x : UInt8, kt_bt c (a + j) = some x ∧ x.toNat = n := by
  have h1 : ((c.data.toList.drop a).take l.length).map UInt8.toNat = l := eq_of_beq h
  have h2 : (((c.data.toList.drop a).take l.length).map UInt8.toNat)[j]? = some n := by rw [h1]; exact hj
  rw [List.getElem?_map] at h2
  obtain ⟨x, hx, e⟩ := Option.map_eq_some_iff.mp h2
  rw [List.getElem?_take] at hx
  split at hx
  · rw [List.getElem?_drop] at hx
    exact ⟨x, hx, e⟩
  · cases hx
theorem kt_dr0 {l t : List Nat} {j x : Nat} (h : l.drop j = x :: t) : l[j]? = some x := by
  have h1 : (l.drop j)[0]? = some x := by rw [h]; rfl
  rw [List.getElem?_drop] at h1
  exact h1
theorem kt_dr1 {l t : List Nat} {j x y : Nat} (h : l.drop j = x :: y :: t) : l[j + 1]? = some y := by
  have h1 : (l.drop j)[1]? = some y := by rw [h]; rfl
  rw [List.getElem?_drop] at h1
  exact h1
theorem kt_dr2 {l t : List Nat} {j x y z : Nat} (h : l.drop j = x :: y :: z :: t) : l[j + 2]? = some z := by
  have h1 : (l.drop j)[2]? = some z := by rw [h]; rfl
  rw [List.getElem?_drop] at h1
  exact h1
/-- a byte that is there is read -/
theorem kt_ru1 {c : ByteArray} {i n : Nat} (h : ∃ x : UInt8, kt_bt c i = some x ∧ x.toNat = n) : (Reader.u1 : Reader DecodeError Nat) c i = .ok (n, i + 1) := by
  obtain ⟨x, hx, rfl⟩ := h
  obtain ⟨hi, h4⟩ := kt_bt_rd hx
  have e : (Reader.u1 : Reader DecodeError Nat) c i = (do if h : i < c.size then do MonadStateOf.set (i + 1); Pure.pure c[i].toNat else MonadExcept.throw (HasTruncated.truncated i) : Reader DecodeError Nat) c i := rfl
  rw [e, dif_pos hi]
  show Except.ok (c[i].toNat, i + 1) = _
  rw [h4]
theorem kt_rbd {α β : Type} {r : Reader DecodeError α} {f : α → Reader DecodeError β} {c : ByteArray} {i j : Nat} {a : α} (h : r c i = .ok (a, j)) : (r >>= f) c i = f a c j := by
  show (do let (a, s) ← r c i; f a c s : Except DecodeError (β × Nat)) = _
  rw [h]
  rfl
theorem kt_rmp {α β : Type} {r : Reader DecodeError α} {g : α → β} {c : ByteArray} {i j : Nat} {a : α} (h : r c i = .ok (a, j)) : (g <$> r) c i = .ok (g a, j) := by
  show (do let (a, s) ← r c i; .ok (g a, s) : Except DecodeError (β × Nat)) = _
  rw [h]
  rfl
theorem kt_ru2 {c : ByteArray} {i m n : Nat} (h : ∃ x : UInt8, kt_bt c i = some x ∧ x.toNat = m) (h2 : ∃ x : UInt8, kt_bt c (i + 1) = some x ∧ x.toNat = n) : (Reader.u2 : Reader DecodeError Nat) c i = .ok (m * 256 + n, i + 2) := by
  delta Reader.u2
  refine (kt_rbd (kt_ru1 h)).trans ?_
  refine (kt_rbd (kt_ru1 h2)).trans ?_
  rfl
theorem kt_rs1 {c : ByteArray} {i n : Nat} (h : ∃ x : UInt8, kt_bt c i = some x ∧ x.toNat = n) : (Reader.s1 : Reader DecodeError Int) c i = .ok (Reader.signed 8 n, i + 1) := kt_rmp (kt_ru1 h)
theorem kt_rs2 {c : ByteArray} {i m n : Nat} (h : ∃ x : UInt8, kt_bt c i = some x ∧ x.toNat = m) (h2 : ∃ x : UInt8, kt_bt c (i + 1) = some x ∧ x.toNat = n) : (Reader.s2 : Reader DecodeError Int) c i = .ok (Reader.signed 16 (m * 256 + n), i + 2) := kt_rmp (kt_ru2 h h2)
theorem kt_rde {c : ByteArray} {pc n : Nat} {i : Instr} (h : Decoder.instr pc c pc = .ok (i, pc + n)) : decode c pc = .ok (i, n) := by
  show (do let (j, s) ← Decoder.instr pc c pc; Pure.pure (j, s - pc) : Except DecodeError (Instr × Nat)) = _
  rw [h]
  show Except.ok (i, pc + n - pc) = _
  rw [Nat.add_sub_cancel_left]

set_option maxRecDepth 16384 in
set_option maxHeartbeats 4000000 in
theorem kt_o100 {c : ByteArray} {a j : Nat} {l t : List Nat} (h : kt_sg c a l = true) (hj : l.drop j = 100 :: t) : decode c (a + j) = .ok (.isub, 1) := by
  refine kt_rde ?_
  delta Decoder.instr
  refine (kt_rbd (kt_ru1 (kt_sg_at h (kt_dr0 hj)))).trans ?_
  rfl

set_option maxRecDepth 16384 in
set_option maxHeartbeats 4000000 in
theorem kt_o104 {c : ByteArray} {a j : Nat} {l t : List Nat} (h : kt_sg c a l = true) (hj : l.drop j = 104 :: t) : decode c (a + j) = .ok (.imul, 1) := by
  refine kt_rde ?_
  delta Decoder.instr
  refine (kt_rbd (kt_ru1 (kt_sg_at h (kt_dr0 hj)))).trans ?_
  rfl

set_option maxRecDepth 16384 in
set_option maxHeartbeats 4000000 in
theorem kt_o105 {c : ByteArray} {a j : Nat} {l t : List Nat} (h : kt_sg c a l = true) (hj : l.drop j = 105 :: t) : decode c (a + j) = .ok (.lmul, 1) := by
  refine kt_rde ?_
  delta Decoder.instr
  refine (kt_rbd (kt_ru1 (kt_sg_at h (kt_dr0 hj)))).trans ?_
  rfl

set_option maxRecDepth 16384 in
set_option maxHeartbeats 4000000 in
theorem kt_o108 {c : ByteArray} {a j : Nat} {l t : List Nat} (h : kt_sg c a l = true) (hj : l.drop j = 108 :: t) : decode c (a + j) = .ok (.idiv, 1) := by
  refine kt_rde ?_
  delta Decoder.instr
  refine (kt_rbd (kt_ru1 (kt_sg_at h (kt_dr0 hj)))).trans ?_
  rfl

set_option maxRecDepth 16384 in
set_option maxHeartbeats 4000000 in
theorem kt_o109 {c : ByteArray} {a j : Nat} {l t : List Nat} (h : kt_sg c a l = true) (hj : l.drop j = 109 :: t) : decode c (a + j) = .ok (.ldiv, 1) := by
  refine kt_rde ?_
  delta Decoder.instr
  refine (kt_rbd (kt_ru1 (kt_sg_at h (kt_dr0 hj)))).trans ?_
  rfl

set_option maxRecDepth 16384 in
set_option maxHeartbeats 4000000 in
theorem kt_o112 {c : ByteArray} {a j : Nat} {l t : List Nat} (h : kt_sg c a l = true) (hj : l.drop j = 112 :: t) : decode c (a + j) = .ok (.irem, 1) := by
  refine kt_rde ?_
  delta Decoder.instr
  refine (kt_rbd (kt_ru1 (kt_sg_at h (kt_dr0 hj)))).trans ?_
  rfl

set_option maxRecDepth 16384 in
set_option maxHeartbeats 4000000 in
theorem kt_o116 {c : ByteArray} {a j : Nat} {l t : List Nat} (h : kt_sg c a l = true) (hj : l.drop j = 116 :: t) : decode c (a + j) = .ok (.ineg, 1) := by
  refine kt_rde ?_
  delta Decoder.instr
  refine (kt_rbd (kt_ru1 (kt_sg_at h (kt_dr0 hj)))).trans ?_
  rfl

set_option maxRecDepth 16384 in
set_option maxHeartbeats 4000000 in
theorem kt_o122 {c : ByteArray} {a j : Nat} {l t : List Nat} (h : kt_sg c a l = true) (hj : l.drop j = 122 :: t) : decode c (a + j) = .ok (.ishr, 1) := by
  refine kt_rde ?_
  delta Decoder.instr
  refine (kt_rbd (kt_ru1 (kt_sg_at h (kt_dr0 hj)))).trans ?_
  rfl

set_option maxRecDepth 16384 in
set_option maxHeartbeats 4000000 in
theorem kt_o126 {c : ByteArray} {a j : Nat} {l t : List Nat} (h : kt_sg c a l = true) (hj : l.drop j = 126 :: t) : decode c (a + j) = .ok (.iand, 1) := by
  refine kt_rde ?_
  delta Decoder.instr
  refine (kt_rbd (kt_ru1 (kt_sg_at h (kt_dr0 hj)))).trans ?_
  rfl

set_option maxRecDepth 16384 in
set_option maxHeartbeats 4000000 in
theorem kt_o132 {c : ByteArray} {a j : Nat} {l t : List Nat} {x y : Nat} {v : Int} (h : kt_sg c a l = true) (hj : l.drop j = 132 :: x :: y :: t) (hv : Reader.signed 8 y = v) : decode c (a + j) = .ok (.iinc x v, 3) := by
  subst hv
  refine kt_rde ?_
  delta Decoder.instr
  refine (kt_rbd (kt_ru1 (kt_sg_at h (kt_dr0 hj)))).trans ?_
  refine (kt_rbd (kt_ru1 (kt_sg_at h (kt_dr1 hj)))).trans ?_
  refine (kt_rbd (kt_rs1 (kt_sg_at h (kt_dr2 hj)))).trans ?_
  rfl

set_option maxRecDepth 16384 in
set_option maxHeartbeats 4000000 in
theorem kt_o133 {c : ByteArray} {a j : Nat} {l t : List Nat} (h : kt_sg c a l = true) (hj : l.drop j = 133 :: t) : decode c (a + j) = .ok (.i2l, 1) := by
  refine kt_rde ?_
  delta Decoder.instr
  refine (kt_rbd (kt_ru1 (kt_sg_at h (kt_dr0 hj)))).trans ?_
  rfl

set_option maxRecDepth 16384 in
set_option maxHeartbeats 4000000 in
theorem kt_o136 {c : ByteArray} {a j : Nat} {l t : List Nat} (h : kt_sg c a l = true) (hj : l.drop j = 136 :: t) : decode c (a + j) = .ok (.l2i, 1) := by
  refine kt_rde ?_
  delta Decoder.instr
  refine (kt_rbd (kt_ru1 (kt_sg_at h (kt_dr0 hj)))).trans ?_
  rfl

set_option maxRecDepth 16384 in
set_option maxHeartbeats 4000000 in
theorem kt_o145 {c : ByteArray} {a j : Nat} {l t : List Nat} (h : kt_sg c a l = true) (hj : l.drop j = 145 :: t) : decode c (a + j) = .ok (.i2b, 1) := by
  refine kt_rde ?_
  delta Decoder.instr
  refine (kt_rbd (kt_ru1 (kt_sg_at h (kt_dr0 hj)))).trans ?_
  rfl

set_option maxRecDepth 16384 in
set_option maxHeartbeats 4000000 in
theorem kt_o148 {c : ByteArray} {a j : Nat} {l t : List Nat} (h : kt_sg c a l = true) (hj : l.drop j = 148 :: t) : decode c (a + j) = .ok (.lcmp, 1) := by
  refine kt_rde ?_
  delta Decoder.instr
  refine (kt_rbd (kt_ru1 (kt_sg_at h (kt_dr0 hj)))).trans ?_
  rfl

set_option maxRecDepth 16384 in
set_option maxHeartbeats 4000000 in
theorem kt_o153 {c : ByteArray} {a j : Nat} {l t : List Nat} {x y : Nat} {v : Int} (h : kt_sg c a l = true) (hj : l.drop j = 153 :: x :: y :: t) (hv : Reader.signed 16 (x * 256 + y) = v) : decode c (a + j) = .ok (.ifCond .eq v, 3) := by
  subst hv
  refine kt_rde ?_
  delta Decoder.instr
  refine (kt_rbd (kt_ru1 (kt_sg_at h (kt_dr0 hj)))).trans ?_
  refine (kt_rbd (kt_rs2 (kt_sg_at h (kt_dr1 hj)) (kt_sg_at h (kt_dr2 hj)))).trans ?_
  rfl

set_option maxRecDepth 16384 in
set_option maxHeartbeats 4000000 in
theorem kt_o154 {c : ByteArray} {a j : Nat} {l t : List Nat} {x y : Nat} {v : Int} (h : kt_sg c a l = true) (hj : l.drop j = 154 :: x :: y :: t) (hv : Reader.signed 16 (x * 256 + y) = v) : decode c (a + j) = .ok (.ifCond .ne v, 3) := by
  subst hv
  refine kt_rde ?_
  delta Decoder.instr
  refine (kt_rbd (kt_ru1 (kt_sg_at h (kt_dr0 hj)))).trans ?_
  refine (kt_rbd (kt_rs2 (kt_sg_at h (kt_dr1 hj)) (kt_sg_at h (kt_dr2 hj)))).trans ?_
  rfl

set_option maxRecDepth 16384 in
set_option maxHeartbeats 4000000 in
theorem kt_o155 {c : ByteArray} {a j : Nat} {l t : List Nat} {x y : Nat} {v : Int} (h : kt_sg c a l = true) (hj : l.drop j = 155 :: x :: y :: t) (hv : Reader.signed 16 (x * 256 + y) = v) : decode c (a + j) = .ok (.ifCond .lt v, 3) := by
  subst hv
  refine kt_rde ?_
  delta Decoder.instr
  refine (kt_rbd (kt_ru1 (kt_sg_at h (kt_dr0 hj)))).trans ?_
  refine (kt_rbd (kt_rs2 (kt_sg_at h (kt_dr1 hj)) (kt_sg_at h (kt_dr2 hj)))).trans ?_
  rfl

set_option maxRecDepth 16384 in
set_option maxHeartbeats 4000000 in
theorem kt_o156 {c : ByteArray} {a j : Nat} {l t : List Nat} {x y : Nat} {v : Int} (h : kt_sg c a l = true) (hj : l.drop j = 156 :: x :: y :: t) (hv : Reader.signed 16 (x * 256 + y) = v) : decode c (a + j) = .ok (.ifCond .ge v, 3) := by
  subst hv
  refine kt_rde ?_
  delta Decoder.instr
  refine (kt_rbd (kt_ru1 (kt_sg_at h (kt_dr0 hj)))).trans ?_
  refine (kt_rbd (kt_rs2 (kt_sg_at h (kt_dr1 hj)) (kt_sg_at h (kt_dr2 hj)))).trans ?_
  rfl

set_option maxRecDepth 16384 in
set_option maxHeartbeats 4000000 in
theorem kt_o157 {c : ByteArray} {a j : Nat} {l t : List Nat} {x y : Nat} {v : Int} (h : kt_sg c a l = true) (hj : l.drop j = 157 :: x :: y :: t) (hv : Reader.signed 16 (x * 256 + y) = v) : decode c (a + j) = .ok (.ifCond .gt v, 3) := by
  subst hv
  refine kt_rde ?_
  delta Decoder.instr
  refine (kt_rbd (kt_ru1 (kt_sg_at h (kt_dr0 hj)))).trans ?_
  refine (kt_rbd (kt_rs2 (kt_sg_at h (kt_dr1 hj)) (kt_sg_at h (kt_dr2 hj)))).trans ?_
  rfl

set_option maxRecDepth 16384 in
set_option maxHeartbeats 4000000 in
theorem kt_o158 {c : ByteArray} {a j : Nat} {l t : List Nat} {x y : Nat} {v : Int} (h : kt_sg c a l = true) (hj : l.drop j = 158 :: x :: y :: t) (hv : Reader.signed 16 (x * 256 + y) = v) : decode c (a + j) = .ok (.ifCond .le v, 3) := by
  subst hv
  refine kt_rde ?_
  delta Decoder.instr
  refine (kt_rbd (kt_ru1 (kt_sg_at h (kt_dr0 hj)))).trans ?_
  refine (kt_rbd (kt_rs2 (kt_sg_at h (kt_dr1 hj)) (kt_sg_at h (kt_dr2 hj)))).trans ?_
  rfl

set_option maxRecDepth 16384 in
set_option maxHeartbeats 4000000 in
theorem kt_o159 {c : ByteArray} {a j : Nat} {l t : List Nat} {x y : Nat} {v : Int} (h : kt_sg c a l = true) (hj : l.drop j = 159 :: x :: y :: t) (hv : Reader.signed 16 (x * 256 + y) = v) : decode c (a + j) = .ok (.if_icmp .eq v, 3) := by
  subst hv
  refine kt_rde ?_
  delta Decoder.instr
  refine (kt_rbd (kt_ru1 (kt_sg_at h (kt_dr0 hj)))).trans ?_
  refine (kt_rbd (kt_rs2 (kt_sg_at h (kt_dr1 hj)) (kt_sg_at h (kt_dr2 hj)))).trans ?_
  rfl

set_option maxRecDepth 16384 in
set_option maxHeartbeats 4000000 in
theorem kt_o16 {c : ByteArray} {a j : Nat} {l t : List Nat} {x : Nat} {v : Int} (h : kt_sg c a l = true) (hj : l.drop j = 16 :: x :: t) (hv : Reader.signed 8 x = v) : decode c (a + j) = .ok (.bipush v, 2) := by
  subst hv
  refine kt_rde ?_
  delta Decoder.instr
  refine (kt_rbd (kt_ru1 (kt_sg_at h (kt_dr0 hj)))).trans ?_
  refine (kt_rbd (kt_rs1 (kt_sg_at h (kt_dr1 hj)))).trans ?_
  rfl

set_option maxRecDepth 16384 in
set_option maxHeartbeats 4000000 in
theorem kt_o160 {c : ByteArray} {a j : Nat} {l t : List Nat} {x y : Nat} {v : Int} (h : kt_sg c a l = true) (hj : l.drop j = 160 :: x :: y :: t) (hv : Reader.signed 16 (x * 256 + y) = v) : decode c (a + j) = .ok (.if_icmp .ne v, 3) := by
  subst hv
  refine kt_rde ?_
  delta Decoder.instr
  refine (kt_rbd (kt_ru1 (kt_sg_at h (kt_dr0 hj)))).trans ?_
  refine (kt_rbd (kt_rs2 (kt_sg_at h (kt_dr1 hj)) (kt_sg_at h (kt_dr2 hj)))).trans ?_
  rfl

set_option maxRecDepth 16384 in
set_option maxHeartbeats 4000000 in
theorem kt_o161 {c : ByteArray} {a j : Nat} {l t : List Nat} {x y : Nat} {v : Int} (h : kt_sg c a l = true) (hj : l.drop j = 161 :: x :: y :: t) (hv : Reader.signed 16 (x * 256 + y) = v) : decode c (a + j) = .ok (.if_icmp .lt v, 3) := by
  subst hv
  refine kt_rde ?_
  delta Decoder.instr
  refine (kt_rbd (kt_ru1 (kt_sg_at h (kt_dr0 hj)))).trans ?_
  refine (kt_rbd (kt_rs2 (kt_sg_at h (kt_dr1 hj)) (kt_sg_at h (kt_dr2 hj)))).trans ?_
  rfl

set_option maxRecDepth 16384 in
set_option maxHeartbeats 4000000 in
theorem kt_o162 {c : ByteArray} {a j : Nat} {l t : List Nat} {x y : Nat} {v : Int} (h : kt_sg c a l = true) (hj : l.drop j = 162 :: x :: y :: t) (hv : Reader.signed 16 (x * 256 + y) = v) : decode c (a + j) = .ok (.if_icmp .ge v, 3) := by
  subst hv
  refine kt_rde ?_
  delta Decoder.instr
  refine (kt_rbd (kt_ru1 (kt_sg_at h (kt_dr0 hj)))).trans ?_
  refine (kt_rbd (kt_rs2 (kt_sg_at h (kt_dr1 hj)) (kt_sg_at h (kt_dr2 hj)))).trans ?_
  rfl

set_option maxRecDepth 16384 in
set_option maxHeartbeats 4000000 in
theorem kt_o163 {c : ByteArray} {a j : Nat} {l t : List Nat} {x y : Nat} {v : Int} (h : kt_sg c a l = true) (hj : l.drop j = 163 :: x :: y :: t) (hv : Reader.signed 16 (x * 256 + y) = v) : decode c (a + j) = .ok (.if_icmp .gt v, 3) := by
  subst hv
  refine kt_rde ?_
  delta Decoder.instr
  refine (kt_rbd (kt_ru1 (kt_sg_at h (kt_dr0 hj)))).trans ?_
  refine (kt_rbd (kt_rs2 (kt_sg_at h (kt_dr1 hj)) (kt_sg_at h (kt_dr2 hj)))).trans ?_
  rfl

set_option maxRecDepth 16384 in
set_option maxHeartbeats 4000000 in
theorem kt_o164 {c : ByteArray} {a j : Nat} {l t : List Nat} {x y : Nat} {v : Int} (h : kt_sg c a l = true) (hj : l.drop j = 164 :: x :: y :: t) (hv : Reader.signed 16 (x * 256 + y) = v) : decode c (a + j) = .ok (.if_icmp .le v, 3) := by
  subst hv
  refine kt_rde ?_
  delta Decoder.instr
  refine (kt_rbd (kt_ru1 (kt_sg_at h (kt_dr0 hj)))).trans ?_
  refine (kt_rbd (kt_rs2 (kt_sg_at h (kt_dr1 hj)) (kt_sg_at h (kt_dr2 hj)))).trans ?_
  rfl

set_option maxRecDepth 16384 in
set_option maxHeartbeats 4000000 in
theorem kt_o167 {c : ByteArray} {a j : Nat} {l t : List Nat} {x y : Nat} {v : Int} (h : kt_sg c a l = true) (hj : l.drop j = 167 :: x :: y :: t) (hv : Reader.signed 16 (x * 256 + y) = v) : decode c (a + j) = .ok (.goto v, 3) := by
  subst hv
  refine kt_rde ?_
  delta Decoder.instr
  refine (kt_rbd (kt_ru1 (kt_sg_at h (kt_dr0 hj)))).trans ?_
  refine (kt_rbd (kt_rs2 (kt_sg_at h (kt_dr1 hj)) (kt_sg_at h (kt_dr2 hj)))).trans ?_
  rfl

set_option maxRecDepth 16384 in
set_option maxHeartbeats 4000000 in
theorem kt_o17 {c : ByteArray} {a j : Nat} {l t : List Nat} {x y : Nat} {v : Int} (h : kt_sg c a l = true) (hj : l.drop j = 17 :: x :: y :: t) (hv : Reader.signed 16 (x * 256 + y) = v) : decode c (a + j) = .ok (.sipush v, 3) := by
  subst hv
  refine kt_rde ?_
  delta Decoder.instr
  refine (kt_rbd (kt_ru1 (kt_sg_at h (kt_dr0 hj)))).trans ?_
  refine (kt_rbd (kt_rs2 (kt_sg_at h (kt_dr1 hj)) (kt_sg_at h (kt_dr2 hj)))).trans ?_
  rfl

set_option maxRecDepth 16384 in
set_option maxHeartbeats 4000000 in
theorem kt_o172 {c : ByteArray} {a j : Nat} {l t : List Nat} (h : kt_sg c a l = true) (hj : l.drop j = 172 :: t) : decode c (a + j) = .ok (.ireturn, 1) := by
  refine kt_rde ?_
  delta Decoder.instr
  refine (kt_rbd (kt_ru1 (kt_sg_at h (kt_dr0 hj)))).trans ?_
  rfl

set_option maxRecDepth 16384 in
set_option maxHeartbeats 4000000 in
theorem kt_o173 {c : ByteArray} {a j : Nat} {l t : List Nat} (h : kt_sg c a l = true) (hj : l.drop j = 173 :: t) : decode c (a + j) = .ok (.lreturn, 1) := by
  refine kt_rde ?_
  delta Decoder.instr
  refine (kt_rbd (kt_ru1 (kt_sg_at h (kt_dr0 hj)))).trans ?_
  rfl

set_option maxRecDepth 16384 in
set_option maxHeartbeats 4000000 in
theorem kt_o177 {c : ByteArray} {a j : Nat} {l t : List Nat} (h : kt_sg c a l = true) (hj : l.drop j = 177 :: t) : decode c (a + j) = .ok (.return_, 1) := by
  refine kt_rde ?_
  delta Decoder.instr
  refine (kt_rbd (kt_ru1 (kt_sg_at h (kt_dr0 hj)))).trans ?_
  rfl

set_option maxRecDepth 16384 in
set_option maxHeartbeats 4000000 in
theorem kt_o18 {c : ByteArray} {a j : Nat} {l t : List Nat} {v : Nat} (h : kt_sg c a l = true) (hj : l.drop j = 18 :: v :: t) : decode c (a + j) = .ok (.ldc v, 2) := by
  refine kt_rde ?_
  delta Decoder.instr
  refine (kt_rbd (kt_ru1 (kt_sg_at h (kt_dr0 hj)))).trans ?_
  refine (kt_rbd (kt_ru1 (kt_sg_at h (kt_dr1 hj)))).trans ?_
  rfl

set_option maxRecDepth 16384 in
set_option maxHeartbeats 4000000 in
theorem kt_o180 {c : ByteArray} {a j : Nat} {l t : List Nat} {x y v : Nat} (h : kt_sg c a l = true) (hj : l.drop j = 180 :: x :: y :: t) (hv : x * 256 + y = v) : decode c (a + j) = .ok (.getfield v, 3) := by
  subst hv
  refine kt_rde ?_
  delta Decoder.instr
  refine (kt_rbd (kt_ru1 (kt_sg_at h (kt_dr0 hj)))).trans ?_
  refine (kt_rbd (kt_ru2 (kt_sg_at h (kt_dr1 hj)) (kt_sg_at h (kt_dr2 hj)))).trans ?_
  rfl

set_option maxRecDepth 16384 in
set_option maxHeartbeats 4000000 in
theorem kt_o181 {c : ByteArray} {a j : Nat} {l t : List Nat} {x y v : Nat} (h : kt_sg c a l = true) (hj : l.drop j = 181 :: x :: y :: t) (hv : x * 256 + y = v) : decode c (a + j) = .ok (.putfield v, 3) := by
  subst hv
  refine kt_rde ?_
  delta Decoder.instr
  refine (kt_rbd (kt_ru1 (kt_sg_at h (kt_dr0 hj)))).trans ?_
  refine (kt_rbd (kt_ru2 (kt_sg_at h (kt_dr1 hj)) (kt_sg_at h (kt_dr2 hj)))).trans ?_
  rfl

set_option maxRecDepth 16384 in
set_option maxHeartbeats 4000000 in
theorem kt_o182 {c : ByteArray} {a j : Nat} {l t : List Nat} {x y v : Nat} (h : kt_sg c a l = true) (hj : l.drop j = 182 :: x :: y :: t) (hv : x * 256 + y = v) : decode c (a + j) = .ok (.invokevirtual v, 3) := by
  subst hv
  refine kt_rde ?_
  delta Decoder.instr
  refine (kt_rbd (kt_ru1 (kt_sg_at h (kt_dr0 hj)))).trans ?_
  refine (kt_rbd (kt_ru2 (kt_sg_at h (kt_dr1 hj)) (kt_sg_at h (kt_dr2 hj)))).trans ?_
  rfl

set_option maxRecDepth 16384 in
set_option maxHeartbeats 4000000 in
theorem kt_o183 {c : ByteArray} {a j : Nat} {l t : List Nat} {x y v : Nat} (h : kt_sg c a l = true) (hj : l.drop j = 183 :: x :: y :: t) (hv : x * 256 + y = v) : decode c (a + j) = .ok (.invokespecial v, 3) := by
  subst hv
  refine kt_rde ?_
  delta Decoder.instr
  refine (kt_rbd (kt_ru1 (kt_sg_at h (kt_dr0 hj)))).trans ?_
  refine (kt_rbd (kt_ru2 (kt_sg_at h (kt_dr1 hj)) (kt_sg_at h (kt_dr2 hj)))).trans ?_
  rfl

set_option maxRecDepth 16384 in
set_option maxHeartbeats 4000000 in
theorem kt_o184 {c : ByteArray} {a j : Nat} {l t : List Nat} {x y v : Nat} (h : kt_sg c a l = true) (hj : l.drop j = 184 :: x :: y :: t) (hv : x * 256 + y = v) : decode c (a + j) = .ok (.invokestatic v, 3) := by
  subst hv
  refine kt_rde ?_
  delta Decoder.instr
  refine (kt_rbd (kt_ru1 (kt_sg_at h (kt_dr0 hj)))).trans ?_
  refine (kt_rbd (kt_ru2 (kt_sg_at h (kt_dr1 hj)) (kt_sg_at h (kt_dr2 hj)))).trans ?_
  rfl

set_option maxRecDepth 16384 in
set_option maxHeartbeats 4000000 in
theorem kt_o187 {c : ByteArray} {a j : Nat} {l t : List Nat} {x y v : Nat} (h : kt_sg c a l = true) (hj : l.drop j = 187 :: x :: y :: t) (hv : x * 256 + y = v) : decode c (a + j) = .ok (.new v, 3) := by
  subst hv
  refine kt_rde ?_
  delta Decoder.instr
  refine (kt_rbd (kt_ru1 (kt_sg_at h (kt_dr0 hj)))).trans ?_
  refine (kt_rbd (kt_ru2 (kt_sg_at h (kt_dr1 hj)) (kt_sg_at h (kt_dr2 hj)))).trans ?_
  rfl

set_option maxRecDepth 16384 in
set_option maxHeartbeats 4000000 in
theorem kt_o188_10 {c : ByteArray} {a j : Nat} {l t : List Nat} (h : kt_sg c a l = true) (hj : l.drop j = 188 :: 10 :: t) : decode c (a + j) = .ok (.newarray .int, 2) := by
  refine kt_rde ?_
  delta Decoder.instr
  refine (kt_rbd (kt_ru1 (kt_sg_at h (kt_dr0 hj)))).trans ?_
  show Decoder.newarray (a + j) c (a + j + 1) = _
  delta Decoder.newarray
  refine (kt_rbd (kt_ru1 (kt_sg_at h (kt_dr1 hj)))).trans ?_
  rfl

set_option maxRecDepth 16384 in
set_option maxHeartbeats 4000000 in
theorem kt_o188_4 {c : ByteArray} {a j : Nat} {l t : List Nat} (h : kt_sg c a l = true) (hj : l.drop j = 188 :: 4 :: t) : decode c (a + j) = .ok (.newarray .boolean, 2) := by
  refine kt_rde ?_
  delta Decoder.instr
  refine (kt_rbd (kt_ru1 (kt_sg_at h (kt_dr0 hj)))).trans ?_
  show Decoder.newarray (a + j) c (a + j + 1) = _
  delta Decoder.newarray
  refine (kt_rbd (kt_ru1 (kt_sg_at h (kt_dr1 hj)))).trans ?_
  rfl

set_option maxRecDepth 16384 in
set_option maxHeartbeats 4000000 in
theorem kt_o188_8 {c : ByteArray} {a j : Nat} {l t : List Nat} (h : kt_sg c a l = true) (hj : l.drop j = 188 :: 8 :: t) : decode c (a + j) = .ok (.newarray .byte, 2) := by
  refine kt_rde ?_
  delta Decoder.instr
  refine (kt_rbd (kt_ru1 (kt_sg_at h (kt_dr0 hj)))).trans ?_
  show Decoder.newarray (a + j) c (a + j + 1) = _
  delta Decoder.newarray
  refine (kt_rbd (kt_ru1 (kt_sg_at h (kt_dr1 hj)))).trans ?_
  rfl

set_option maxRecDepth 16384 in
set_option maxHeartbeats 4000000 in
theorem kt_o190 {c : ByteArray} {a j : Nat} {l t : List Nat} (h : kt_sg c a l = true) (hj : l.drop j = 190 :: t) : decode c (a + j) = .ok (.arraylength, 1) := by
  refine kt_rde ?_
  delta Decoder.instr
  refine (kt_rbd (kt_ru1 (kt_sg_at h (kt_dr0 hj)))).trans ?_
  rfl

set_option maxRecDepth 16384 in
set_option maxHeartbeats 4000000 in
theorem kt_o2 {c : ByteArray} {a j : Nat} {l t : List Nat} (h : kt_sg c a l = true) (hj : l.drop j = 2 :: t) : decode c (a + j) = .ok (.iconst (-1), 1) := by
  refine kt_rde ?_
  delta Decoder.instr
  refine (kt_rbd (kt_ru1 (kt_sg_at h (kt_dr0 hj)))).trans ?_
  rfl

set_option maxRecDepth 16384 in
set_option maxHeartbeats 4000000 in
theorem kt_o20 {c : ByteArray} {a j : Nat} {l t : List Nat} {x y v : Nat} (h : kt_sg c a l = true) (hj : l.drop j = 20 :: x :: y :: t) (hv : x * 256 + y = v) : decode c (a + j) = .ok (.ldc2_w v, 3) := by
  subst hv
  refine kt_rde ?_
  delta Decoder.instr
  refine (kt_rbd (kt_ru1 (kt_sg_at h (kt_dr0 hj)))).trans ?_
  refine (kt_rbd (kt_ru2 (kt_sg_at h (kt_dr1 hj)) (kt_sg_at h (kt_dr2 hj)))).trans ?_
  rfl

set_option maxRecDepth 16384 in
set_option maxHeartbeats 4000000 in
theorem kt_o21 {c : ByteArray} {a j : Nat} {l t : List Nat} {v : Nat} (h : kt_sg c a l = true) (hj : l.drop j = 21 :: v :: t) : decode c (a + j) = .ok (.iload v, 2) := by
  refine kt_rde ?_
  delta Decoder.instr
  refine (kt_rbd (kt_ru1 (kt_sg_at h (kt_dr0 hj)))).trans ?_
  refine (kt_rbd (kt_ru1 (kt_sg_at h (kt_dr1 hj)))).trans ?_
  rfl

set_option maxRecDepth 16384 in
set_option maxHeartbeats 4000000 in
theorem kt_o25 {c : ByteArray} {a j : Nat} {l t : List Nat} {v : Nat} (h : kt_sg c a l = true) (hj : l.drop j = 25 :: v :: t) : decode c (a + j) = .ok (.aload v, 2) := by
  refine kt_rde ?_
  delta Decoder.instr
  refine (kt_rbd (kt_ru1 (kt_sg_at h (kt_dr0 hj)))).trans ?_
  refine (kt_rbd (kt_ru1 (kt_sg_at h (kt_dr1 hj)))).trans ?_
  rfl

set_option maxRecDepth 16384 in
set_option maxHeartbeats 4000000 in
theorem kt_o26 {c : ByteArray} {a j : Nat} {l t : List Nat} (h : kt_sg c a l = true) (hj : l.drop j = 26 :: t) : decode c (a + j) = .ok (.iload_n 0, 1) := by
  refine kt_rde ?_
  delta Decoder.instr
  refine (kt_rbd (kt_ru1 (kt_sg_at h (kt_dr0 hj)))).trans ?_
  rfl

set_option maxRecDepth 16384 in
set_option maxHeartbeats 4000000 in
theorem kt_o27 {c : ByteArray} {a j : Nat} {l t : List Nat} (h : kt_sg c a l = true) (hj : l.drop j = 27 :: t) : decode c (a + j) = .ok (.iload_n 1, 1) := by
  refine kt_rde ?_
  delta Decoder.instr
  refine (kt_rbd (kt_ru1 (kt_sg_at h (kt_dr0 hj)))).trans ?_
  rfl

set_option maxRecDepth 16384 in
set_option maxHeartbeats 4000000 in
theorem kt_o28 {c : ByteArray} {a j : Nat} {l t : List Nat} (h : kt_sg c a l = true) (hj : l.drop j = 28 :: t) : decode c (a + j) = .ok (.iload_n 2, 1) := by
  refine kt_rde ?_
  delta Decoder.instr
  refine (kt_rbd (kt_ru1 (kt_sg_at h (kt_dr0 hj)))).trans ?_
  rfl

set_option maxRecDepth 16384 in
set_option maxHeartbeats 4000000 in
theorem kt_o29 {c : ByteArray} {a j : Nat} {l t : List Nat} (h : kt_sg c a l = true) (hj : l.drop j = 29 :: t) : decode c (a + j) = .ok (.iload_n 3, 1) := by
  refine kt_rde ?_
  delta Decoder.instr
  refine (kt_rbd (kt_ru1 (kt_sg_at h (kt_dr0 hj)))).trans ?_
  rfl

set_option maxRecDepth 16384 in
set_option maxHeartbeats 4000000 in
theorem kt_o3 {c : ByteArray} {a j : Nat} {l t : List Nat} (h : kt_sg c a l = true) (hj : l.drop j = 3 :: t) : decode c (a + j) = .ok (.iconst 0, 1) := by
  refine kt_rde ?_
  delta Decoder.instr
  refine (kt_rbd (kt_ru1 (kt_sg_at h (kt_dr0 hj)))).trans ?_
  rfl

set_option maxRecDepth 16384 in
set_option maxHeartbeats 4000000 in
theorem kt_o31 {c : ByteArray} {a j : Nat} {l t : List Nat} (h : kt_sg c a l = true) (hj : l.drop j = 31 :: t) : decode c (a + j) = .ok (.lload_n 1, 1) := by
  refine kt_rde ?_
  delta Decoder.instr
  refine (kt_rbd (kt_ru1 (kt_sg_at h (kt_dr0 hj)))).trans ?_
  rfl

set_option maxRecDepth 16384 in
set_option maxHeartbeats 4000000 in
theorem kt_o4 {c : ByteArray} {a j : Nat} {l t : List Nat} (h : kt_sg c a l = true) (hj : l.drop j = 4 :: t) : decode c (a + j) = .ok (.iconst 1, 1) := by
  refine kt_rde ?_
  delta Decoder.instr
  refine (kt_rbd (kt_ru1 (kt_sg_at h (kt_dr0 hj)))).trans ?_
  rfl

set_option maxRecDepth 16384 in
set_option maxHeartbeats 4000000 in
theorem kt_o42 {c : ByteArray} {a j : Nat} {l t : List Nat} (h : kt_sg c a l = true) (hj : l.drop j = 42 :: t) : decode c (a + j) = .ok (.aload_n 0, 1) := by
  refine kt_rde ?_
  delta Decoder.instr
  refine (kt_rbd (kt_ru1 (kt_sg_at h (kt_dr0 hj)))).trans ?_
  rfl

set_option maxRecDepth 16384 in
set_option maxHeartbeats 4000000 in
theorem kt_o43 {c : ByteArray} {a j : Nat} {l t : List Nat} (h : kt_sg c a l = true) (hj : l.drop j = 43 :: t) : decode c (a + j) = .ok (.aload_n 1, 1) := by
  refine kt_rde ?_
  delta Decoder.instr
  refine (kt_rbd (kt_ru1 (kt_sg_at h (kt_dr0 hj)))).trans ?_
  rfl

set_option maxRecDepth 16384 in
set_option maxHeartbeats 4000000 in
theorem kt_o44 {c : ByteArray} {a j : Nat} {l t : List Nat} (h : kt_sg c a l = true) (hj : l.drop j = 44 :: t) : decode c (a + j) = .ok (.aload_n 2, 1) := by
  refine kt_rde ?_
  delta Decoder.instr
  refine (kt_rbd (kt_ru1 (kt_sg_at h (kt_dr0 hj)))).trans ?_
  rfl

set_option maxRecDepth 16384 in
set_option maxHeartbeats 4000000 in
theorem kt_o46 {c : ByteArray} {a j : Nat} {l t : List Nat} (h : kt_sg c a l = true) (hj : l.drop j = 46 :: t) : decode c (a + j) = .ok (.iaload, 1) := by
  refine kt_rde ?_
  delta Decoder.instr
  refine (kt_rbd (kt_ru1 (kt_sg_at h (kt_dr0 hj)))).trans ?_
  rfl

set_option maxRecDepth 16384 in
set_option maxHeartbeats 4000000 in
theorem kt_o5 {c : ByteArray} {a j : Nat} {l t : List Nat} (h : kt_sg c a l = true) (hj : l.drop j = 5 :: t) : decode c (a + j) = .ok (.iconst 2, 1) := by
  refine kt_rde ?_
  delta Decoder.instr
  refine (kt_rbd (kt_ru1 (kt_sg_at h (kt_dr0 hj)))).trans ?_
  rfl

set_option maxRecDepth 16384 in
set_option maxHeartbeats 4000000 in
theorem kt_o51 {c : ByteArray} {a j : Nat} {l t : List Nat} (h : kt_sg c a l = true) (hj : l.drop j = 51 :: t) : decode c (a + j) = .ok (.baload, 1) := by
  refine kt_rde ?_
  delta Decoder.instr
  refine (kt_rbd (kt_ru1 (kt_sg_at h (kt_dr0 hj)))).trans ?_
  rfl

set_option maxRecDepth 16384 in
set_option maxHeartbeats 4000000 in
theorem kt_o54 {c : ByteArray} {a j : Nat} {l t : List Nat} {v : Nat} (h : kt_sg c a l = true) (hj : l.drop j = 54 :: v :: t) : decode c (a + j) = .ok (.istore v, 2) := by
  refine kt_rde ?_
  delta Decoder.instr
  refine (kt_rbd (kt_ru1 (kt_sg_at h (kt_dr0 hj)))).trans ?_
  refine (kt_rbd (kt_ru1 (kt_sg_at h (kt_dr1 hj)))).trans ?_
  rfl

set_option maxRecDepth 16384 in
set_option maxHeartbeats 4000000 in
theorem kt_o6 {c : ByteArray} {a j : Nat} {l t : List Nat} (h : kt_sg c a l = true) (hj : l.drop j = 6 :: t) : decode c (a + j) = .ok (.iconst 3, 1) := by
  refine kt_rde ?_
  delta Decoder.instr
  refine (kt_rbd (kt_ru1 (kt_sg_at h (kt_dr0 hj)))).trans ?_
  rfl

set_option maxRecDepth 16384 in
set_option maxHeartbeats 4000000 in
theorem kt_o60 {c : ByteArray} {a j : Nat} {l t : List Nat} (h : kt_sg c a l = true) (hj : l.drop j = 60 :: t) : decode c (a + j) = .ok (.istore_n 1, 1) := by
  refine kt_rde ?_
  delta Decoder.instr
  refine (kt_rbd (kt_ru1 (kt_sg_at h (kt_dr0 hj)))).trans ?_
  rfl

set_option maxRecDepth 16384 in
set_option maxHeartbeats 4000000 in
theorem kt_o61 {c : ByteArray} {a j : Nat} {l t : List Nat} (h : kt_sg c a l = true) (hj : l.drop j = 61 :: t) : decode c (a + j) = .ok (.istore_n 2, 1) := by
  refine kt_rde ?_
  delta Decoder.instr
  refine (kt_rbd (kt_ru1 (kt_sg_at h (kt_dr0 hj)))).trans ?_
  rfl

set_option maxRecDepth 16384 in
set_option maxHeartbeats 4000000 in
theorem kt_o62 {c : ByteArray} {a j : Nat} {l t : List Nat} (h : kt_sg c a l = true) (hj : l.drop j = 62 :: t) : decode c (a + j) = .ok (.istore_n 3, 1) := by
  refine kt_rde ?_
  delta Decoder.instr
  refine (kt_rbd (kt_ru1 (kt_sg_at h (kt_dr0 hj)))).trans ?_
  rfl

set_option maxRecDepth 16384 in
set_option maxHeartbeats 4000000 in
theorem kt_o64 {c : ByteArray} {a j : Nat} {l t : List Nat} (h : kt_sg c a l = true) (hj : l.drop j = 64 :: t) : decode c (a + j) = .ok (.lstore_n 1, 1) := by
  refine kt_rde ?_
  delta Decoder.instr
  refine (kt_rbd (kt_ru1 (kt_sg_at h (kt_dr0 hj)))).trans ?_
  rfl

set_option maxRecDepth 16384 in
set_option maxHeartbeats 4000000 in
theorem kt_o7 {c : ByteArray} {a j : Nat} {l t : List Nat} (h : kt_sg c a l = true) (hj : l.drop j = 7 :: t) : decode c (a + j) = .ok (.iconst 4, 1) := by
  refine kt_rde ?_
  delta Decoder.instr
  refine (kt_rbd (kt_ru1 (kt_sg_at h (kt_dr0 hj)))).trans ?_
  rfl

set_option maxRecDepth 16384 in
set_option maxHeartbeats 4000000 in
theorem kt_o76 {c : ByteArray} {a j : Nat} {l t : List Nat} (h : kt_sg c a l = true) (hj : l.drop j = 76 :: t) : decode c (a + j) = .ok (.astore_n 1, 1) := by
  refine kt_rde ?_
  delta Decoder.instr
  refine (kt_rbd (kt_ru1 (kt_sg_at h (kt_dr0 hj)))).trans ?_
  rfl

set_option maxRecDepth 16384 in
set_option maxHeartbeats 4000000 in
theorem kt_o77 {c : ByteArray} {a j : Nat} {l t : List Nat} (h : kt_sg c a l = true) (hj : l.drop j = 77 :: t) : decode c (a + j) = .ok (.astore_n 2, 1) := by
  refine kt_rde ?_
  delta Decoder.instr
  refine (kt_rbd (kt_ru1 (kt_sg_at h (kt_dr0 hj)))).trans ?_
  rfl

set_option maxRecDepth 16384 in
set_option maxHeartbeats 4000000 in
theorem kt_o79 {c : ByteArray} {a j : Nat} {l t : List Nat} (h : kt_sg c a l = true) (hj : l.drop j = 79 :: t) : decode c (a + j) = .ok (.iastore, 1) := by
  refine kt_rde ?_
  delta Decoder.instr
  refine (kt_rbd (kt_ru1 (kt_sg_at h (kt_dr0 hj)))).trans ?_
  rfl

set_option maxRecDepth 16384 in
set_option maxHeartbeats 4000000 in
theorem kt_o8 {c : ByteArray} {a j : Nat} {l t : List Nat} (h : kt_sg c a l = true) (hj : l.drop j = 8 :: t) : decode c (a + j) = .ok (.iconst 5, 1) := by
  refine kt_rde ?_
  delta Decoder.instr
  refine (kt_rbd (kt_ru1 (kt_sg_at h (kt_dr0 hj)))).trans ?_
  rfl

set_option maxRecDepth 16384 in
set_option maxHeartbeats 4000000 in
theorem kt_o84 {c : ByteArray} {a j : Nat} {l t : List Nat} (h : kt_sg c a l = true) (hj : l.drop j = 84 :: t) : decode c (a + j) = .ok (.bastore, 1) := by
  refine kt_rde ?_
  delta Decoder.instr
  refine (kt_rbd (kt_ru1 (kt_sg_at h (kt_dr0 hj)))).trans ?_
  rfl

set_option maxRecDepth 16384 in
set_option maxHeartbeats 4000000 in
theorem kt_o87 {c : ByteArray} {a j : Nat} {l t : List Nat} (h : kt_sg c a l = true) (hj : l.drop j = 87 :: t) : decode c (a + j) = .ok (.pop, 1) := by
  refine kt_rde ?_
  delta Decoder.instr
  refine (kt_rbd (kt_ru1 (kt_sg_at h (kt_dr0 hj)))).trans ?_
  rfl

set_option maxRecDepth 16384 in
set_option maxHeartbeats 4000000 in
theorem kt_o89 {c : ByteArray} {a j : Nat} {l t : List Nat} (h : kt_sg c a l = true) (hj : l.drop j = 89 :: t) : decode c (a + j) = .ok (.dup, 1) := by
  refine kt_rde ?_
  delta Decoder.instr
  refine (kt_rbd (kt_ru1 (kt_sg_at h (kt_dr0 hj)))).trans ?_
  rfl

set_option maxRecDepth 16384 in
set_option maxHeartbeats 4000000 in
theorem kt_o92 {c : ByteArray} {a j : Nat} {l t : List Nat} (h : kt_sg c a l = true) (hj : l.drop j = 92 :: t) : decode c (a + j) = .ok (.dup2, 1) := by
  refine kt_rde ?_
  delta Decoder.instr
  refine (kt_rbd (kt_ru1 (kt_sg_at h (kt_dr0 hj)))).trans ?_
  rfl

set_option maxRecDepth 16384 in
set_option maxHeartbeats 4000000 in
theorem kt_o96 {c : ByteArray} {a j : Nat} {l t : List Nat} (h : kt_sg c a l = true) (hj : l.drop j = 96 :: t) : decode c (a + j) = .ok (.iadd, 1) := by
  refine kt_rde ?_
  delta Decoder.instr
  refine (kt_rbd (kt_ru1 (kt_sg_at h (kt_dr0 hj)))).trans ?_
  rfl

