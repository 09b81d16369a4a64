/-! ===== texts: tokens, once for both ===== -/
theorem lw_or {x c : Int} (hx : 0 ≤ x ∧ x < 281474976710656) (hc : 0 ≤ c ∧ c < 256) : ck_Lor (ck_Lshl x 8) c = x * 256 + c := by
  obtain ⟨n, rfl⟩ := Int.eq_ofNat_of_zero_le hx.1
  obtain ⟨m, rfl⟩ := Int.eq_ofNat_of_zero_le hc.1
  have hn : n < 281474976710656 := by omega
  have hm : m < 256 := by omega
  unfold ck_Lor ck_Lshl
  rw [Int64.ofInt_toInt]
  have e : (Int64.ofInt (n : Int) <<< ((Int32.ofInt 8).toInt64 &&& 63) ||| Int64.ofInt (m : Int)) = Int64.ofNat (n * 256 + m) := Int64.toBitVec_inj.mp (by
    rw [Int64.toBitVec_or, Int64.toBitVec_shiftLeft, BitVec.shiftLeft_eq', show (((Int32.ofInt 8).toInt64 &&& 63).toBitVec.smod 64).toNat = 8 by decide]
    show BitVec.ofNat 64 n <<< 8 ||| BitVec.ofNat 64 m = BitVec.ofNat 64 (n * 256 + m)
    apply BitVec.eq_of_toNat_eq
    have o := Nat.shiftLeft_add_eq_or_of_lt (show m < 2 ^ 8 by omega) n
    rw [Nat.shiftLeft_eq] at o
    rw [BitVec.toNat_or, BitVec.toNat_shiftLeft, BitVec.toNat_ofNat, BitVec.toNat_ofNat, BitVec.toNat_ofNat, Nat.mod_eq_of_lt (show n < 2 ^ 64 by omega), Nat.mod_eq_of_lt (show m < 2 ^ 64 by omega), Nat.mod_eq_of_lt (show n * 256 + m < 2 ^ 64 by omega), Nat.shiftLeft_eq, Nat.mod_eq_of_lt (show n * 2 ^ 8 < 2 ^ 64 by omega), ← o])
  rw [e, Int64.toInt_ofNat_of_lt (by omega)]
  omega
def lx_bl (c : Int) : Prop := c = 32 ∨ c = 10
def lx_L (c : Int) : Prop := (97 ≤ c ∧ c ≤ 122) ∨ (65 ≤ c ∧ c ≤ 90)
def lx_D (c : Int) : Prop := 48 ≤ c ∧ c ≤ 57
/-- from p on P holds up to q, and not there -/
def lx_to (P : Int → Prop) (b : Int → Int) (p q : Int) : Prop := p ≤ q ∧ (∀ k, p ≤ k → k < q → P (b k)) ∧ ¬ P (b q)
theorem lx_to_u {P : Int → Prop} {b : Int → Int} {p q q' : Int} (h : lx_to P b p q) (h' : lx_to P b p q') : q = q' := by
  obtain ⟨a1, a2, a3⟩ := h
  obtain ⟨b1, b2, b3⟩ := h'
  by_cases x : q < q'
  · exact absurd (b2 q a1 x) a3
  · by_cases y : q' < q
    · exact absurd (a2 q' b1 y) b3
    · omega
/-- the byte at a place of a tape of T bytes -/
def tb (T : Int) (t : Int → Int) (k : Int) : Int := if 0 ≤ k ∧ k < T then t k else -1
/-- a number's value, at most 10000 -/
def lx_n (b : Int → Int) (s : Int) : Nat → Int
  | 0 => 0
  | k + 1 => min 10000 (lx_n b s k * 10 + b (s + k) - 48)
/-- where the words stand in the class's row of them, and how long they are -/
def kw_t : List (Nat × Nat) := [(0, 3), (4, 4), (9, 2), (12, 3), (16, 3), (20, 4), (25, 5), (31, 6), (38, 4), (43, 5), (49, 5), (55, 2), (58, 3), (62, 5)]
def kw_o (i : Nat) : Nat := (kw_t.getD i (0, 0)).1
def kw_l (i : Nat) : Nat := (kw_t.getD i (0, 0)).2
def kw_m (b : Int → Int) (s e : Int) (i : Nat) : Prop := e - s = kw_l i ∧ ∀ j : Nat, j < kw_l i → b (s + j) = sx 0 ((kw_o i + j : Nat) : Int)
def kw_r (b : Int → Int) (s e i : Int) : Prop := (0 ≤ i ∧ i < 14 ∧ kw_m b s e i.toNat) ∨ (i = -1 ∧ ∀ j : Nat, j < 14 → ¬ kw_m b s e j)
def kw_d (i j : Nat) : Bool := (decide (i = j) || decide (¬ kw_l i = kw_l j)) || (List.range (kw_l i)).any (fun t => decide (¬ sx 0 ((kw_o i + t : Nat) : Int) = sx 0 ((kw_o j + t : Nat) : Int)))
theorem kw_da : (List.range 14).all (fun i => (List.range 14).all (fun j => kw_d i j)) = true := by decide +kernel
theorem kw_u {b : Int → Int} {s e : Int} {i j : Nat} (hi : i < 14) (hj : j < 14) (a : kw_m b s e i) (c : kw_m b s e j) : i = j := by
  have d := List.all_eq_true.mp (List.all_eq_true.mp kw_da i (List.mem_range.mpr hi)) j (List.mem_range.mpr hj)
  have l : kw_l i = kw_l j := by have := a.1; have := c.1; omega
  unfold kw_d at d
  simp only [Bool.or_eq_true, decide_eq_true_eq, List.any_eq_true, List.mem_range] at d
  rcases d with (d | d) | ⟨t, t1, t2⟩
  · exact d
  · exact absurd l d
  · exact absurd ((a.2 t t1).symm.trans (c.2 t (by omega))) t2
theorem kw_ru {b : Int → Int} {s e i j : Int} (a : kw_r b s e i) (c : kw_r b s e j) : i = j := by
  rcases a with ⟨a0, a1, a2⟩ | ⟨a0, a1⟩
  · rcases c with ⟨c0, c1, c2⟩ | ⟨c0, c1⟩
    · have := kw_u (by omega) (by omega) a2 c2
      omega
    · exact absurd a2 (c1 _ (by omega))
  · rcases c with ⟨c0, c1, c2⟩ | ⟨c0, c1⟩
    · exact absurd c2 (a1 _ (by omega))
    · omega
def sg_k (c d : Int) : Int := if c = 60 then (if d = 61 then 10 else 9) else if c = 62 then (if d = 61 then 12 else 11) else if c = 61 then 13 else if c = 35 then 14 else if c = 43 then 15 else if c = 45 then 16 else if c = 42 then 17 else if c = 47 then 18 else if c = 40 then 19 else if c = 41 then 20 else if c = 59 then 21 else 1
def sg_n (c d : Int) : Int := if (c = 60 ∨ c = 62) ∧ d = 61 then 2 else 1
/-- from p on the next token: its kind k (the class's number), its value v, where it begins and ends -/
def lx (b : Int → Int) (p k v s e : Int) : Prop := lx_to lx_bl b p s ∧
  ((b s = -1 ∧ k = 0 ∧ v = 0 ∧ e = s) ∨
   (lx_L (b s) ∧ lx_to lx_L b s e ∧ ∃ i, kw_r b s e i ∧ ((i = -1 ∧ k = 1 ∧ v = 0) ∨ (0 ≤ i ∧ i < 5 ∧ k = 4 + i ∧ v = 0) ∨ (5 ≤ i ∧ i < 14 ∧ k = 3 ∧ v = i - 5))) ∨
   (lx_D (b s) ∧ lx_to lx_D b s e ∧ k = 2 ∧ v = lx_n b s (e - s).toNat) ∨
   (0 ≤ b s ∧ ¬ lx_L (b s) ∧ ¬ lx_D (b s) ∧ k = sg_k (b s) (b (s + 1)) ∧ v = 0 ∧ e = s + sg_n (b s) (b (s + 1))))
theorem lx_u {b : Int → Int} {p k v s e k' v' s' e' : Int} (h : lx b p k v s e) (h' : lx b p k' v' s' e') : k = k' ∧ v = v' ∧ s = s' ∧ e = e' := by
  obtain ⟨a, h⟩ := h
  obtain ⟨a', h'⟩ := h'
  have es := lx_to_u a a'
  subst es
  rcases h with ⟨x, k1, v1, e1⟩ | ⟨x, t, i, r, q⟩ | ⟨x, t, k1, v1⟩ | ⟨x, y, z, k1, v1, e1⟩ <;> rcases h' with ⟨x', k1', v1', e1'⟩ | ⟨x', t', i', r', q'⟩ | ⟨x', t', k1', v1'⟩ | ⟨x', y', z', k1', v1', e1'⟩
  · omega
  · unfold lx_L at x'; omega
  · unfold lx_D at x'; omega
  · omega
  · unfold lx_L at x; omega
  · have ee := lx_to_u t t'
    subst ee
    have ei := kw_ru r r'
    subst ei
    omega
  · unfold lx_L at x; unfold lx_D at x'; omega
  · exact absurd x y'
  · unfold lx_D at x; omega
  · unfold lx_D at x; unfold lx_L at x'; omega
  · have ee := lx_to_u t t'
    subst ee
    exact ⟨k1.trans k1'.symm, v1.trans v1'.symm, rfl, rfl⟩
  · exact absurd x z'
  · omega
  · exact absurd x' y
  · exact absurd x' z
  · exact ⟨k1.trans k1'.symm, v1.trans v1'.symm, rfl, e1.trans e1'.symm⟩
theorem sg_nb (c d : Int) : 1 ≤ sg_n c d ∧ sg_n c d ≤ 2 := by
  unfold sg_n
  split <;> omega
theorem lx_le {b : Int → Int} {p k v s e : Int} (h : lx b p k v s e) : p ≤ s ∧ s ≤ e ∧ (k = 0 ∨ s < e) := by
  obtain ⟨a, h⟩ := h
  have a0 := a.1
  rcases h with ⟨x, k1, v1, e1⟩ | ⟨x, t, i, r, q⟩ | ⟨x, t, k1, v1⟩ | ⟨x, y, z, k1, v1, e1⟩
  · omega
  · have t0 := t.1
    have : ¬ s = e := fun z => t.2.2 (z ▸ x)
    omega
  · have t0 := t.1
    have : ¬ s = e := fun z => t.2.2 (z ▸ x)
    omega
  · have := sg_nb (b s) (b (s + 1))
    omega
/-! ===== the machine of the grammar: cell 0 the fields (as the class numbers them: 4 size of the code, 9 where, 10 compared, 11 clause, 12 clauses, 13 open, 14 brackets, 16 depth), cell 1 the pile, cell 2 the code ===== -/
def rk (o : Int) : Int := if o = 6 then 1 else if o = 7 then 2 else if o = 8 then 3 else if o = 15 then 5 else if o = 16 then 5 else if o = 17 then 6 else if o = 18 then 6 else if o = 22 then 7 else if 9 ≤ o ∧ o ≤ 14 then 4 else 0
def p_emit (s : ck_W) (c : Int) : ck_W := if s 0 4 < 300 then ck_up (ck_up s 2 (s 0 4) c) 0 4 (s 0 4 + 1) else s
def p_push (s : ck_W) (o : Int) : ck_W := if 0 ≤ s 0 16 ∧ s 0 16 ≤ 63 then ck_up (ck_up s 1 (s 0 16) o) 0 16 (s 0 16 + 1) else s
def p_less (s : ck_W) (o : Int) : ck_W := if o = 8 ∨ o = 22 then ck_up s 0 13 (s 0 13 - 1) else s
def p_pop (s : ck_W) (i : Int) : ck_W := ck_up (p_emit (p_less s (s 1 i)) (20000 + s 1 i)) 0 16 i
def p_uw (r : Int) : Nat → ck_W → ck_W
  | 0, s => s
  | n + 1, s => if s 1 (n : Int) = 19 ∨ rk (s 1 (n : Int)) < r then s else p_uw r n (p_pop s (n : Int))
def p_U (s : ck_W) (r : Int) : ck_W := p_uw r (s 0 16).toNat s
def p_cs (s : ck_W) (k : Int) : Prop :=
  (s 0 9 = 0 ∧ (k = 4 ∨ k = 5 ∨ k = 0)) ∨ (s 0 9 = 1 ∧ k = 8) ∨ (¬ s 0 9 = 0 ∧ ¬ s 0 9 = 3 ∧ (k = 2 ∨ k = 3 ∨ k = 19 ∨ k = 16)) ∨
  (s 0 9 = 3 ∧ ((15 ≤ k ∧ k ≤ 18) ∨ (0 < s 0 14 ∧ k = 20) ∨ (¬ 0 < s 0 14 ∧ ¬ s 0 10 = 0 ∧ (k = 6 ∨ k = 7 ∨ k = 21)) ∨ (¬ 0 < s 0 14 ∧ s 0 10 = 0 ∧ 9 ≤ k ∧ k ≤ 14)))
/-- the fault at a token is f -/
def p_f (s : ck_W) (k v f : Int) : Prop :=
  (¬ p_cs s k ∧ f = 1) ∨ (p_cs s k ∧ (k = 2 ∧ 9999 < v) ∧ f = 2) ∨
  (p_cs s k ∧ ¬ (k = 2 ∧ 9999 < v) ∧ (¬ s 0 9 = 3 ∧ (k = 19 ∨ k = 8 ∨ k = 16) ∧ 8 ≤ s 0 13) ∧ f = 3) ∨
  (p_cs s k ∧ ¬ (k = 2 ∧ 9999 < v) ∧ ¬ (¬ s 0 9 = 3 ∧ (k = 19 ∨ k = 8 ∨ k = 16) ∧ 8 ≤ s 0 13) ∧ (s 0 9 = 0 ∧ ¬ k = 0 ∧ 10 ≤ s 0 12) ∧ f = 4) ∨
  (p_cs s k ∧ ¬ (k = 2 ∧ 9999 < v) ∧ ¬ (¬ s 0 9 = 3 ∧ (k = 19 ∨ k = 8 ∨ k = 16) ∧ 8 ≤ s 0 13) ∧ ¬ (s 0 9 = 0 ∧ ¬ k = 0 ∧ 10 ≤ s 0 12) ∧ f = 0)
theorem p_f_u {s : ck_W} {k v f f' : Int} (h : p_f s k v f) (h' : p_f s k v f') : f = f' := by
  unfold p_f at h h'
  rcases h with ⟨a, e⟩ | ⟨a, a2, e⟩ | ⟨a, a2, a3, e⟩ | ⟨a, a2, a3, a4, e⟩ | ⟨a, a2, a3, a4, e⟩ <;> rcases h' with ⟨c, e'⟩ | ⟨c, c2, e'⟩ | ⟨c, c2, c3, e'⟩ | ⟨c, c2, c3, c4, e'⟩ | ⟨c, c2, c3, c4, e'⟩ <;> first | exact e.trans e'.symm | exact absurd c a | exact absurd a c | exact absurd a2 c2 | exact absurd c2 a2 | exact absurd a3 c3 | exact absurd c3 a3 | exact absurd a4 c4 | exact absurd c4 a4
def p_opn (s : ck_W) (k : Int) : ck_W := ck_up (if k = 19 then ck_up (ck_up s 0 13 (s 0 13 + 1)) 0 14 (s 0 14 + 1) else ck_up s 0 13 (s 0 13 + 1)) 0 9 (if k = 8 then 1 else 2)
def p_and (s : ck_W) (k v : Int) : ck_W := if k = 2 then ck_up (p_emit s v) 0 9 3 else if k = 3 then ck_up (p_emit s (10000 + v)) 0 9 3 else p_opn (p_push s (if k = 16 then 22 else k)) k
def p_cmp (s : ck_W) (k : Int) : ck_W := ck_up (ck_up s 0 10 (if (9 ≤ k ∧ k ≤ 14) ∨ (¬ s 0 10 = 0 ∧ 15 ≤ k ∧ k ≤ 18) then 1 else 0)) 0 9 (if k = 6 ∨ k = 7 then 1 else 2)
def p_tor (s : ck_W) (k : Int) : ck_W := if k = 20 then ck_up (ck_up (ck_up s 0 16 (max 0 (s 0 16 - 1))) 0 14 (s 0 14 - 1)) 0 13 (s 0 13 - 1)
  else if k = 21 then ck_up (p_emit s (20000 + s 0 11)) 0 9 0
  else p_cmp (p_push s k) k
/-- the token is taken -/
def p_t (s : ck_W) (k v : Int) : ck_W := if s 0 9 = 0 then ck_up (ck_up (ck_up (ck_up s 0 11 k) 0 12 (s 0 12 + 1)) 0 10 0) 0 9 1
  else if s 0 9 = 3 then p_tor (p_U s (rk k)) k else p_and s k v
/-- from the place p and the state s on the text comes to the fault f at pl (or to its end: 0, -1), and the machine stands at z -/
def p_o (b : Int → Int) : Nat → Int → ck_W → Int → Int → ck_W → Prop
  | 0, _, _, _, _, _ => False
  | n + 1, p, s, f, pl, z => ∃ k v st e g, lx b p k v st e ∧ p_f s k v g ∧ ((¬ g = 0 ∧ f = g ∧ pl = st ∧ z = s) ∨ (g = 0 ∧ k = 0 ∧ f = 0 ∧ pl = -1 ∧ z = s) ∨ (g = 0 ∧ ¬ k = 0 ∧ p_o b n e (p_t s k v) f pl z))
theorem p_o_u {b : Int → Int} : ∀ {n m : Nat} {p : Int} {s : ck_W} {f pl : Int} {z : ck_W} {f' pl' : Int} {z' : ck_W}, p_o b n p s f pl z → p_o b m p s f' pl' z' → f = f' ∧ pl = pl' ∧ z = z'
  | 0, _, _, _, _, _, _, _, _, _, h, _ => h.elim
  | _ + 1, 0, _, _, _, _, _, _, _, _, _, h => h.elim
  | n + 1, m + 1, p, s, f, pl, z, f', pl', z', h, h' => by
    obtain ⟨k, v, st, e, g, l, q, r⟩ := h
    obtain ⟨k', v', st', e', g', l', q', r'⟩ := h'
    obtain ⟨e1, e2, e3, e4⟩ := lx_u l l'
    subst e1 e2 e3 e4
    have e5 := p_f_u q q'
    subst e5
    rcases r with ⟨a, c, d, x⟩ | ⟨a, c, d, x, y⟩ | ⟨a, c, d⟩ <;> rcases r' with ⟨a', c', d', x'⟩ | ⟨a', c', d', x', y'⟩ | ⟨a', c', d'⟩
    · exact ⟨c.trans c'.symm, d.trans d'.symm, x.trans x'.symm⟩
    · exact absurd a' a
    · exact absurd a' a
    · exact absurd a a'
    · exact ⟨d.trans d'.symm, x.trans x'.symm, y.trans y'.symm⟩
    · exact absurd c c'
    · exact absurd a a'
    · exact absurd c' c
    · exact p_o_u d d'
def p_O (b : Int → Int) (p : Int) (s : ck_W) (f pl : Int) (z : ck_W) : Prop := ∃ n, p_o b n p s f pl z
/-- the place p and the state s can be come to from the beginning, s0 -/
def p_R (b : Int → Int) (s0 : ck_W) (p : Int) (s : ck_W) : Prop := ∀ f pl z, p_O b p s f pl z → p_O b 0 s0 f pl z
theorem p_R_go {b : Int → Int} {s0 s : ck_W} {p k v st e : Int} (h : p_R b s0 p s) (l : lx b p k v st e) (q : p_f s k v 0) (hk : ¬ k = 0) : p_R b s0 e (p_t s k v) := fun f pl z ⟨n, x⟩ => h f pl z ⟨n + 1, k, v, st, e, 0, l, q, Or.inr (Or.inr ⟨rfl, hk, x⟩)⟩
theorem p_R_bad {b : Int → Int} {s0 s : ck_W} {p k v st e g : Int} (h : p_R b s0 p s) (l : lx b p k v st e) (q : p_f s k v g) (hg : ¬ g = 0) : p_O b 0 s0 g st s := h g st s ⟨1, k, v, st, e, g, l, q, Or.inl ⟨hg, rfl, rfl, rfl⟩⟩
theorem p_R_fin {b : Int → Int} {s0 s : ck_W} {p v st e : Int} (h : p_R b s0 p s) (l : lx b p 0 v st e) (q : p_f s 0 v 0) : p_O b 0 s0 0 (-1) s := h 0 (-1) s ⟨1, 0, v, st, e, 0, l, q, Or.inr (Or.inl ⟨rfl, rfl, rfl, rfl, rfl⟩)⟩
/-! ===== what the machine's deeds leave ===== -/
theorem p_emit_0 {s : ck_W} {c j : Int} (h : ¬ j = 4) : p_emit s c 0 j = s 0 j := by
  unfold p_emit
  split
  · rw [ck_up_nj h, ck_up_ne (by decide)]
  · rfl
theorem p_emit_1 {s : ck_W} {c : Int} : p_emit s c 1 = s 1 := by
  unfold p_emit
  split
  · rw [ck_up_ne (by decide), ck_up_ne (by decide)]
  · rfl
theorem p_push_0 {s : ck_W} {o j : Int} (h : ¬ j = 16) : p_push s o 0 j = s 0 j := by
  unfold p_push
  split
  · rw [ck_up_nj h, ck_up_ne (by decide)]
  · rfl
theorem p_push_2 {s : ck_W} {o : Int} : p_push s o 2 = s 2 := by
  unfold p_push
  split
  · rw [ck_up_ne (by decide), ck_up_ne (by decide)]
  · rfl
theorem p_less_0 {s : ck_W} {o j : Int} (h : ¬ j = 13) : p_less s o 0 j = s 0 j := by
  unfold p_less
  split
  · rw [ck_up_nj h]
  · rfl
theorem p_less_k {s : ck_W} {o : Int} {k : Nat} (h : ¬ k = 0) : p_less s o k = s k := by
  unfold p_less
  split
  · rw [ck_up_ne h]
  · rfl
theorem p_pop_0 {s : ck_W} {i j : Int} (h4 : ¬ j = 4) (h13 : ¬ j = 13) (h16 : ¬ j = 16) : p_pop s i 0 j = s 0 j := by
  unfold p_pop
  rw [ck_up_nj h16, p_emit_0 h4, p_less_0 h13]
theorem p_pop_1 {s : ck_W} {i : Int} : p_pop s i 1 = s 1 := by
  unfold p_pop
  rw [ck_up_ne (by decide), p_emit_1, p_less_k (by decide)]
theorem p_uw_0 {r j : Int} (h4 : ¬ j = 4) (h13 : ¬ j = 13) (h16 : ¬ j = 16) : ∀ (n : Nat) (s : ck_W), p_uw r n s 0 j = s 0 j
  | 0, s => rfl
  | n + 1, s => by
    rw [p_uw]
    split
    · rfl
    · rw [p_uw_0 h4 h13 h16 n, p_pop_0 h4 h13 h16]
theorem p_uw_1 {r : Int} : ∀ (n : Nat) (s : ck_W), p_uw r n s 1 = s 1
  | 0, s => rfl
  | n + 1, s => by
    rw [p_uw]
    split
    · rfl
    · rw [p_uw_1 n, p_pop_1]
theorem p_pop_16 {s : ck_W} {i : Int} : p_pop s i 0 16 = i := by
  unfold p_pop
  rw [ck_up_eq]
/-- first what binds most, then the rest -/
theorem p_uu {r r' : Int} (h : r ≤ r') : ∀ (n : Nat) (s : ck_W), s 0 16 = n → p_U (p_uw r' n s) r = p_uw r n s
  | 0, s, e => by
    rw [p_uw, p_uw]
    unfold p_U
    rw [e]
    rfl
  | n + 1, s, e => by
    by_cases q : s 1 (n : Int) = 19 ∨ rk (s 1 (n : Int)) < r'
    · rw [p_uw, if_pos q]
      unfold p_U
      rw [e, Int.toNat_natCast]
    · rw [p_uw, if_neg q, p_uu h n _ p_pop_16]
      show _ = p_uw r (n + 1) s
      rw [p_uw, if_neg (by omega)]
theorem p_UU {r r' : Int} {s : ck_W} (h : r ≤ r') (h0 : 0 ≤ s 0 16) : p_U (p_U s r') r = p_U s r := by
  show p_U (p_uw r' (s 0 16).toNat s) r = _
  rw [p_uu h _ s (by omega)]
  rfl
/-- the topmost stays -/
theorem p_Ust {r : Int} {s : ck_W} (h : s 0 16 ≤ 0 ∨ s 1 (s 0 16 - 1) = 19 ∨ rk (s 1 (s 0 16 - 1)) < r) : p_U s r = s := by
  unfold p_U
  by_cases q : s 0 16 ≤ 0
  · rw [show (s 0 16).toNat = 0 by omega, p_uw]
  · rw [show (s 0 16).toNat = (s 0 16 - 1).toNat + 1 by omega, p_uw, show (((s 0 16 - 1).toNat : Nat) : Int) = s 0 16 - 1 by omega, if_pos (by omega)]
/-- the topmost goes -/
theorem p_Upo {r : Int} {s : ck_W} (h0 : 0 < s 0 16) (h1 : ¬ s 1 (s 0 16 - 1) = 19) (h2 : r ≤ rk (s 1 (s 0 16 - 1))) : p_U s r = p_U (p_pop s (s 0 16 - 1)) r := by
  unfold p_U
  rw [p_pop_16, show (s 0 16).toNat = (s 0 16 - 1).toNat + 1 by omega, p_uw, show (((s 0 16 - 1).toNat : Nat) : Int) = s 0 16 - 1 by omega, if_neg (by omega)]
