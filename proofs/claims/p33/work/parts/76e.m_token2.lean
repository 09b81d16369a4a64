/-! ===== the reference's tokens: those of 76a ===== -/
/-- letters as a number -/
def tkc (b : Int → Int) (s : Int) : Nat → Int
  | 0 => 0
  | k + 1 => tkc b s k * 256 + b (s + k)
theorem tkc_b {b : Int → Int} {s : Int} : ∀ (n : Nat), n ≤ 7 → (∀ j : Nat, j < n → 1 ≤ b (s + j) ∧ b (s + j) ≤ 255) → 0 ≤ tkc b s n ∧ tkc b s n < 256 ^ n
  | 0, _, _ => by simp [tkc]
  | n + 1, hn, h => by
    have i := tkc_b n (by omega) (fun j hj => h j (by omega))
    have q := h n (by omega)
    rw [tkc, Int.pow_succ]
    omega
theorem tkc_u {b c : Int → Int} {s o : Int} : ∀ (n l : Nat), (∀ j : Nat, j < n → 1 ≤ b (s + j) ∧ b (s + j) ≤ 255) → (∀ j : Nat, j < l → 1 ≤ c (o + j) ∧ c (o + j) ≤ 255) → n ≤ 7 → l ≤ 7 → tkc b s n = tkc c o l → n = l ∧ ∀ j : Nat, j < n → b (s + j) = c (o + j)
  | 0, 0, _, _, _, _, _ => ⟨rfl, fun j hj => by omega⟩
  | 0, l + 1, _, h2, _, hl, e => by
    have i := tkc_b (b := c) (s := o) l (by omega) (fun j hj => h2 j (by omega))
    have q := h2 l (by omega)
    rw [tkc, tkc] at e
    omega
  | n + 1, 0, h1, _, hn, _, e => by
    have i := tkc_b (b := b) (s := s) n (by omega) (fun j hj => h1 j (by omega))
    have q := h1 n (by omega)
    rw [tkc, tkc] at e
    omega
  | n + 1, l + 1, h1, h2, hn, hl, e => by
    have q1 := h1 n (by omega)
    have q2 := h2 l (by omega)
    rw [tkc, tkc] at e
    have i := tkc_u n l (fun j hj => h1 j (by omega)) (fun j hj => h2 j (by omega)) (by omega) (by omega) (by omega)
    obtain ⟨e1, e2⟩ := i
    subst e1
    refine ⟨rfl, fun j hj => ?_⟩
    by_cases x : j = n
    · subst x; omega
    · exact e2 j (by omega)
theorem tkc_c {b c : Int → Int} {s o : Int} : ∀ (n : Nat), (∀ j : Nat, j < n → b (s + j) = c (o + j)) → tkc b s n = tkc c o n
  | 0, _ => rfl
  | n + 1, h => by rw [tkc, tkc, tkc_c n (fun j hj => h j (by omega)), h n (by omega)]
def kwc : List Int := [6909547, 1650553445, 28530, 6385252, 7237492, 1735550329, 427120747371, 125762622027123, 1953854062, 418464099429, 495740085093, 26990, 7304564, 495672455792]
def kw_cd (i : Nat) : Bool := decide (tkc (sx 0) ((kw_o i : Nat) : Int) (kw_l i) = kwc.getD i 0) && (decide (kw_l i ≤ 7) && (List.range (kw_l i)).all (fun t => decide (1 ≤ sx 0 ((kw_o i + t : Nat) : Int) ∧ sx 0 ((kw_o i + t : Nat) : Int) ≤ 255)))
theorem kw_cda : (List.range 14).all kw_cd = true := by decide +kernel
theorem kw_ce {i : Nat} (h : i < 14) : tkc (sx 0) ((kw_o i : Nat) : Int) (kw_l i) = kwc.getD i 0 ∧ kw_l i ≤ 7 ∧ ∀ t : Nat, t < kw_l i → 1 ≤ sx 0 ((kw_o i : Nat) + (t : Int)) ∧ sx 0 ((kw_o i : Nat) + (t : Int)) ≤ 255 := by
  have a := List.all_eq_true.mp kw_cda i (List.mem_range.mpr h)
  unfold kw_cd at a
  simp only [Bool.and_eq_true, decide_eq_true_eq, List.all_eq_true, List.mem_range] at a
  refine ⟨a.1, a.2.1, fun t ht => ?_⟩
  have q := a.2.2 t ht
  rw [Int.natCast_add] at q
  exact q
/-- the reference's word is the class's i -/
theorem kw_x {b : Int → Int} {s e x : Int} (hl : lx_to lx_L b s e) (hx : (e - s ≤ 7 ∧ x = tkc b s (e - s).toNat) ∨ (7 < e - s ∧ x = 0)) {i : Nat} (hi : i < 14) : kw_m b s e i ↔ x = kwc.getD i 0 := by
  have c := kw_ce hi
  have lt : ∀ j : Nat, j < (e - s).toNat → 1 ≤ b (s + j) ∧ b (s + j) ≤ 255 := fun j hj => by
    have := hl.2.1 (s + j) (by omega) (by omega)
    unfold lx_L at this
    omega
  constructor
  · intro m
    have m1 := m.1
    rcases hx with ⟨h7, hx⟩ | ⟨h7, hx⟩
    · rw [hx, ← c.1, show (e - s).toNat = kw_l i by omega]
      exact tkc_c _ (fun j hj => by rw [m.2 j hj, Int.natCast_add])
    · omega
  · intro ex
    have pos : 0 < kwc.getD i 0 := (show ∀ i, i < 14 → 0 < kwc.getD i 0 by decide) i hi
    rcases hx with ⟨h7, hx⟩ | ⟨h7, hx⟩
    · rw [← c.1, hx] at ex
      have u := tkc_u _ _ lt c.2.2 (by omega) c.2.1 ex
      refine ⟨by have := hl.1; omega, fun j hj => ?_⟩
      rw [u.2 j (by omega), Int.natCast_add]
    · omega
/-- the class's kind of the reference's token -/
def tk_w (x : Int) : Int := if x = 6909547 then 4 else if x = 1650553445 then 5 else if x = 28530 then 6 else if x = 6385252 then 7 else if x = 7237492 then 8 else if x = 1735550329 ∨ x = 427120747371 ∨ x = 125762622027123 ∨ x = 1953854062 ∨ x = 418464099429 ∨ x = 495740085093 ∨ x = 26990 ∨ x = 7304564 ∨ x = 495672455792 then 3 else 1
def tk_k (t x : Int) : Int := if t = 0 then 0 else if t = 1 then 2 else if t = 2 then tk_w x else if t = 60 then 9 else if t = 4 then 10 else if t = 62 then 11 else if t = 5 then 12 else if t = 61 then 13 else if t = 35 then 14 else if t = 43 then 15 else if t = 45 then 16 else if t = 42 then 17 else if t = 47 then 18 else if t = 40 then 19 else if t = 41 then 20 else if t = 59 then 21 else 1
theorem tk_wa : (List.range 14).all (fun i => decide (tk_w (kwc.getD i 0) = (if i < 5 then 4 + (i : Int) else 3)) && (decide (i < 5) || decide (rm_nm 2 (kwc.getD i 0) = (i : Int) - 5))) = true := by decide +kernel
theorem tk_we {i : Nat} (h : i < 14) : (i < 5 → tk_w (kwc.getD i 0) = 4 + (i : Int)) ∧ (5 ≤ i → tk_w (kwc.getD i 0) = 3 ∧ rm_nm 2 (kwc.getD i 0) = (i : Int) - 5) := by
  have a := List.all_eq_true.mp tk_wa i (List.mem_range.mpr h)
  simp only [Bool.and_eq_true, Bool.or_eq_true, decide_eq_true_eq] at a
  refine ⟨fun q => by rw [a.1, if_pos q], fun q => ⟨by rw [a.1, if_neg (by omega)], a.2.resolve_left (by omega)⟩⟩
theorem tk_wn {x : Int} (h : ∀ i : Nat, i < 14 → ¬ x = kwc.getD i 0) : tk_w x = 1 := by
  have h0 : ¬ x = 6909547 := h 0 (by decide)
  have h1 : ¬ x = 1650553445 := h 1 (by decide)
  have h2 : ¬ x = 28530 := h 2 (by decide)
  have h3 : ¬ x = 6385252 := h 3 (by decide)
  have h4 : ¬ x = 7237492 := h 4 (by decide)
  have h5 : ¬ x = 1735550329 := h 5 (by decide)
  have h6 : ¬ x = 427120747371 := h 6 (by decide)
  have h7 : ¬ x = 125762622027123 := h 7 (by decide)
  have h8 : ¬ x = 1953854062 := h 8 (by decide)
  have h9 : ¬ x = 418464099429 := h 9 (by decide)
  have h10 : ¬ x = 495740085093 := h 10 (by decide)
  have h11 : ¬ x = 26990 := h 11 (by decide)
  have h12 : ¬ x = 7304564 := h 12 (by decide)
  have h13 : ¬ x = 495672455792 := h 13 (by decide)
  unfold tk_w
  repeat' split
  all_goals omega
def nr (v n : Int) : Prop := (v ≤ 9999 ∧ n = v) ∨ (9999 < v ∧ 9999 < n)
/-- the token at hand is the next one from p on -/
def tkn (b : Int → Int) (p : Int) (u : ck_W) : Prop := ∃ v, lx b p (tk_k (u 76 21) (u 76 23)) v (u 76 20) (u 76 19) ∧ (tk_k (u 76 21) (u 76 23) = 2 → nr v (u 76 22)) ∧ (tk_k (u 76 21) (u 76 23) = 3 → v = rm_nm (u 76 21) (u 76 23))
theorem tk_wl {b : Int → Int} {p s e x : Int} (hs : lx_to lx_bl b p s) (hc : lx_L (b s)) (hl : lx_to lx_L b s e) (hx : (e - s ≤ 7 ∧ x = tkc b s (e - s).toNat) ∨ (7 < e - s ∧ x = 0)) : ∃ v, lx b p (tk_w x) v s e ∧ (tk_w x = 3 → v = rm_nm 2 x) := by
  by_cases q : ∃ i : Nat, i < 14 ∧ x = kwc.getD i 0
  · obtain ⟨i, i1, i2⟩ := q
    have m := (kw_x hl hx i1).mpr i2
    have w := tk_we i1
    rw [← i2] at w
    have r : kw_r b s e (i : Int) := Or.inl ⟨by omega, by omega, by rw [Int.toNat_natCast]; exact m⟩
    by_cases y : i < 5
    · exact ⟨0, ⟨hs, Or.inr (Or.inl ⟨hc, hl, i, r, Or.inr (Or.inl ⟨by omega, by omega, w.1 y, rfl⟩)⟩)⟩, fun z => by have := w.1 y; omega⟩
    · have w2 := w.2 (by omega)
      exact ⟨(i : Int) - 5, ⟨hs, Or.inr (Or.inl ⟨hc, hl, i, r, Or.inr (Or.inr ⟨by omega, by omega, w2.1, rfl⟩)⟩)⟩, fun _ => w2.2.symm⟩
  · have n : ∀ i : Nat, i < 14 → ¬ x = kwc.getD i 0 := fun i hi e => q ⟨i, hi, e⟩
    have w := tk_wn n
    exact ⟨0, ⟨hs, Or.inr (Or.inl ⟨hc, hl, -1, Or.inr ⟨rfl, fun j hj m => n j hj ((kw_x hl hx hj).mp m)⟩, Or.inl ⟨rfl, w, rfl⟩⟩)⟩, fun z => by omega⟩
theorem tk_sg {c d x : Int} (h : ¬ ((c = 60 ∨ c = 62) ∧ d = 61)) : tk_k (if c = 60 ∨ c = 62 ∨ c = 61 ∨ c = 35 ∨ c = 43 ∨ c = 45 ∨ c = 42 ∨ c = 47 ∨ c = 40 ∨ c = 41 ∨ c = 59 then c else 3) x = sg_k c d := by
  by_cases a : c = 60 ∨ c = 62 ∨ c = 61 ∨ c = 35 ∨ c = 43 ∨ c = 45 ∨ c = 42 ∨ c = 47 ∨ c = 40 ∨ c = 41 ∨ c = 59
  · rw [if_pos a]
    unfold sg_k
    rcases a with a | a | a | a | a | a | a | a | a | a | a
    · rw [if_pos a, if_neg (by omega), a]; rfl
    · rw [if_neg (by omega), if_pos a, if_neg (by omega), a]; rfl
    all_goals (subst a; rfl)
  · rw [if_neg a]
    unfold sg_k
    rw [if_neg (by omega), if_neg (by omega), if_neg (by omega), if_neg (by omega), if_neg (by omega), if_neg (by omega), if_neg (by omega), if_neg (by omega), if_neg (by omega), if_neg (by omega), if_neg (by omega)]
    rfl
def nr2 (v n : Int) : Prop := (0 ≤ v ∧ v ≤ 9999 ∧ n = v) ∨ (v = 10000 ∧ 10000 ≤ n)
theorem S2_X12_nextToken {g : ch_G} {A R : Nat} (hC : ck_Cx g A R) {d : Nat} {K : Option ck_V → ck_W → Prop} {w : ck_W} (h0 : 0 ≤ w 76 19 ∧ w 76 19 ≤ w 76 16) (hT : w 76 16 ≤ 300) (hn : 0 ≤ w 76 22) (hB : ∀ j, 0 ≤ j → j < w 76 16 → 0 ≤ w 89 j ∧ w 89 j ≤ 255)
    (h : ∀ w', rm_nt w w' → (w 76 19 ≤ w' 76 20 ∧ w' 76 20 ≤ w' 76 19 ∧ w' 76 19 ≤ w 76 16) → (w' 76 21 = 0 ∨ w' 76 20 < w' 76 19) → 0 ≤ w' 76 22 → tkn (tb (w 76 16) (w 89)) (w 76 19) w' → K none w') : ck_Ex (ch_C g A R) (d + 2) mX12_nextToken [.inr (.inr 76)] w K := by
  have hb : ∀ u : ck_W, rm_nt w u → 0 ≤ u 76 19 → rm_by (u 76 16) (u 89 (u 76 19)) (u 76 19) = tb (w 76 16) (w 89) (u 76 19) := fun u q q0 => by
    rw [q.2 16 (by omega), q.1 89 (by decide)]
    unfold rm_by tb
    by_cases z : w 76 16 ≤ u 76 19
    · rw [if_pos z, if_neg (by omega)]
    · rw [if_neg z, if_pos (by omega)]
  have tbb := tb_b hB
  have sk0 := fun (z : Int) => tbb z
  generalize tb (w 76 16) (w 89) = b at *
  -- digits
  have l85 : ∀ (m : Nat) (u : ck_W), w 76 16 - u 76 19 ≤ m → rm_nt w u → u 76 21 = 1 → (w 76 19 ≤ u 76 20 ∧ u 76 20 ≤ u 76 19 ∧ u 76 19 ≤ w 76 16) → lx_to lx_bl b (w 76 19) (u 76 20) → lx_D (b (u 76 20)) → (∀ k, u 76 20 ≤ k → k < u 76 19 → lx_D (b k)) → nr2 (lx_n b (u 76 20) (u 76 19 - u 76 20).toNat) (u 76 22) → u 76 22 ≤ 2000000 → ck_At (ch_C g A R) (d + 2) mX12_nextToken K 85 [some (.inr (.inr 76)), none, none] [] u := by
    intro m
    induction m with
    | zero =>
      intro u q1 q2 q21 q3 qb qd qk qn qm
      have e := hb u q2 (by omega)
      have t := tbb (u 76 19)
      have e16 := q2.2 16 (by omega)
      have nd : ¬ lx_D (b (u 76 19)) := by unfold lx_D; omega
      have ne : ¬ u 76 20 = u 76 19 := fun z => nd (z ▸ qd)
      refine r_X12_nextToken_85 hC ?_
      rw [e]
      refine ⟨by omega, fun z => absurd z nd, fun _ => h u q2 q3 (by omega) (by unfold nr2 at qn; omega) ⟨_, ⟨qb, Or.inr (Or.inr (Or.inl ⟨qd, ⟨by omega, qk, nd⟩, by rw [q21]; rfl, rfl⟩))⟩, fun _ => by unfold nr2 at qn; unfold nr; omega, fun z => by rw [q21, show tk_k 1 (u 76 23) = 2 from rfl] at z; exact absurd z (by decide)⟩⟩
    | succ m ih =>
      intro u q1 q2 q21 q3 qb qd qk qn qm
      have e := hb u q2 (by omega)
      have t := tbb (u 76 19)
      have e16 := q2.2 16 (by omega)
      refine r_X12_nextToken_85 hC ?_
      rw [e]
      have nx : lx_D (b (u 76 19)) → ∀ u' : ck_W, rm_nt w u' → u' 76 19 = u 76 19 + 1 → u' 76 20 = u 76 20 → u' 76 21 = 1 → nr2 (lx_n b (u 76 20) (u 76 19 + 1 - u 76 20).toNat) (u' 76 22) → u' 76 22 ≤ 2000000 → ck_At (ch_C g A R) (d + 2) mX12_nextToken K 85 [some (.inr (.inr 76)), none, none] [] u' := fun z u' r1 r2 r3 r4 r5 r6 => by
        have zd := z
        unfold lx_D at zd
        refine ih u' (by omega) r1 r4 (by omega) (by rw [r3]; exact qb) (by rw [r3]; exact qd) (fun k k0 k1 => ?_) (by rw [r2, r3]; exact r5) r6
        by_cases x : k = u 76 19
        · rw [x]; exact z
        · exact qk k (by omega) (by omega)
      have stp : lx_n b (u 76 20) (u 76 19 + 1 - u 76 20).toNat = min 10000 (lx_n b (u 76 20) (u 76 19 - u 76 20).toNat * 10 + b (u 76 19) - 48) := by
        rw [show (u 76 19 + 1 - u 76 20).toNat = (u 76 19 - u 76 20).toNat + 1 by omega, lx_n, show u 76 20 + (((u 76 19 - u 76 20).toNat : Nat) : Int) = u 76 19 by omega]
      rw [stp] at nx
      obtain ⟨v, hvn⟩ : ∃ v, v = lx_n b (u 76 20) (u 76 19 - u 76 20).toNat := ⟨_, rfl⟩
      rw [← hvn] at nx qn
      clear stp
      refine ⟨by omega, fun z => ⟨fun z2 => ⟨by constructor <;> omega, nx z _ (rm_nt_up q2 (by omega) (by omega)) ck_up_eq (ck_up_nj (by decide)) (by rw [ck_up_nj (by decide)]; exact q21) (by rw [ck_up_nj (by decide)]; unfold nr2 at qn ⊢; omega) (by rw [ck_up_nj (by decide)]; exact qm)⟩, fun z2 => ⟨by unfold nr2 at qn; constructor <;> omega, by constructor <;> omega, nx z _ (rm_nt_up (rm_nt_up q2 (by omega) (by omega)) (by omega) (by omega)) ck_up_eq (by simp [ck_up]) (by simp [ck_up]; exact q21) (by rw [ck_up_nj (by decide), ck_up_eq]; unfold nr2 at qn ⊢; omega) (by rw [ck_up_nj (by decide), ck_up_eq]; omega)⟩⟩, fun z => ?_⟩
      have ne : ¬ u 76 20 = u 76 19 := fun y => z (y ▸ qd)
      refine h u q2 q3 (by omega) (by unfold nr2 at qn; omega) ⟨v, ⟨qb, Or.inr (Or.inr (Or.inl ⟨qd, ⟨by omega, qk, z⟩, by rw [q21]; rfl, ?_⟩))⟩, fun _ => by unfold nr2 at qn; unfold nr; omega, fun z => by rw [q21, show tk_k 1 (u 76 23) = 2 from rfl] at z; exact absurd z (by decide)⟩
      exact hvn
  -- letters
  have l223 : ∀ (u : ck_W), rm_nt w u → u 76 21 = 2 → (w 76 19 ≤ u 76 20 ∧ u 76 20 ≤ u 76 19 ∧ u 76 19 ≤ w 76 16) → lx_to lx_bl b (w 76 19) (u 76 20) → lx_L (b (u 76 20)) → lx_to lx_L b (u 76 20) (u 76 19) → (u 76 19 - u 76 20 ≤ 7 → u 76 23 = tkc b (u 76 20) (u 76 19 - u 76 20).toNat) → 0 ≤ u 76 22 → ck_At (ch_C g A R) (d + 2) mX12_nextToken K 223 [some (.inr (.inr 76)), none, none] [] u := by
    intro u q2 q21 q3 qb qd qk qx q5
    have ne : ¬ u 76 20 = u 76 19 := fun y => qk.2.2 (y ▸ qd)
    refine r_X12_nextToken_223 hC ⟨by constructor <;> omega, fun z => ?_, fun z => ?_⟩
    · obtain ⟨v, v1, v2⟩ := tk_wl qb qd qk (Or.inl ⟨z, qx z⟩)
      have k : tk_k (u 76 21) (u 76 23) = tk_w (u 76 23) := by rw [q21]; rfl
      refine h u q2 q3 (by omega) q5 ⟨v, by rw [k]; exact v1, fun y => ?_, fun y => by rw [q21]; exact v2 (by rw [← k]; exact y)⟩
      rw [k] at y
      unfold tk_w at y
      split at y
      · omega
      · split at y
        · omega
        · split at y
          · omega
          · split at y
            · omega
            · split at y
              · omega
              · split at y <;> omega
    · have e21 : (ck_up u 76 23 0) 76 21 = 2 := by rw [ck_up_nj (by decide)]; exact q21
      have e23 : (ck_up u 76 23 0) 76 23 = 0 := ck_up_eq
      have e22 : (ck_up u 76 23 0) 76 22 = u 76 22 := ck_up_nj (by decide)
      have e20 : (ck_up u 76 23 0) 76 20 = u 76 20 := ck_up_nj (by decide)
      have e19 : (ck_up u 76 23 0) 76 19 = u 76 19 := ck_up_nj (by decide)
      obtain ⟨v, v1, v2⟩ := tk_wl qb qd qk (Or.inr ⟨by omega, rfl⟩)
      refine h _ (rm_nt_up q2 (by omega) (by omega)) (by rw [e19, e20]; exact q3) (by rw [e19, e20]; omega) (by rw [e22]; exact q5) ⟨v, by rw [e19, e20, e21, e23]; exact v1, fun y => ?_, fun y => ?_⟩
      · rw [e21, e23] at y; exact absurd y (by decide)
      · rw [e21, e23] at y; exact absurd y (by decide)
  have l161 : ∀ (m : Nat) (u : ck_W), w 76 16 - u 76 19 ≤ m → rm_nt w u → u 76 21 = 2 → (w 76 19 ≤ u 76 20 ∧ u 76 20 ≤ u 76 19 ∧ u 76 19 ≤ w 76 16) → lx_to lx_bl b (w 76 19) (u 76 20) → lx_L (b (u 76 20)) → (∀ k, u 76 20 ≤ k → k < u 76 19 → lx_L (b k)) → (u 76 19 - u 76 20 ≤ 7 → u 76 23 = tkc b (u 76 20) (u 76 19 - u 76 20).toNat) → 0 ≤ u 76 22 → ck_At (ch_C g A R) (d + 2) mX12_nextToken K 161 [some (.inr (.inr 76)), none, none] [] u := by
    intro m
    induction m with
    | zero =>
      intro u q1 q2 q21 q3 qb qd qk qx q5
      have e := hb u q2 (by omega)
      have t := tbb (u 76 19)
      have e16 := q2.2 16 (by omega)
      have nd : ¬ lx_L (b (u 76 19)) := by unfold lx_L; omega
      refine r_X12_nextToken_161 hC ?_
      rw [e]
      exact ⟨by omega, fun z => absurd z nd, fun _ => l223 u q2 q21 q3 qb qd ⟨by omega, qk, nd⟩ qx q5⟩
    | succ m ih =>
      intro u q1 q2 q21 q3 qb qd qk qx q5
      have e := hb u q2 (by omega)
      have t := tbb (u 76 19)
      have e16 := q2.2 16 (by omega)
      refine r_X12_nextToken_161 hC ?_
      rw [e]
      have nx : lx_L (b (u 76 19)) → ∀ u' : ck_W, rm_nt w u' → u' 76 19 = u 76 19 + 1 → u' 76 20 = u 76 20 → u' 76 21 = 2 → (u 76 19 + 1 - u 76 20 ≤ 7 → u' 76 23 = tkc b (u 76 20) (u 76 19 + 1 - u 76 20).toNat) → 0 ≤ u' 76 22 → ck_At (ch_C g A R) (d + 2) mX12_nextToken K 161 [some (.inr (.inr 76)), none, none] [] u' := fun z u' r1 r2 r3 r4 r5 r6 => by
        have zd := z
        unfold lx_L at zd
        refine ih u' (by omega) r1 r4 (by omega) (by rw [r3]; exact qb) (by rw [r3]; exact qd) (fun k k0 k1 => ?_) (by rw [r2, r3]; exact r5) r6
        by_cases x : k = u 76 19
        · rw [x]; exact z
        · exact qk k (by omega) (by omega)
      refine ⟨by omega, fun z => ⟨by constructor <;> omega, fun z2 => ⟨by constructor <;> omega, nx z _ (rm_nt_up q2 (by omega) (by omega)) ck_up_eq (ck_up_nj (by decide)) (by rw [ck_up_nj (by decide)]; exact q21) (fun y => by omega) (by rw [ck_up_nj (by decide)]; exact q5)⟩, fun z2 => ⟨by constructor <;> omega, nx z _ (rm_nt_up (rm_nt_up q2 (by omega) (by omega)) (by omega) (by omega)) ck_up_eq (by simp [ck_up]) (by simp [ck_up]; exact q21) (fun y => ?_) (by simp [ck_up]; exact q5)⟩⟩, fun z => l223 u q2 q21 q3 qb qd ⟨by omega, qk, z⟩ qx q5⟩
      have bd := tkc_b (b := b) (s := u 76 20) (u 76 19 - u 76 20).toNat (by omega) (fun j hj => by
        have := qk (u 76 20 + j) (by omega) (by omega)
        unfold lx_L at this
        omega)
      have p6 : (256 : Int) ^ (u 76 19 - u 76 20).toNat ≤ 281474976710656 := (show ∀ n : Nat, n ≤ 6 → (256 : Int) ^ n ≤ 281474976710656 by decide) _ (by omega)
      rw [ck_up_nj (by decide), ck_up_eq, qx (by omega), lw_or (by omega) (by omega), show (u 76 19 + 1 - u 76 20).toNat = (u 76 19 - u 76 20).toNat + 1 by omega, tkc, show u 76 20 + (((u 76 19 - u 76 20).toNat : Nat) : Int) = u 76 19 by omega]
  -- a sign
  have fin : ∀ (u : ck_W) (c : Int), rm_nt w u → (w 76 19 ≤ u 76 20 ∧ u 76 20 < u 76 19 ∧ u 76 19 ≤ w 76 16) → lx_to lx_bl b (w 76 19) (u 76 20) → b (u 76 20) = c → (0 ≤ c ∧ ¬ lx_L c ∧ ¬ lx_D c) → tk_k (u 76 21) (u 76 23) = sg_k c (b (u 76 20 + 1)) → u 76 19 = u 76 20 + sg_n c (b (u 76 20 + 1)) → 0 ≤ u 76 22 → K none u := by
    intro u c q2 q3 qb qc q0 qk qe q5
    have sgk : ∀ c e : Int, ¬ sg_k c e = 2 ∧ ¬ sg_k c e = 3 := fun c e => by
      unfold sg_k
      repeat' split
      all_goals omega
    have g := sgk c (b (u 76 20 + 1))
    exact h u q2 (by omega) (by omega) q5 ⟨0, ⟨qb, Or.inr (Or.inr (Or.inr ⟨by rw [qc]; exact q0.1, by rw [qc]; exact q0.2.1, by rw [qc]; exact q0.2.2, by rw [qc]; exact qk, rfl, by rw [qc]; exact qe⟩))⟩, fun y => absurd (qk ▸ y) g.1, fun y => absurd (qk ▸ y) g.2⟩
  have l340 : ∀ (c : Int) (u : ck_W), rm_nt w u → (w 76 19 ≤ u 76 20 ∧ u 76 19 = u 76 20 + 1 ∧ u 76 19 ≤ w 76 16) → lx_to lx_bl b (w 76 19) (u 76 20) → b (u 76 20) = c → (0 ≤ c ∧ ¬ lx_L c ∧ ¬ lx_D c) → u 76 21 = (if c = 60 ∨ c = 62 ∨ c = 61 ∨ c = 35 ∨ c = 43 ∨ c = 45 ∨ c = 42 ∨ c = 47 ∨ c = 40 ∨ c = 41 ∨ c = 59 then c else 3) → 0 ≤ u 76 22 → ck_At (ch_C g A R) (d + 2) mX12_nextToken K 340 [some (.inr (.inr 76)), some (.inl c), none] [] u := by
    intro c u q2 q3 qb qc q0 q21 q5
    have e16 := q2.2 16 (by omega)
    have e := hb u q2 (by omega)
    have t := tbb (u 76 19)
    rw [q3.2.1] at e t
    refine r_X12_nextToken_340 hC ?_
    rw [q3.2.1, e]
    have now : ¬ ((c = 60 ∨ c = 62) ∧ b (u 76 20 + 1) = 61) → K none u := fun z => by
      refine fin u c q2 (by omega) qb qc q0 ?_ ?_ q5
      · rw [q21]
        exact tk_sg z
      · unfold sg_n
        rw [if_neg z]
        exact q3.2.1
    have one : ∀ v : Int, (c = 60 ∧ v = 4) ∨ (c = 62 ∧ v = 5) → b (u 76 20 + 1) = 61 → K none (ck_up (ck_up u 76 19 (u 76 20 + 1 + 1)) 76 21 v) := fun v hv z => by
      have f19 : (ck_up (ck_up u 76 19 (u 76 20 + 1 + 1)) 76 21 v) 76 19 = u 76 20 + 2 := by rw [ck_up_nj (by decide), ck_up_eq]; omega
      have f20 : (ck_up (ck_up u 76 19 (u 76 20 + 1 + 1)) 76 21 v) 76 20 = u 76 20 := by simp [ck_up]
      have f21 : (ck_up (ck_up u 76 19 (u 76 20 + 1 + 1)) 76 21 v) 76 21 = v := ck_up_eq
      have f22 : (ck_up (ck_up u 76 19 (u 76 20 + 1 + 1)) 76 21 v) 76 22 = u 76 22 := by simp [ck_up]
      refine fin _ c (rm_nt_up (rm_nt_up q2 (by omega) (by omega)) (by omega) (by omega)) (by rw [f19, f20]; omega) (by rw [f20]; exact qb) (by rw [f20]; exact qc) q0 ?_ ?_ (by rw [f22]; exact q5)
      · rw [f20, f21, z]
        rcases hv with ⟨x, y⟩ | ⟨x, y⟩
        · rw [x, y]; rfl
        · rw [x, y]; rfl
      · rw [f19, f20, z]
        unfold sg_n
        rw [if_pos (by omega)]
    exact ⟨fun y => ⟨by omega, fun z => now (by omega), fun z => ⟨by constructor <;> omega, fun y2 => absurd y y2, fun _ => one 4 (by omega) z⟩⟩, fun y => ⟨fun y2 => now (by omega), fun y2 => ⟨by omega, fun z => now (by omega), fun z => ⟨by constructor <;> omega, fun _ => one 5 (by omega) z, fun y3 => absurd y3 y⟩⟩⟩⟩
  have l39 : ∀ u : ck_W, rm_nt w u → (w 76 19 ≤ u 76 19 ∧ u 76 19 ≤ w 76 16) → lx_to lx_bl b (w 76 19) (u 76 19) → 0 ≤ u 76 22 → ck_At (ch_C g A R) (d + 2) mX12_nextToken K 39 [some (.inr (.inr 76)), none, none] [] u := by
    intro u q2 q3 qb q5
    have e16 := q2.2 16 (by omega)
    have e := hb u q2 (by omega)
    have t := tbb (u 76 19)
    refine r_X12_nextToken_39 hC ⟨by omega, fun x ex => ?_⟩
    rw [e] at ex
    subst ex
    have n1 := rm_nt_up (i := 20) (v := u 76 19) q2 (by omega) (by omega)
    have f19 : (ck_up u 76 20 (u 76 19)) 76 19 = u 76 19 := ck_up_nj (by decide)
    have f20 : (ck_up u 76 20 (u 76 19)) 76 20 = u 76 19 := ck_up_eq
    have f22 : (ck_up u 76 20 (u 76 19)) 76 22 = u 76 22 := ck_up_nj (by decide)
    generalize (ck_up u 76 20 (u 76 19)) = u1 at *
    refine r_X12_nextToken_56 hC ⟨fun z => ⟨fun z2 => ?_, fun z2 => ⟨fun z3 => ?_, fun z3 => ?_⟩⟩, fun z => ?_⟩
    · have g19 : (ck_up (ck_up u1 76 21 1) 76 22 0) 76 19 = u 76 19 := by rw [ck_up_nj (by decide), ck_up_nj (by decide)]; exact f19
      have g20 : (ck_up (ck_up u1 76 21 1) 76 22 0) 76 20 = u 76 19 := by rw [ck_up_nj (by decide), ck_up_nj (by decide)]; exact f20
      have g22 : (ck_up (ck_up u1 76 21 1) 76 22 0) 76 22 = 0 := ck_up_eq
      refine l85 (w 76 16).toNat _ (by rw [g19]; omega) (rm_nt_up (rm_nt_up n1 (by omega) (by omega)) (by omega) (by omega)) (by rw [ck_up_nj (by decide), ck_up_eq]) (by rw [g19, g20]; omega) (by rw [g20]; exact qb) (by rw [g20]; exact z2) (fun k k0 k1 => by rw [g19] at k1; rw [g20] at k0; omega) ?_ (by rw [g22]; decide)
      rw [g19, g20, g22, show (u 76 19 - u 76 19).toNat = 0 by omega, lx_n]
      exact Or.inl ⟨by decide, by decide, rfl⟩
    · have g19 : (ck_up (ck_up u1 76 21 2) 76 23 0) 76 19 = u 76 19 := by rw [ck_up_nj (by decide), ck_up_nj (by decide)]; exact f19
      have g20 : (ck_up (ck_up u1 76 21 2) 76 23 0) 76 20 = u 76 19 := by rw [ck_up_nj (by decide), ck_up_nj (by decide)]; exact f20
      refine l161 (w 76 16).toNat _ (by rw [g19]; omega) (rm_nt_up (rm_nt_up n1 (by omega) (by omega)) (by omega) (by omega)) (by rw [ck_up_nj (by decide), ck_up_eq]) (by rw [g19, g20]; omega) (by rw [g20]; exact qb) (by rw [g20]; exact z3) (fun k k0 k1 => by rw [g19] at k1; rw [g20] at k0; omega) (fun _ => ?_) (by rw [ck_up_nj (by decide), ck_up_nj (by decide), f22]; exact q5)
      rw [g19, g20, ck_up_eq, show (u 76 19 - u 76 19).toNat = 0 by omega, tkc]
    · have lt : u 76 19 < w 76 16 := by omega
      refine r_X12_nextToken_245 hC ?_
      rw [f19]
      have g19 : (ck_up u1 76 19 (u 76 19 + 1)) 76 19 = u 76 19 + 1 := ck_up_eq
      have g20 : (ck_up u1 76 19 (u 76 19 + 1)) 76 20 = u 76 19 := by rw [ck_up_nj (by decide)]; exact f20
      have g22 : (ck_up u1 76 19 (u 76 19 + 1)) 76 22 = u 76 22 := by rw [ck_up_nj (by decide)]; exact f22
      have n2 : rm_nt w (ck_up u1 76 19 (u 76 19 + 1)) := rm_nt_up n1 (by omega) (by omega)
      generalize (ck_up u1 76 19 (u 76 19 + 1)) = u2 at *
      have nx : ∀ v : Int, (if v = 0 then (3 : Int) else b (u 76 19)) = (if b (u 76 19) = 60 ∨ b (u 76 19) = 62 ∨ b (u 76 19) = 61 ∨ b (u 76 19) = 35 ∨ b (u 76 19) = 43 ∨ b (u 76 19) = 45 ∨ b (u 76 19) = 42 ∨ b (u 76 19) = 47 ∨ b (u 76 19) = 40 ∨ b (u 76 19) = 41 ∨ b (u 76 19) = 59 then b (u 76 19) else 3) → ck_At (ch_C g A R) (d + 2) mX12_nextToken K 327 [some (.inr (.inr 76)), some (.inl (b (u 76 19))), some (.inl v)] [] u2 := fun v hv => by
        have up : ∀ t : Int, t = (if v = 0 then (3 : Int) else b (u 76 19)) → ck_At (ch_C g A R) (d + 2) mX12_nextToken K 340 [some (.inr (.inr 76)), some (.inl (b (u 76 19))), none] [] (ck_up u2 76 21 t) := fun t et => by
          have k19 : (ck_up u2 76 21 t) 76 19 = u 76 19 + 1 := by rw [ck_up_nj (by decide)]; exact g19
          have k20 : (ck_up u2 76 21 t) 76 20 = u 76 19 := by rw [ck_up_nj (by decide)]; exact g20
          exact l340 _ _ (rm_nt_up n2 (by omega) (by omega)) (by rw [k19, k20]; omega) (by rw [k20]; exact qb) (by rw [k20]) ⟨z, z3, z2⟩ (by rw [ck_up_eq, et]; exact hv) (by rw [ck_up_nj (by decide), g22]; exact q5)
        exact r_X12_nextToken_327 hC ⟨fun y => up 3 (by rw [if_pos y]), fun y => up _ (by rw [if_neg y])⟩
      refine ⟨by constructor <;> omega, ?_⟩
      with_reducible repeat' (first | apply And.intro | intro _)
      all_goals (refine nx _ ?_)
      all_goals (first | (rw [if_neg (by decide), if_pos (by omega)]) | (rw [if_pos rfl, if_neg (by omega)]))
    · have g21 : (ck_up u1 76 21 0) 76 21 = 0 := ck_up_eq
      have g19 : (ck_up u1 76 21 0) 76 19 = u 76 19 := by rw [ck_up_nj (by decide)]; exact f19
      have g20 : (ck_up u1 76 21 0) 76 20 = u 76 19 := by rw [ck_up_nj (by decide)]; exact f20
      have g22 : (ck_up u1 76 21 0) 76 22 = u 76 22 := by rw [ck_up_nj (by decide)]; exact f22
      refine h _ (rm_nt_up n1 (by omega) (by omega)) (by rw [g19, g20]; omega) (Or.inl g21) (by rw [g22]; exact q5) ⟨0, ⟨by rw [g20]; exact qb, Or.inl ⟨by rw [g20]; omega, by rw [g21]; rfl, rfl, by rw [g19, g20]⟩⟩, fun y => ?_, fun y => ?_⟩
      · rw [g21] at y; exact absurd y (by simp [tk_k])
      · rw [g21] at y; exact absurd y (by simp [tk_k])
  have l0 : ∀ (m : Nat) (u : ck_W), w 76 16 - u 76 19 ≤ m → rm_nt w u → (w 76 19 ≤ u 76 19 ∧ u 76 19 ≤ w 76 16) → (∀ k, w 76 19 ≤ k → k < u 76 19 → lx_bl (b k)) → 0 ≤ u 76 22 → ck_At (ch_C g A R) (d + 2) mX12_nextToken K 0 [some (.inr (.inr 76)), none, none] [] u := by
    intro m
    induction m with
    | zero =>
      intro u q1 q2 q3 qk q5
      have e16 := q2.2 16 (by omega)
      have e := hb u q2 (by omega)
      have t := tbb (u 76 19)
      have nd : ¬ lx_bl (b (u 76 19)) := by unfold lx_bl; omega
      refine r_X12_nextToken_0 hC ?_
      rw [e]
      exact ⟨by omega, fun z => absurd (Or.inl z) nd, fun _ => ⟨fun _ => l39 u q2 q3 ⟨q3.1, qk, nd⟩ q5, fun z => absurd (Or.inr z) nd⟩⟩
    | succ m ih =>
      intro u q1 q2 q3 qk q5
      have e16 := q2.2 16 (by omega)
      have e := hb u q2 (by omega)
      have t := tbb (u 76 19)
      refine r_X12_nextToken_0 hC ?_
      rw [e]
      have nx : lx_bl (b (u 76 19)) → ck_i (u 76 19 + 1) ∧ ck_At (ch_C g A R) (d + 2) mX12_nextToken K 0 [some (.inr (.inr 76)), none, none] [] (ck_up u 76 19 (u 76 19 + 1)) := fun z => by
        have zd := z
        unfold lx_bl at zd
        refine ⟨by constructor <;> omega, ih _ (by rw [ck_up_eq]; omega) (rm_nt_up q2 (by omega) (by omega)) (by rw [ck_up_eq]; omega) (fun k k0 k1 => ?_) (by rw [ck_up_nj (by decide)]; exact q5)⟩
        rw [ck_up_eq] at k1
        by_cases x : k = u 76 19
        · rw [x]; exact z
        · exact qk k k0 (by omega)
      exact ⟨by omega, fun z => nx (Or.inl z), fun y => ⟨fun z => l39 u q2 q3 ⟨q3.1, qk, fun x => by unfold lx_bl at x; omega⟩ q5, fun z => nx (Or.inr z)⟩⟩
  exact e_X12_nextToken hC (l0 (w 76 16).toNat w (by omega) rm_nt_rf (by omega) (fun k k0 k1 => by omega) hn)
