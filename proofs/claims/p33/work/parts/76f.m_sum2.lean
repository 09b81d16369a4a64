/-! ===== the reference's sums: the machine of 76a ===== -/
def pcv (o : Int) : Int := if o = 2 then 22 else if o = 40 then 19 else o + 12
def scv (o v : Int) : Int := if o = 0 then v else if o = 1 then 10000 + v else if o = 2 then 20022 else if o ≤ 6 then 20012 + o else if o ≤ 15 then 19999 + o else 20028 - o
/-- brackets in a pile -/
def pl_pa (p : Int → Int) : Nat → Int
  | 0 => 0
  | k + 1 => pl_pa p k + (if p (k : Int) = 40 then 1 else 0)
theorem pl_pac {p p' : Int → Int} : ∀ {n : Nat}, (∀ k : Nat, k < n → p' (k : Int) = p (k : Int)) → pl_pa p' n = pl_pa p n
  | 0, _ => rfl
  | n + 1, h => by rw [pl_pa, pl_pa, pl_pac (n := n) (fun k hk => h k (by omega)), h n (by omega)]
theorem pl_pa0 (p : Int → Int) : ∀ n : Nat, 0 ≤ pl_pa p n
  | 0 => by simp [pl_pa]
  | n + 1 => by
    have := pl_pa0 p n
    rw [pl_pa]
    split <;> omega
theorem pl_pap {p : Int → Int} {k : Int} (hk : 0 ≤ k) (hp : p k = 40) : ∀ n : Nat, k < n → 0 < pl_pa p n
  | 0, h => by omega
  | n + 1, h => by
    have z := pl_pa0 p n
    rw [pl_pa]
    by_cases x : k = n
    · rw [← x, hp, if_pos rfl]; omega
    · have := pl_pap hk hp n (by omega)
      split <;> omega
theorem pl_pan {p : Int → Int} : ∀ n : Nat, 0 < pl_pa p n → ∃ k, 0 ≤ k ∧ k < (n : Int) ∧ p k = 40
  | 0, h => by simp [pl_pa] at h
  | n + 1, h => by
    rw [pl_pa] at h
    by_cases x : p (n : Int) = 40
    · exact ⟨n, by omega, by omega, x⟩
    · rw [if_neg x] at h
      obtain ⟨k, k0, k1, k2⟩ := pl_pan (p := p) n (by omega)
      exact ⟨k, k0, by omega, k2⟩
/-- no sign of two numbers stands upon a sign of one -/
def pl_n (p : Int → Int) (n : Int) : Prop := ∀ k, 0 ≤ k → k + 1 < n → p k = 2 → ¬ (3 ≤ p (k + 1) ∧ p (k + 1) ≤ 6)
/-- strictly: truths are worked on where no number waits, and two numbers alone are compared -/
def tx_ef2 (o v : Int) (s : Int × Int) : Option (Int × Int) := if (20 ≤ o ∧ ¬ s.1 = 0) ∨ (10 ≤ o ∧ o < 20 ∧ ¬ s.1 = 2) then none else tx_eff o v s
def tx_s2 (t : Int → Int) (c s : Int) : Nat → Option (Int × Int)
  | 0 => some (0, 0)
  | q + 1 => (tx_s2 t c s q).bind (tx_ef2 (t (c + 2 * (s + q))) (t (c + 2 * (s + q) + 1)))
theorem tx_c2 {t t' : Int → Int} {c s : Int} : ∀ {q : Nat}, (∀ j, c + 2 * s ≤ j → j < c + 2 * (s + q) → t' j = t j) → tx_s2 t' c s q = tx_s2 t c s q
  | 0, _ => rfl
  | q + 1, h => by
    rw [tx_s2, tx_s2, tx_c2 (t := t) (t' := t') (q := q) (fun j a b => h j a (by omega)), h _ (by omega) (by omega), h _ (by omega) (by omega)]
theorem tx_emit2 {t : Int → Int} {c s wr o v : Int} (h : s ≤ wr) : tx_s2 (rm_u (rm_u t (c + 2 * wr) o) (c + 2 * wr + 1) v) c s (wr + 1 - s).toNat = (tx_s2 t c s (wr - s).toNat).bind (tx_ef2 o v) := by
  rw [show (wr + 1 - s).toNat = (wr - s).toNat + 1 by omega, tx_s2, show s + ((wr - s).toNat : Int) = wr by omega, rm_u_eq, rm_u_ne (by omega), rm_u_eq]
  rw [tx_c2 (t := t) (fun j a b => by rw [rm_u_ne (by omega), rm_u_ne (by omega)])]
def sq (f : Int) (u : ck_W) : Prop := tx_s2 (u 79) (u 76 24 + 50) f (u 76 26 - f).toNat = tx_st (u 79) (u 76 24 + 50) f (u 76 26 - f).toNat
theorem sq_emit {f o v : Int} {u u' : ck_W} (h : sq f u) (hf : f ≤ u 76 26) (h24 : u' 76 24 = u 76 24) (h26 : u' 76 26 = u 76 26 + 1) (h79 : u' 79 = rm_u (rm_u (u 79) (u 76 24 + 50 + 2 * u 76 26) o) (u 76 24 + 50 + 2 * u 76 26 + 1) v) (hs : o < 10 ∨ ∃ n m, tx_st (u 79) (u 76 24 + 50) f (u 76 26 - f).toNat = some (n, m) ∧ ((20 ≤ o ∧ n = 0) ∨ (10 ≤ o ∧ o < 20 ∧ n = 2))) : sq f u' := by
  unfold sq at h ⊢
  rw [h24, h26, h79, tx_emit (t := u 79) (c := u 76 24 + 50) (s := f) (wr := u 76 26) (o := o) (v := v) hf, tx_emit2 (t := u 79) (c := u 76 24 + 50) (s := f) (wr := u 76 26) (o := o) (v := v) hf, h]
  rcases hs with hs | ⟨n, m, hs, hn⟩
  · have e : tx_ef2 o v = tx_eff o v := by
      funext x
      unfold tx_ef2
      rw [if_neg (by omega)]
    rw [e]
  · rw [hs]
    show tx_ef2 o v (n, m) = tx_eff o v (n, m)
    unfold tx_ef2
    rw [if_neg (by dsimp only; omega)]
/-- the code so far: kk clauses ahead; this one's steps from f on -/
def pk (kk f : Int) (Z : Int → Int) (s u : ck_W) : Prop := s 0 4 = kk + u 76 26 ∧ (∀ j, 0 ≤ j → j < kk + f → s 2 j = Z j) ∧ (∀ i, f ≤ i → i < u 76 26 → (s 2 (kk + i) = scv (u 79 (u 76 24 + 50 + 2 * i)) (u 79 (u 76 24 + 50 + 2 * i + 1)))) ∧ sq f u
def pqr (kk f B : Int) (L Z : Int → Int) (s u : ck_W) : Prop := s 0 16 = B + u 76 29 ∧ (∀ i, 0 ≤ i → i < B → s 1 i = L i) ∧ (∀ k, 0 ≤ k → k < u 76 29 → s 1 (B + k) = pcv (u 90 k)) ∧ pk kk f Z s u
def pq (kk f B : Int) (L Z : Int → Int) (cm cl : Int) (s u : ck_W) : Prop := (s 0 10 = cm ∧ s 0 11 = cl ∧ s 0 12 = kk + 1) ∧ (s 0 13 = u 76 30 ∧ s 0 14 = pl_pa (u 90) (u 76 29).toNat) ∧ pqr kk f B L Z s u
theorem pk_s {kk f : Int} {Z : Int → Int} {s s' u : ck_W} (h : pk kk f Z s u) (e4 : s' 0 4 = s 0 4) (e2 : s' 2 = s 2) : pk kk f Z s' u := by
  unfold pk
  rw [e4, e2]
  exact h
theorem pk_u {kk f : Int} {Z : Int → Int} {s u u' : ck_W} (h : pk kk f Z s u) (e24 : u' 76 24 = u 76 24) (e26 : u' 76 26 = u 76 26) (e79 : u' 79 = u 79) : pk kk f Z s u' := by
  unfold pk sq
  rw [e24, e26, e79]
  exact h
theorem pk_emit {kk f o v c : Int} {Z : Int → Int} {s u u' : ck_W} (h : pk kk f Z s u) (hb : kk + u 76 26 < 300) (hf : f ≤ u 76 26) (h24 : u' 76 24 = u 76 24) (h26 : u' 76 26 = u 76 26 + 1) (h79 : u' 79 = rm_u (rm_u (u 79) (u 76 24 + 50 + 2 * u 76 26) o) (u 76 24 + 50 + 2 * u 76 26 + 1) v) (he : c = scv o v) (hs : o < 10 ∨ ∃ n m, tx_st (u 79) (u 76 24 + 50) f (u 76 26 - f).toNat = some (n, m) ∧ ((20 ≤ o ∧ n = 0) ∨ (10 ≤ o ∧ o < 20 ∧ n = 2))) : pk kk f Z (p_emit s c) u' := by
  obtain ⟨h1, h2, h3, h4⟩ := h
  unfold p_emit
  rw [if_pos (by omega)]
  refine ⟨by rw [ck_up_eq, h26]; omega, fun j j0 j1 => ?_, fun i i0 i1 => ?_, sq_emit h4 hf h24 h26 h79 hs⟩
  · rw [ck_up_ne (by decide), ck_up_nj (by omega)]; exact h2 j j0 j1
  · rw [ck_up_ne (by decide), ck_up_at, h24, h79]
    by_cases x : i = u 76 26
    · rw [if_pos (by omega), x, rm_u_ne (by omega), rm_u_eq, rm_u_eq]; exact he
    · rw [if_neg (by omega), rm_u_ne (by omega), rm_u_ne (by omega), rm_u_ne (by omega), rm_u_ne (by omega)]; exact h3 i i0 (by omega)
theorem pqr_u {kk f B : Int} {L Z : Int → Int} {s u u' : ck_W} (h : pqr kk f B L Z s u) (e24 : u' 76 24 = u 76 24) (e26 : u' 76 26 = u 76 26) (e29 : u' 76 29 = u 76 29) (e79 : u' 79 = u 79) (e90 : u' 90 = u 90) : pqr kk f B L Z s u' := by
  refine ⟨by rw [e29]; exact h.1, h.2.1, by rw [e29, e90]; exact h.2.2.1, pk_u h.2.2.2 e24 e26 e79⟩
theorem pq_u {kk f B cm cl : Int} {L Z : Int → Int} {s u u' : ck_W} (h : pq kk f B L Z cm cl s u) (e24 : u' 76 24 = u 76 24) (e26 : u' 76 26 = u 76 26) (e29 : u' 76 29 = u 76 29) (e30 : u' 76 30 = u 76 30) (e79 : u' 79 = u 79) (e90 : u' 90 = u 90) : pq kk f B L Z cm cl s u' :=
  ⟨h.1, by rw [e29, e30, e90]; exact h.2.1, pqr_u h.2.2 e24 e26 e29 e79 e90⟩
theorem pqr_s {kk f B : Int} {L Z : Int → Int} {s s' u : ck_W} (h : pqr kk f B L Z s u) (e4 : s' 0 4 = s 0 4) (e16 : s' 0 16 = s 0 16) (e1 : s' 1 = s 1) (e2 : s' 2 = s 2) : pqr kk f B L Z s' u :=
  ⟨by rw [e16]; exact h.1, by rw [e1]; exact h.2.1, by rw [e1]; exact h.2.2.1, pk_s h.2.2.2 e4 e2⟩
/-- a step is written -/
theorem pqr_emit {kk f B o v c : Int} {L Z : Int → Int} {s u u' : ck_W} (h : pqr kk f B L Z s u) (hb : kk + u 76 26 < 300) (hf : f ≤ u 76 26) (h24 : u' 76 24 = u 76 24) (h26 : u' 76 26 = u 76 26 + 1) (e29 : u' 76 29 = u 76 29) (h79 : u' 79 = rm_u (rm_u (u 79) (u 76 24 + 50 + 2 * u 76 26) o) (u 76 24 + 50 + 2 * u 76 26 + 1) v) (e90 : u' 90 = u 90) (he : c = scv o v) (h20 : o < 10) : pqr kk f B L Z (p_emit s c) u' :=
  ⟨by rw [p_emit_0 (by decide), e29]; exact h.1, by rw [p_emit_1]; exact h.2.1, by rw [p_emit_1, e29, e90]; exact h.2.2.1, pk_emit h.2.2.2 hb hf h24 h26 h79 he (Or.inl h20)⟩
/-- one more in the pile -/
theorem pqr_push {kk f B o c : Int} {L Z : Int → Int} {s u u' : ck_W} (h : pqr kk f B L Z s u) (hB : 0 ≤ B) (h0 : 0 ≤ u 76 29) (hb : B + u 76 29 ≤ 63) (e24 : u' 76 24 = u 76 24) (e26 : u' 76 26 = u 76 26) (e29 : u' 76 29 = u 76 29 + 1) (e79 : u' 79 = u 79) (e90 : u' 90 = rm_u (u 90) (u 76 29) o) (he : c = pcv o) : pqr kk f B L Z (p_push s c) u' := by
  obtain ⟨h1, h2, h3, h4⟩ := h
  have k4 := pk_u h4 e24 e26 e79
  unfold p_push
  rw [if_pos (by omega)]
  refine ⟨by rw [ck_up_eq, e29]; omega, fun i i0 i1 => ?_, fun k k0 k1 => ?_, pk_s k4 (by simp [ck_up]) (by simp [ck_up])⟩
  · rw [ck_up_ne (by decide), ck_up_nj (by omega)]; exact h2 i i0 i1
  · rw [ck_up_ne (by decide), ck_up_at, e90]
    by_cases x : k = u 76 29
    · rw [if_pos (by omega), x, rm_u_eq]; exact he
    · rw [if_neg (by omega), rm_u_ne (by omega)]; exact h3 k k0 (by omega)
theorem rk_pcv {o : Int} (h : 2 ≤ o ∧ o ≤ 6) : ¬ pcv o = 19 ∧ rk (pcv o) = (if o = 2 then 7 else if o ≤ 4 then 5 else 6) ∧ 20000 + pcv o = scv o 0 ∧ ((pcv o = 8 ∨ pcv o = 22) ↔ o = 2) := by
  have c : o = 2 ∨ o = 3 ∨ o = 4 ∨ o = 5 ∨ o = 6 := by omega
  rcases c with e | e | e | e | e <;> subst e <;> decide
/-- the topmost of the pile is written -/
theorem pq_pop {kk f B cm cl o : Int} {L Z : Int → Int} {s u u' : ck_W} (h : pq kk f B L Z cm cl s u) (hf : f ≤ u 76 26) (h29 : 0 < u 76 29) (ho : u 90 (u 76 29 - 1) = o) (ho2 : 2 ≤ o ∧ o ≤ 6) (hb : kk + u 76 26 < 300) (e24 : u' 76 24 = u 76 24) (e26 : u' 76 26 = u 76 26 + 1) (e29 : u' 76 29 = u 76 29 - 1) (e30 : u' 76 30 = u 76 30 - (if o = 2 then 1 else 0)) (e79 : u' 79 = rm_u (rm_u (u 79) (u 76 24 + 50 + 2 * u 76 26) o) (u 76 24 + 50 + 2 * u 76 26 + 1) 0) (e90 : u' 90 = u 90) :
    pq kk f B L Z cm cl (p_pop s (s 0 16 - 1)) u' ∧ s 1 (s 0 16 - 1) = pcv o := by
  obtain ⟨⟨h1, h2, h3⟩, ⟨h4, h5⟩, h6, h7, h8, h9⟩ := h
  have top : s 1 (s 0 16 - 1) = pcv o := by rw [h6, show B + u 76 29 - 1 = B + (u 76 29 - 1) by omega, h8 _ (by omega) (by omega), ho]
  have r := rk_pcv ho2
  refine ⟨⟨⟨?_, ?_, ?_⟩, ⟨?_, ?_⟩, ?_, ?_, ?_, ?_⟩, top⟩
  · rw [p_pop_0 (by decide) (by decide) (by decide)]; exact h1
  · rw [p_pop_0 (by decide) (by decide) (by decide)]; exact h2
  · rw [p_pop_0 (by decide) (by decide) (by decide)]; exact h3
  · unfold p_pop p_less
    rw [ck_up_nj (by decide), p_emit_0 (by decide), top, e30]
    by_cases x : o = 2
    · rw [if_pos (r.2.2.2.mpr x), ck_up_eq, if_pos x, h4]
    · rw [if_neg (fun y => x (r.2.2.2.mp y)), if_neg x, h4]; omega
  · rw [p_pop_0 (by decide) (by decide) (by decide), h5, e90, e29]
    rw [show (u 76 29).toNat = (u 76 29 - 1).toNat + 1 by omega, pl_pa, show (((u 76 29 - 1).toNat : Nat) : Int) = u 76 29 - 1 by omega, ho, if_neg (by omega)]
    omega
  · rw [p_pop_16, h6, e29]; omega
  · rw [p_pop_1]; exact h7
  · rw [p_pop_1, e29, e90]; exact fun k k0 k1 => h8 k k0 (by omega)
  · unfold p_pop
    refine pk_s (s := p_emit (p_less s (s 1 (s 0 16 - 1))) (20000 + s 1 (s 0 16 - 1))) (pk_emit (o := o) (v := 0) (pk_s h9 (p_less_0 (by decide)) (p_less_k (by decide))) hb hf e24 e26 e79 ?_ (Or.inl (by omega))) (ck_up_nj (by decide)) (ck_up_ne (by decide))
    rw [top]
    exact r.2.2.1
/-- the bytes -/
def tp (b : Int → Int) (u : ck_W) : Prop := b = tb (u 76 16) (u 89) ∧ ∀ j, 0 ≤ j → j < u 76 16 → 0 ≤ u 89 j ∧ u 89 j ≤ 255
theorem tp_c {b : Int → Int} {u u' : ck_W} (h : tp b u) (e16 : u' 76 16 = u 76 16) (e89 : u' 89 = u 89) : tp b u' := by
  unfold tp
  rw [e16, e89]
  exact h
theorem tp_pr {b : Int → Int} {u u' : ck_W} (h : tp b u) (p : pr u u') : tp b u' := tp_c h (p.2.1 16 (by omega)) (p.1 89 (by decide) (by decide) (by decide))
theorem tkn_c {b : Int → Int} {p : Int} {u u' : ck_W} (h : tkn b p u) (e : ∀ j, 19 ≤ j → j ≤ 23 → u' 76 j = u 76 j) : tkn b p u' := by
  unfold tkn
  rw [e 19 (by decide) (by decide), e 20 (by decide) (by decide), e 21 (by decide) (by decide), e 22 (by decide) (by decide), e 23 (by decide) (by decide)]
  exact h
theorem S2_next {g : ch_G} {A R : Nat} (hC : ck_Cx g A R) {d : Nat} {K : Option ck_V → ck_W → Prop} {w : ck_W} {b : Int → Int} {T X s E N n m : Int} (hT : 0 ≤ T ∧ T ≤ 300) (hB : tp b w) (hz : pz1 T X s E N n m w) (h : ∀ w', pr w w' → (∀ j, j < 19 ∨ 24 ≤ j → w' 76 j = w 76 j) → (∀ k, k ≠ 76 → w' k = w k) → pz T X s E N n m w' → w 76 20 < w' 76 20 → tkn b (w 76 19) w' → K none w') : ck_Ex (ch_C g A R) (d + 2) mX12_nextToken [.inr (.inr 76)] w K := by
  obtain ⟨h1, h3, h4, h5, h6, h7, h8, h9, h10, h11⟩ := hz
  refine S2_X12_nextToken hC (by omega) (by omega) h3 hB.2 (fun u i1 i2 i3 i4 i5 => h u (pr_nt i1 i4) i1.2 i1.1 ⟨?_, i3, i4, ?_, ?_, ?_, ?_, ?_, ?_, ?_, ?_⟩ (by omega) (by rw [hB.1]; exact i5))
  · rw [h4.1] at i2; omega
  · rw [i1.2 16 (by omega), i1.2 24 (by omega)]; exact h4
  · rw [i1.2 26 (by omega)]; exact h5
  · rw [i1.2 29 (by omega)]; exact h6
  · rw [i1.2 26 (by omega), i1.2 29 (by omega)]; omega
  · rw [i1.2 29 (by omega), i1.1 90 (by decide)]; exact h8
  · rw [i1.2 29 (by omega), i1.2 30 (by omega), i1.1 90 (by decide)]; exact h9
  · rw [i1.2 31 (by omega)]; exact h10
  · rw [i1.2 26 (by omega), i1.2 29 (by omega), i1.2 31 (by omega), i1.1 90 (by decide), i1.1 79 (by decide)]; exact h11
/-- the pile's own bottom: what stands below a sum -/
def pL (B : Int) (L : Int → Int) : Prop := (0 ≤ B ∧ B ≤ 12) ∧ ∀ i, 0 ≤ i → i < B → ¬ L i = 19 ∧ rk (L i) ≤ 4
theorem pq_st {kk f B cm cl r : Int} {L Z : Int → Int} {s u : ck_W} (h : pq kk f B L Z cm cl s u) (hL : pL B L) (hr : 4 < r) (h0 : 0 ≤ u 76 29) (ht : u 76 29 ≤ 0 ∨ u 90 (u 76 29 - 1) = 40 ∨ rk (pcv (u 90 (u 76 29 - 1))) < r) : p_U s r = s := by
  have h6 := h.2.2.1
  have h7 := h.2.2.2.1
  have h8 := h.2.2.2.2.1
  refine p_Ust ?_
  by_cases x : u 76 29 ≤ 0
  · by_cases y : B ≤ 0
    · exact Or.inl (by omega)
    · have l := hL.2 (B - 1) (by omega) (by omega)
      rw [show s 0 16 - 1 = B - 1 by omega, h7 _ (by omega) (by omega)]
      exact Or.inr (Or.inr (by omega))
  · rw [show s 0 16 - 1 = B + (u 76 29 - 1) by omega, h8 _ (by omega) (by omega)]
    rcases ht with t | t | t
    · exact absurd t x
    · rw [t]; exact Or.inr (Or.inl (by decide))
    · exact Or.inr (Or.inr t)
theorem L2_X12_whole {g : ch_G} {A R : Nat} (hC : ck_Cx g A R) {d : Nat} {K : Option ck_V → ck_W → Prop} {w : ck_W} {T X f E N n m kk B cm cl : Int} {L Z : Int → Int} {s : ck_W} (hT : 0 ≤ T ∧ T ≤ 300) (hX : 0 ≤ X ∧ X ≤ 2400) (hE : 0 ≤ kk ∧ kk ≤ E) (hN : 0 ≤ N) (hn : 0 ≤ n) (hL : pL B L) (q : Nat) (hq : w 76 29 ≤ q) (hz : pz T X f E N n m w) (h31 : w 76 31 = 1) (hQ : pq kk f B L Z cm cl s w)
    (h : ∀ w', pr w w' → (∀ j, j < 26 → w' 76 j = w 76 j) → pz T X f E N n m w' → w' 76 31 = 1 → w' 90 = w 90 → w' 76 29 ≤ w 76 29 → pq kk f B L Z cm cl (p_U s 7) w' → (w' 76 29 ≤ 0 ∨ ¬ w' 90 (w' 76 29 - 1) = 2) → K none w') : ck_At (ch_C g A R) (d + 1) mX12_whole K 5 [some (.inr (.inr 76))] [] w := by
  induction q generalizing w s with
  | zero =>
    obtain ⟨h1, h2, h3, h4, h5, h6, h7, h8, h9, h10, h11⟩ := id hz
    have st : p_U s 7 = s := pq_st hQ hL (by decide) h6 (Or.inl (by omega))
    exact r_X12_whole_5 hC ⟨fun x => h w pr_rf (fun _ _ => rfl) hz h31 rfl (Int.le_refl _) (by rw [st]; exact hQ) (Or.inl x), fun z => absurd (by omega) z⟩
  | succ q ih =>
    obtain ⟨h1, h2, h3, h4, h5, h6, h7, h8, h9, h10, h11⟩ := id hz
    have pb := pz_piled hz hN
    refine r_X12_whole_5 hC ⟨fun x => h w pr_rf (fun _ _ => rfl) hz h31 rfl (Int.le_refl _) (by rw [pq_st hQ hL (by decide) h6 (Or.inl x)]; exact hQ) (Or.inl x), fun z => ⟨by omega, fun y => ?_, fun y => ⟨by constructor <;> omega, by have := pl_op0 (w 90) (w 76 29).toNat; constructor <;> omega, ?_⟩⟩⟩
    · have ty := h8.1 (w 76 29 - 1).toNat (by omega)
      rw [show (((w 76 29 - 1).toNat : Nat) : Int) = w 76 29 - 1 by omega] at ty
      refine h w pr_rf (fun _ _ => rfl) hz h31 rfl (Int.le_refl _) ?_ (Or.inr y)
      have st : p_U s 7 = s := by
        refine pq_st hQ hL (by decide) h6 (Or.inr ?_)
        by_cases x : w 90 (w 76 29 - 1) = 40
        · exact Or.inl x
        · have r := rk_pcv (o := w 90 (w 76 29 - 1)) (by omega)
          rw [r.2.1, if_neg y]
          refine Or.inr ?_
          split <;> omega
      rw [st]; exact hQ
    -- the world handed to emit
    have p1 : pr w (ck_up (ck_up w 76 29 (w 76 29 - 1)) 76 30 (w 76 30 - 1)) := pr_tr (pr_up (i := 29) (v := w 76 29 - 1) (by omega) (by omega) (by omega)) (pr_up (i := 30) (v := w 76 30 - 1) (by omega) (by omega) (by omega))
    have f24 : (ck_up (ck_up w 76 29 (w 76 29 - 1)) 76 30 (w 76 30 - 1)) 76 24 = w 76 24 := by rw [ck_up_nj (by decide), ck_up_nj (by decide)]
    have f26 : (ck_up (ck_up w 76 29 (w 76 29 - 1)) 76 30 (w 76 30 - 1)) 76 26 = w 76 26 := by rw [ck_up_nj (by decide), ck_up_nj (by decide)]
    refine S_X12_emit hC (by rw [f24]; omega) (by rw [f26]; omega) (fun u b1 b2 b3 b4 b5 => ⟨rfl, ?_⟩)
    rw [f24, f26] at b5
    rw [f26] at b4
    have g : ∀ j, j ≠ 26 → j ≠ 29 → j ≠ 30 → u 76 j = w 76 j := fun j x y z => by rw [b3 j x, ck_up_nj z, ck_up_nj y]
    have g29 : u 76 29 = w 76 29 - 1 := by rw [b3 29 (by decide), ck_up_nj (by decide), ck_up_eq]
    have g30 : u 76 30 = w 76 30 - 1 := by rw [b3 30 (by decide), ck_up_eq]
    have g90 : u 90 = w 90 := by rw [b2 90 (by decide) (by decide)]; rfl
    have b5' : u 79 = rm_u (rm_u (w 79) (w 76 24 + 50 + 2 * w 76 26) 2) (w 76 24 + 50 + 2 * w 76 26 + 1) 0 := b5
    have e1 : (w 76 29).toNat = (w 76 29 - 1).toNat + 1 := by omega
    have k1 : (((w 76 29 - 1).toNat : Nat) : Int) = w 76 29 - 1 := by omega
    have opn : pl_op (w 90) (w 76 29).toNat = pl_op (w 90) (w 76 29 - 1).toNat + 1 := by rw [e1, pl_op, k1, y]; rfl
    have bin : pl_b (w 90) (w 76 29).toNat = pl_b (w 90) (w 76 29 - 1).toNat := by rw [e1, pl_b, k1, y]; simp
    have pop := pq_pop (u' := u) hQ h5.2 (by omega) y (by decide) (by omega) (g 24 (by decide) (by decide) (by decide)) b4 g29 (by rw [g30, if_pos rfl]) b5' g90
    have dp := hQ.2.2.1
    have eU : p_U s 7 = p_U (p_pop s (s 0 16 - 1)) 7 := p_Upo (by have := hL.1; omega) (by rw [pop.2]; decide) (by rw [pop.2]; decide)
    rw [eU] at h
    refine ih (w := u) (s := p_pop s (s 0 16 - 1)) (by omega) ⟨?_, ?_, ?_, ?_, ?_, ?_, ?_, ?_, ?_, ?_, ?_⟩ (by rw [g 31 (by decide) (by decide) (by decide)]; exact h31) pop.1 (fun w' c1 c2 c3 c4 c5 c6 c7 c8 => h w' (pr_tr (pr_tr p1 b1) c1) (fun j hj => by rw [c2 j hj, g j (by omega) (by omega) (by omega)]) c3 c4 (by rw [c5, g90]) (by omega) c7 c8)
    · rw [g 19 (by decide) (by decide) (by decide), g 20 (by decide) (by decide) (by decide)]; exact h1
    · rw [g 19 (by decide) (by decide) (by decide), g 20 (by decide) (by decide) (by decide), g 21 (by decide) (by decide) (by decide)]; exact h2
    · rw [g 22 (by decide) (by decide) (by decide)]; exact h3
    · rw [g 16 (by decide) (by decide) (by decide), g 24 (by decide) (by decide) (by decide)]; exact h4
    · rw [b4]; omega
    · omega
    · rw [b4, g29, g 20 (by decide) (by decide) (by decide)]; omega
    · rw [g90, g29]; rw [e1] at h8; exact pl_ok_pop h8
    · rw [g90, g29, g30]; omega
    · rw [g 31 (by decide) (by decide) (by decide)]; exact h10
    · have te := tx_emit (t := w 79) (c := X + 50) (s := f) (wr := w 76 26) (o := 2) (v := 0) h5.2
      rw [b5', b4, h4.2, g90, g29, g 31 (by decide) (by decide) (by decide), te, h11, ← bin]
      show tx_eff 2 0 (n + pl_b (w 90) (w 76 29).toNat + w 76 31, m) = _
      have b0 := pl_b0 (w 90) (w 76 29).toNat
      unfold tx_eff
      rw [if_neg (by decide), if_neg (by decide), if_pos rfl, if_pos (by dsimp only; omega)]
theorem L2_X12_settle {g : ch_G} {A R : Nat} (hC : ck_Cx g A R) {d : Nat} {K : Option ck_V → ck_W → Prop} {w : ck_W} {T X f E N n m a1 kk B cm cl : Int} {L Z : Int → Int} {s : ck_W} (hT : 0 ≤ T ∧ T ≤ 300) (hX : 0 ≤ X ∧ X ≤ 2400) (hE : 0 ≤ kk ∧ kk ≤ E) (hN : 0 ≤ N) (hn : 0 ≤ n) (hL : pL B L) (h1 : a1 = 3 ∨ a1 = 5) (q : Nat) (hq : w 76 29 ≤ q) (hz : pz T X f E N n m w) (h31 : w 76 31 = 1) (hQ : pq kk f B L Z cm cl s w) (hP : pl_n (w 90) (w 76 29)) (hP2 : w 76 29 ≤ 0 ∨ ¬ w 90 (w 76 29 - 1) = 2)
    (h : ∀ w' s', pr w w' → (∀ j, j ≠ 26 → j ≠ 29 → w' 76 j = w 76 j) → w' 90 = w 90 → w' 76 29 ≤ w 76 29 → (∀ k, 0 ≤ k → k < w 76 29 → w 90 k = 40 → k < w' 76 29) → (w' 76 29 ≤ 0 ∨ 40 ≤ w 90 (w' 76 29 - 1) ∨ w 90 (w' 76 29 - 1) < a1) → pz T X f E N n m w' → pq kk f B L Z cm cl s' w' → (∀ r, r ≤ (if a1 = 3 then 5 else 6) → p_U s' r = p_U s r) → (w' 76 29 ≤ 0 ∨ ¬ w 90 (w' 76 29 - 1) = 2) → K none w') : ck_At (ch_C g A R) (d + 1) mX12_settle K 0 [some (.inr (.inr 76)), some (.inl a1)] [] w := by
  induction q generalizing w s with
  | zero => exact r_X12_settle_0 hC ⟨fun z => h w s pr_rf (fun _ _ _ => rfl) rfl (Int.le_refl _) (fun _ _ a _ => a) (Or.inl z) hz hQ (fun _ _ => rfl) hP2, fun z => absurd (by omega) z⟩
  | succ q ih =>
    obtain ⟨h1', h2, h3, h4, h5, h6, h7, h8, h9, h10, h11⟩ := id hz
    have pb := pz_piled hz hN
    refine r_X12_settle_0 hC ⟨fun z => h w s pr_rf (fun _ _ _ => rfl) rfl (Int.le_refl _) (fun _ _ a _ => a) (Or.inl z) hz hQ (fun _ _ => rfl) hP2, fun z => ⟨by omega, fun y => h w s pr_rf (fun _ _ _ => rfl) rfl (Int.le_refl _) (fun _ _ a _ => a) (Or.inr (Or.inl y)) hz hQ (fun _ _ => rfl) hP2, fun y => ⟨fun y2 => h w s pr_rf (fun _ _ _ => rfl) rfl (Int.le_refl _) (fun _ _ a _ => a) (Or.inr (Or.inr y2)) hz hQ (fun _ _ => rfl) hP2, fun y2 => ⟨by constructor <;> omega, ?_⟩⟩⟩⟩
    have p1 : pr w (ck_up w 76 29 (w 76 29 - 1)) := pr_up (by omega) (by omega) (by omega)
    have f24 : (ck_up w 76 29 (w 76 29 - 1)) 76 24 = w 76 24 := by rw [ck_up_nj (by decide)]
    have f26 : (ck_up w 76 29 (w 76 29 - 1)) 76 26 = w 76 26 := by rw [ck_up_nj (by decide)]
    refine S_X12_emit hC (by rw [f24]; omega) (by rw [f26]; omega) (fun u b1 b2 b3 b4 b5 => ⟨rfl, ?_⟩)
    rw [f24, f26] at b5
    rw [f26] at b4
    have g : ∀ j, j ≠ 26 → j ≠ 29 → u 76 j = w 76 j := fun j x y => by rw [b3 j x, ck_up_nj y]
    have g29 : u 76 29 = w 76 29 - 1 := by rw [b3 29 (by decide), ck_up_eq]
    have g90 : u 90 = w 90 := by rw [b2 90 (by decide) (by decide)]; rfl
    have b5' : u 79 = rm_u (rm_u (w 79) (w 76 24 + 50 + 2 * w 76 26) (w 90 (w 76 29 - 1))) (w 76 24 + 50 + 2 * w 76 26 + 1) 0 := b5
    have e1 : (w 76 29).toNat = (w 76 29 - 1).toNat + 1 := by omega
    have k1 : (((w 76 29 - 1).toNat : Nat) : Int) = w 76 29 - 1 := by omega
    have ty := h8.1 (w 76 29 - 1).toNat (by omega)
    rw [k1] at ty
    have opn : pl_op (w 90) (w 76 29).toNat = pl_op (w 90) (w 76 29 - 1).toNat := by rw [e1, pl_op, k1, if_neg (by omega)]; omega
    have bin : pl_b (w 90) (w 76 29).toNat = pl_b (w 90) (w 76 29 - 1).toNat + 1 := by rw [e1, pl_b, k1, if_pos (by omega)]
    have pop := pq_pop (u' := u) hQ h5.2 (by omega) rfl (by omega) (by omega) (g 24 (by decide) (by decide)) b4 g29 (by rw [g 30 (by decide) (by decide), if_neg (by omega)]; omega) b5' g90
    have rp := rk_pcv (o := w 90 (w 76 29 - 1)) (by omega)
    have eU : ∀ r, r ≤ (if a1 = 3 then 5 else 6) → p_U (p_pop s (s 0 16 - 1)) r = p_U s r := fun r hr => by
      refine (p_Upo (by have := hQ.2.2.1; have := hL.1; omega) (by rw [pop.2]; exact rp.1) ?_).symm
      rw [pop.2, rp.2.1, if_neg (by omega)]
      rcases h1 with e | e
      · rw [if_pos e] at hr
        split <;> omega
      · rw [if_neg (by omega)] at hr
        rw [if_neg (by omega)]
        omega
    have hP2' : u 76 29 ≤ 0 ∨ ¬ u 90 (u 76 29 - 1) = 2 := by
      rw [g29, g90]
      by_cases x : w 76 29 - 1 ≤ 0
      · exact Or.inl x
      · refine Or.inr (fun x2 => hP (w 76 29 - 1 - 1) (by omega) (by omega) x2 ?_)
        rw [show w 76 29 - 1 - 1 + 1 = w 76 29 - 1 by omega]
        omega
    refine ih (w := u) (s := p_pop s (s 0 16 - 1)) (by omega) ⟨?_, ?_, ?_, ?_, ?_, ?_, ?_, ?_, ?_, ?_, ?_⟩ (by rw [g 31 (by decide) (by decide)]; exact h31) pop.1 (by rw [g90, g29]; exact fun k a c => hP k a (by omega)) hP2' (fun w' s' c1 c2 c3 c4 c5 c6 c7 c8 c9 c10 => h w' s' (pr_tr (pr_tr p1 b1) c1) (fun j x y => by rw [c2 j x y, g j x y]) (by rw [c3, g90]) (by omega) (fun k k0 k2 k3 => c5 k k0 (by
        by_cases x : k = w 76 29 - 1
        · subst x; omega
        · omega) (by rw [g90]; exact k3)) (by rw [g90] at c6; exact c6) c7 c8 (fun r hr => (c9 r hr).trans (eU r hr)) (by rw [g90] at c10; exact c10))
    · rw [g 19 (by decide) (by decide), g 20 (by decide) (by decide)]; exact h1'
    · rw [g 19 (by decide) (by decide), g 20 (by decide) (by decide), g 21 (by decide) (by decide)]; exact h2
    · rw [g 22 (by decide) (by decide)]; exact h3
    · rw [g 16 (by decide) (by decide), g 24 (by decide) (by decide)]; exact h4
    · rw [b4]; omega
    · omega
    · rw [b4, g29, g 20 (by decide) (by decide)]; omega
    · rw [g90, g29]; rw [e1] at h8; exact pl_ok_pop h8
    · rw [g90, g29, g 30 (by decide) (by decide)]; omega
    · rw [g 31 (by decide) (by decide)]; exact h10
    · have te := tx_emit (t := w 79) (c := X + 50) (s := f) (wr := w 76 26) (o := w 90 (w 76 29 - 1)) (v := 0) h5.2
      rw [b5', b4, h4.2, g90, g29, g 31 (by decide) (by decide), te, h11, bin]
      show tx_eff (w 90 (w 76 29 - 1)) 0 (n + (pl_b (w 90) (w 76 29 - 1).toNat + 1) + w 76 31, m) = _
      have b0 := pl_b0 (w 90) (w 76 29 - 1).toNat
      unfold tx_eff
      rw [if_neg (by omega), if_neg (by omega), if_neg (by omega), if_pos (by omega), if_pos (by dsimp only; omega)]
      dsimp only
      rw [show n + (pl_b (w 90) (w 76 29 - 1).toNat + 1) + w 76 31 - 1 = n + pl_b (w 90) (w 76 29 - 1).toNat + w 76 31 by omega]
