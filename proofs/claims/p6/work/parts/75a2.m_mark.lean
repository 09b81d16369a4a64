/-! ===== the reference: which radii best ways have at each place ===== -/
/-- a set of radii, as bits -/
def mzb (R : Nat) (x : Int) (P : Int → Prop) : Prop := (0 ≤ x ∧ x < ((2 ^ R : Nat) : Int)) ∧ ∀ r, 0 ≤ r → r < (R : Int) → (x.toNat.testBit r.toNat = true ↔ P r)
theorem mz_c {R : Nat} {x : Int} {P Q : Int → Prop} (h : mzb R x P) (e : ∀ r, 0 ≤ r → r < (R : Int) → (P r ↔ Q r)) : mzb R x Q := ⟨h.1, fun r a b => (h.2 r a b).trans (e r a b)⟩
theorem mz_0 {R : Nat} {P : Int → Prop} (e : ∀ r, 0 ≤ r → r < (R : Int) → ¬ P r) : mzb R 0 P := by
  have p : 0 < 2 ^ R := Nat.pow_pos (by decide)
  refine ⟨⟨by omega, by omega⟩, fun r a b => ⟨fun z => ?_, fun z => absurd z (e r a b)⟩⟩
  simp at z
theorem mz_or {R : Nat} (hR : R ≤ 12) {x r0 : Int} {P : Int → Prop} (h : mzb R x P) (h0 : 0 ≤ r0) (h1 : r0 < (R : Int)) : mzb R (ck_or x (ck_shl 1 r0)) (fun r => P r ∨ r = r0) := by
  obtain ⟨⟨x0, x1⟩, hb⟩ := h
  obtain ⟨a, rfl⟩ := kb_nat x0
  obtain ⟨k, rfl⟩ := kb_nat h0
  have pR : 2 ^ R ≤ 2 ^ 12 := Nat.pow_le_pow_right (by decide) hR
  have pk : 2 ^ k < 2 ^ R := Nat.pow_lt_pow_right (by decide) (by omega)
  have s : ck_shl 1 (k : Int) = ((2 ^ k : Nat) : Int) := by rw [kb_shl1 (by omega) (by omega)]; simp
  rw [s, kb_or (by omega) (by omega)]
  have lt : a ||| 2 ^ k < 2 ^ R := Nat.or_lt_two_pow (by omega) pk
  refine ⟨⟨by omega, by omega⟩, fun r r0 r1 => ?_⟩
  have q := hb r r0 r1
  rw [Int.toNat_natCast] at q ⊢
  rw [Nat.testBit_or, Nat.testBit_two_pow, Bool.or_eq_true, q, decide_eq_true_iff]
  exact ⟨fun z => z.elim Or.inl (fun y => Or.inr (by omega)), fun z => z.elim Or.inl (fun y => Or.inr (by omega))⟩
/-- the states that best ways come to -/
def mr (R : Nat) (N : Int) (nx : Int → Int → Int → Int → Prop) (I : Int → Int → Prop) : Nat → Int → Int → Prop
  | 0, r, c => I r c
  | p + 1, r, c => ∃ r0 c0 e, ((0 ≤ r0 ∧ r0 < (R : Int)) ∧ (0 ≤ c0 ∧ c0 < N) ∧ -1 ≤ e ∧ e ≤ 1) ∧ mr R N nx I p r0 c0 ∧ nx (p : Int) r0 c0 e ∧ r = r0 + e ∧ c = rm_nc N c0 e
theorem mr_c {R : Nat} {N : Int} {nx nx' : Int → Int → Int → Int → Prop} {I I' : Int → Int → Prop} (hn : ∀ p r c e, 0 ≤ p → 0 ≤ r → r < (R : Int) → 0 ≤ c → c < N → (nx p r c e ↔ nx' p r c e)) (hI : ∀ r c, 0 ≤ r → r < (R : Int) → 0 ≤ c → c < N → (I r c ↔ I' r c)) : ∀ (p : Nat) (r c : Int), 0 ≤ r → r < (R : Int) → 0 ≤ c → c < N → (mr R N nx I p r c ↔ mr R N nx' I' p r c)
  | 0, r, c, a, b, a', b' => hI r c a b a' b'
  | p + 1, r, c, _, _, _, _ => by
    rw [mr, mr]
    constructor
    · rintro ⟨r0, c0, e, g, x, y, z⟩
      exact ⟨r0, c0, e, g, (mr_c hn hI p r0 c0 g.1.1 g.1.2 g.2.1.1 g.2.1.2).mp x, (hn p r0 c0 e (by omega) g.1.1 g.1.2 g.2.1.1 g.2.1.2).mp y, z⟩
    · rintro ⟨r0, c0, e, g, x, y, z⟩
      exact ⟨r0, c0, e, g, (mr_c hn hI p r0 c0 g.1.1 g.1.2 g.2.1.1 g.2.1.2).mpr x, (hn p r0 c0 e (by omega) g.1.1 g.1.2 g.2.1.1 g.2.1.2).mpr y, z⟩
/-- what is marked while place p is gone through -/
def mk (R : Nat) (n a1 N : Int) (nx : Int → Int → Int → Int → Prop) (I : Int → Int → Prop) (u : ck_W) (p : Int) (D : Int → Int → Int → Prop) (E : Int → Int → Prop) : Prop :=
  (∀ q r c, 0 ≤ q → q ≤ p → q < n → 0 ≤ r → r < (R : Int) → 0 ≤ c → c < N → (u 82 (rm_x q r c) ≠ 0 ↔ mr R N nx I q.toNat r c)) ∧
  (∀ r c, p + 1 < n → 0 ≤ r → r < (R : Int) → 0 ≤ c → c < N → (u 82 (rm_x (p + 1) r c) ≠ 0 ↔ ∃ r0 c0 e, ((0 ≤ r0 ∧ r0 < (R : Int)) ∧ (0 ≤ c0 ∧ c0 < N) ∧ -1 ≤ e ∧ e ≤ 1) ∧ D r0 c0 e ∧ mr R N nx I p.toNat r0 c0 ∧ nx p r0 c0 e ∧ r = r0 + e ∧ c = rm_nc N c0 e)) ∧
  (∀ q r c, p + 1 < q → q < n → 0 ≤ r → r < (R : Int) → 0 ≤ c → c < N → u 82 (rm_x q r c) = 0) ∧
  (∀ q, 0 ≤ q → q < p → q < n → mzb R (u 86 (24 * a1 + q)) (fun r => ∃ c, (0 ≤ c ∧ c < N) ∧ mr R N nx I q.toNat r c)) ∧
  (p < n → mzb R (u 86 (24 * a1 + p)) (fun r => ∃ c, (0 ≤ c ∧ c < N) ∧ mr R N nx I p.toNat r c ∧ E r c)) ∧
  (∀ q, p < q → q < n → u 86 (24 * a1 + q) = 0)
theorem mk_c {R : Nat} {n a1 N : Int} {nx : Int → Int → Int → Int → Prop} {I : Int → Int → Prop} {u : ck_W} {p : Int} {D D' : Int → Int → Int → Prop} {E E' : Int → Int → Prop} (h : mk R n a1 N nx I u p D E) (hD : p + 1 < n → ∀ r c e, 0 ≤ r → r < (R : Int) → 0 ≤ c → c < N → -1 ≤ e → e ≤ 1 → mr R N nx I p.toNat r c → nx p r c e → (D r c e ↔ D' r c e)) (hE : ∀ r c, 0 ≤ r → r < (R : Int) → 0 ≤ c → c < N → mr R N nx I p.toNat r c → (E r c ↔ E' r c)) : mk R n a1 N nx I u p D' E' := by
  obtain ⟨m1, m2, m3, s1, s2, s3⟩ := h
  refine ⟨m1, fun r c pn a b a' b' => (m2 r c pn a b a' b').trans ⟨?_, ?_⟩, m3, s1, fun pn => mz_c (s2 pn) (fun r a b => ⟨?_, ?_⟩), s3⟩
  · rintro ⟨r0, c0, e, g, x, y, z, t⟩
    exact ⟨r0, c0, e, g, (hD pn r0 c0 e g.1.1 g.1.2 g.2.1.1 g.2.1.2 g.2.2.1 g.2.2.2 y z).mp x, y, z, t⟩
  · rintro ⟨r0, c0, e, g, x, y, z, t⟩
    exact ⟨r0, c0, e, g, (hD pn r0 c0 e g.1.1 g.1.2 g.2.1.1 g.2.1.2 g.2.2.1 g.2.2.2 y z).mpr x, y, z, t⟩
  · rintro ⟨c, hc, x, y⟩
    exact ⟨c, hc, x, (hE r c a b hc.1 hc.2 x).mp y⟩
  · rintro ⟨c, hc, x, y⟩
    exact ⟨c, hc, x, (hE r c a b hc.1 hc.2 x).mpr y⟩
theorem mk_set {R : Nat} (hR : R ≤ 12) {n a1 N : Int} {nx : Int → Int → Int → Int → Prop} {I : Int → Int → Prop} {u : ck_W} {p : Int} {D : Int → Int → Int → Prop} {E : Int → Int → Prop} (h : mk R n a1 N nx I u p D E) (hp : p < n) {r c : Int} (r0 : 0 ≤ r) (r1 : r < (R : Int)) (c0 : 0 ≤ c) (c1 : c < N) (hm : mr R N nx I p.toNat r c) : mk R n a1 N nx I (ck_up u 86 (24 * a1 + p) (ck_or (u 86 (24 * a1 + p)) (ck_shl 1 r))) p D (fun r' c' => E r' c' ∨ (r' = r ∧ c' = c)) := by
  obtain ⟨m1, m2, m3, s1, s2, s3⟩ := h
  refine ⟨by rw [ck_up_ne (by decide)]; exact m1, by rw [ck_up_ne (by decide)]; exact m2, by rw [ck_up_ne (by decide)]; exact m3, fun q q0 q1 q2 => ?_, fun _ => ?_, fun q q0 q1 => ?_⟩
  · rw [ck_up_nj (by omega)]; exact s1 q q0 q1 q2
  · rw [ck_up_eq]
    refine mz_c (mz_or hR (s2 hp) r0 r1) (fun r' a b => ⟨?_, ?_⟩)
    · rintro (⟨c', hc, x, y⟩ | e)
      · exact ⟨c', hc, x, Or.inl y⟩
      · exact ⟨c, ⟨c0, c1⟩, by rw [e]; exact hm, Or.inr ⟨e, rfl⟩⟩
    · rintro ⟨c', hc, x, y | y⟩
      · exact Or.inl ⟨c', hc, x, y⟩
      · exact Or.inr y.1
  · rw [ck_up_nj (by omega)]; exact s3 q q0 q1
theorem mk_next {R : Nat} (hR : R ≤ 12) {n a1 N : Int} (hN : N ≤ 243) {nx : Int → Int → Int → Int → Prop} {I : Int → Int → Prop} {u : ck_W} {p : Int} {D : Int → Int → Int → Prop} {E : Int → Int → Prop} (h : mk R n a1 N nx I u p D E) (hp : p + 1 < n) {r c e : Int} (r0 : 0 ≤ r) (r1 : r < (R : Int)) (c0 : 0 ≤ c) (c1 : c < N) (e0 : -1 ≤ e) (e1 : e ≤ 1) (hm : mr R N nx I p.toNat r c) (hx : nx p r c e) (t0 : 0 ≤ r + e) (t1 : r + e < (R : Int)) (nb : 0 ≤ rm_nc N c e ∧ rm_nc N c e < N) : mk R n a1 N nx I (ck_up u 82 (rm_x (p + 1) (r + e) (rm_nc N c e)) 1) p (fun r' c' e' => D r' c' e' ∨ (r' = r ∧ c' = c ∧ e' = e)) E := by
  obtain ⟨m1, m2, m3, s1, s2, s3⟩ := h
  have inj : ∀ q r' c', 0 ≤ r' → r' < (R : Int) → 0 ≤ c' → c' < N → rm_x q r' c' = rm_x (p + 1) (r + e) (rm_nc N c e) → q = p + 1 ∧ r' = r + e ∧ c' = rm_nc N c e := fun q r' c' a b a' b' h => by
    generalize rm_nc N c e = k at *
    unfold rm_x at h
    omega
  refine ⟨fun q r' c' q0 q1 q2 a b a' b' => ?_, fun r' c' _ a b a' b' => ?_, fun q r' c' q0 q1 a b a' b' => ?_, by rw [ck_up_ne (by decide)]; exact s1, by rw [ck_up_ne (by decide)]; exact s2, by rw [ck_up_ne (by decide)]; exact s3⟩
  · rw [ck_up_nj (fun x => by have := (inj q r' c' a b a' b' x).1; omega)]
    exact m1 q r' c' q0 q1 q2 a b a' b'
  · by_cases x : rm_x (p + 1) r' c' = rm_x (p + 1) (r + e) (rm_nc N c e)
    · have i := inj _ r' c' a b a' b' x
      rw [x, ck_up_eq]
      exact ⟨fun _ => ⟨r, c, e, ⟨⟨r0, r1⟩, ⟨c0, c1⟩, e0, e1⟩, Or.inr ⟨rfl, rfl, rfl⟩, hm, hx, i.2.1, i.2.2⟩, fun _ => by decide⟩
    · rw [ck_up_nj x, m2 r' c' hp a b a' b']
      constructor
      · rintro ⟨r2, c2, e2, g, y, z⟩
        exact ⟨r2, c2, e2, g, Or.inl y, z⟩
      · rintro ⟨r2, c2, e2, g, y | y, z1, z2, z3, z4⟩
        · exact ⟨r2, c2, e2, g, y, z1, z2, z3, z4⟩
        · exfalso
          rw [y.1, y.2.2] at z3
          rw [y.2.1, y.2.2] at z4
          rw [z3, z4] at x
          exact x rfl
  · rw [ck_up_nj (fun x => by have := (inj q r' c' a b a' b' x).1; omega)]
    exact m3 q r' c' q0 q1 a b a' b'
theorem mk_p {R : Nat} {n a1 N : Int} {nx : Int → Int → Int → Int → Prop} {I : Int → Int → Prop} {u : ck_W} {p : Int} {D : Int → Int → Int → Prop} {E : Int → Int → Prop} (h : mk R n a1 N nx I u p D E) (hp : 0 ≤ p) (hD : ∀ r c e, 0 ≤ r → r < (R : Int) → 0 ≤ c → c < N → D r c e) (hE : ∀ r c, 0 ≤ r → r < (R : Int) → 0 ≤ c → c < N → E r c) : mk R n a1 N nx I u (p + 1) (fun _ _ _ => False) (fun _ _ => False) := by
  obtain ⟨m1, m2, m3, s1, s2, s3⟩ := h
  refine ⟨fun q r c q0 q1 q2 a b a' b' => ?_, fun r c pn a b a' b' => ⟨fun x => absurd (m3 _ r c (by omega) pn a b a' b') x, fun ⟨_, _, _, _, x, _⟩ => x.elim⟩, fun q r c q0 q1 => m3 q r c (by omega) q1, fun q q0 q1 q2 => ?_, fun pn => ?_, fun q q0 q1 => s3 q (by omega) q1⟩
  · by_cases x : q ≤ p
    · exact m1 q r c q0 x q2 a b a' b'
    · have e : q = p + 1 := by omega
      rw [e, m2 r c (by omega) a b a' b', show (p + 1).toNat = p.toNat + 1 by omega, mr, show ((p.toNat : Nat) : Int) = p by omega]
      constructor
      · rintro ⟨r0, c0, e, g, _, z⟩
        exact ⟨r0, c0, e, g, z⟩
      · rintro ⟨r0, c0, e, g, z⟩
        exact ⟨r0, c0, e, g, hD r0 c0 e g.1.1 g.1.2 g.2.1.1 g.2.1.2, z⟩
  · by_cases x : q < p
    · exact s1 q q0 x q2
    · have e : q = p := by omega
      rw [e]
      refine mz_c (s2 (by omega)) (fun r a b => ⟨?_, ?_⟩)
      · rintro ⟨c, hc, y, _⟩
        exact ⟨c, hc, y⟩
      · rintro ⟨c, hc, y⟩
        exact ⟨c, hc, y, hE r c a b hc.1 hc.2⟩
  · rw [s3 (p + 1) (by omega) pn]
    exact mz_0 (fun r _ _ ⟨_, _, _, x⟩ => x)
abbrev mb (r c r0 c0 : Int) : Prop := r0 < r ∨ (r0 = r ∧ c0 < c)
theorem S2_X12_markBest {g : ch_G} {A R : Nat} (hC : ck_Cx g A R) {d : Nat} {K : Option ck_V → ck_W → Prop} {w : ck_W} {a1 a2 : Int} (hI : rm_I A R w) (h1 : 0 ≤ a1 ∧ a1 ≤ 5) (h2 : a2 ≤ 24) (hf : rm_ft R a1 a2 w) (h82 : ∀ p r c, 1 ≤ p → p < a2 → 0 ≤ r → r < (R : Int) → 0 ≤ c → c < w 76 2 → w 82 (rm_x p r c) = 0) (h86 : ∀ p, 0 ≤ p → p < a2 → w 86 (24 * a1 + p) = 0)
    (h : ∀ w', (∀ k, k ≠ 82 → k ≠ 86 → w' k = w k) → (∀ j, j < 12 * 243 → w' 82 j = w 82 j) → (∀ j, j < 24 * a1 ∨ 24 * a1 + 24 ≤ j → w' 86 j = w 86 j) → (∀ p, 0 ≤ p → p < a2 → mzb R (w' 86 (24 * a1 + p)) (fun r => ∃ c, (0 ≤ c ∧ c < w 76 2) ∧ mr R (w 76 2) (rm_nx w a1) (fun r c => w 82 (rm_x 0 r c) ≠ 0) p.toNat r c)) → K none w') : ck_Ex (ch_C g A R) (d + 4) mX12_markBest [.inr (.inr 76), .inl a1, .inl a2] w K := by
  have c := rm_cp hC hI
  have hR : R ≤ 12 := by omega
  have hN : w 76 2 ≤ 243 := by omega
  -- what stays
  have st : ∀ u : ck_W, (∀ k, k ≠ 82 → k ≠ 86 → u k = w k) → rm_I A R u ∧ rm_ft R a1 a2 u := fun u hu => by
    have e : ∀ k, k ≠ 82 → k ≠ 86 → u k = w k := hu
    exact ⟨rm_I_c hI (e 76 (by decide) (by decide)) (e 77 (by decide) (by decide)) (e 78 (by decide) (by decide)) (e 79 (by decide) (by decide)), rm_ft_c hC hI hf (e 76 (by decide) (by decide)) (e 77 (by decide) (by decide)) (e 87 (by decide) (by decide)) (e 80 (by decide) (by decide)) (e 81 (by decide) (by decide))⟩
  have nxe : ∀ u : ck_W, (∀ k, k ≠ 82 → k ≠ 86 → u k = w k) → ∀ p r c e, rm_nx u a1 p r c e ↔ rm_nx w a1 p r c e := fun u hu p r c e => by
    unfold rm_nx rm_gr
    rw [hu 76 (by decide) (by decide), hu 77 (by decide) (by decide), hu 80 (by decide) (by decide), hu 87 (by decide) (by decide)]
  -- the changes of a state
  have l4 : ∀ (n : Nat) (a3 a4 a5 a7 : Int) (u : ck_W), 2 - a7 = n → -1 ≤ a7 → (0 ≤ a3 ∧ a3 < a2) → (0 ≤ a4 ∧ a4 < (R : Int)) → (0 ≤ a5 ∧ a5 < w 76 2) → (∀ k, k ≠ 82 → k ≠ 86 → u k = w k) → (∀ j, j < 12 * 243 → u 82 j = w 82 j) → (∀ j, j < 24 * a1 ∨ 24 * a1 + 24 ≤ j → u 86 j = w 86 j) → mr R (w 76 2) (rm_nx w a1) (fun r c => w 82 (rm_x 0 r c) ≠ 0) a3.toNat a4 a5 → mk R a2 a1 (w 76 2) (rm_nx w a1) (fun r c => w 82 (rm_x 0 r c) ≠ 0) u a3 (fun r c e => mb a4 a5 r c ∨ (r = a4 ∧ c = a5 ∧ e < a7)) (mb a4 (a5 + 1)) →
      (∀ u' : ck_W, (∀ k, k ≠ 82 → k ≠ 86 → u' k = w k) → (∀ j, j < 12 * 243 → u' 82 j = w 82 j) → (∀ j, j < 24 * a1 ∨ 24 * a1 + 24 ≤ j → u' 86 j = w 86 j) → mk R a2 a1 (w 76 2) (rm_nx w a1) (fun r c => w 82 (rm_x 0 r c) ≠ 0) u' a3 (fun r c _ => mb a4 (a5 + 1) r c) (mb a4 (a5 + 1)) → ck_At (ch_C g A R) (d + 4) mX12_markBest K 22 [some (.inr (.inr 76)), some (.inl a1), some (.inl a2), some (.inl a3), some (.inl a4), some (.inl (a5 + 1)), none, none] [] u') →
      ck_At (ch_C g A R) (d + 4) mX12_markBest K 75 [some (.inr (.inr 76)), some (.inl a1), some (.inl a2), some (.inl a3), some (.inl a4), some (.inl a5), none, some (.inl a7)] [] u := by
    intro n
    induction n with
    | zero =>
      intro a3 a4 a5 a7 u q1 q2 q3 q4 q5 q6 q7 q8 qr qm k
      refine r_X12_markBest_75 hC ⟨fun _ => ⟨by constructor <;> omega, k u q6 q7 q8 (mk_c qm (fun _ r c e _ _ _ _ _ _ _ _ => ⟨fun x => ?_, fun x => ?_⟩) (fun _ _ _ _ _ _ _ => Iff.rfl))⟩, fun z => absurd (by omega) z⟩
      · omega
      · omega
    | succ n ih =>
      intro a3 a4 a5 a7 u q1 q2 q3 q4 q5 q6 q7 q8 qr qm k
      have u76 := q6 76 (by decide) (by decide)
      refine r_X12_markBest_75 hC ⟨fun z => absurd z (by omega), fun _ => ⟨by constructor <;> omega, fun z => ⟨by constructor <;> omega, k u q6 q7 q8 (mk_c qm (fun y => absurd y (by omega)) (fun _ _ _ _ _ _ _ => Iff.rfl))⟩, fun z => ?_⟩⟩
      refine S_X12_isNext hC (st u q6).1 h1 (by omega) q4 (by rw [u76]; exact q5) (by omega) (rm_ft_f (st u q6).2 (by omega) (by omega) h2) (fun nx => ⟨_, rfl, fun _ => ⟨fun y => absurd y (by decide), fun _ => ?_⟩⟩) (fun nx => ⟨_, rfl, fun _ => ⟨fun _ => ⟨by constructor <;> omega, ih _ _ _ _ _ (by omega) (by omega) q3 q4 q5 q6 q7 q8 qr (mk_c qm (fun _ r c e _ _ _ _ _ _ _ hx => ⟨fun x => ?_, fun x => ?_⟩) (fun _ _ _ _ _ _ _ => Iff.rfl)) k⟩, fun y => absurd rfl y⟩⟩)
      · have gg := nx.1.1
        rw [u76] at gg
        rw [u76]
        have nb : 0 ≤ (3 * a5 + a7 + 1).tmod (w 76 2) ∧ (3 * a5 + a7 + 1).tmod (w 76 2) < w 76 2 := rm_ncb (m := w 76 2) (c := a5) (e := a7) (by omega) (by omega)
        have nx2 := (nxe u q6 a3 a4 a5 a7).mp nx
        have km := mk_next hR hN qm (by omega) (r := a4) (c := a5) (e := a7) q4.1 q4.2 q5.1 q5.2 (by omega) (by omega) qr nx2 gg.1 (by omega) nb
        refine ⟨by constructor <;> omega, by omega, by constructor <;> omega, by constructor <;> omega, by constructor <;> omega, by omega, by constructor <;> omega, ih _ _ _ _ _ (by omega) (by omega) q3 q4 q5 (fun k k1 k2 => by rw [ck_up_ne k1, q6 k k1 k2]) (fun j hj => by rw [ck_up_nj (by omega), q7 j hj]) (fun j hj => by rw [ck_up_ne (by decide), q8 j hj]) qr (mk_c km (fun _ r c e _ _ _ _ _ _ _ _ => ⟨fun x => ?_, fun x => ?_⟩) (fun _ _ _ _ _ _ _ => Iff.rfl)) k⟩
        · rcases x with (x | x) | x
          · exact Or.inl x
          · exact Or.inr ⟨x.1, x.2.1, by omega⟩
          · exact Or.inr ⟨x.1, x.2.1, by omega⟩
        · rcases x with x | x
          · exact Or.inl (Or.inl x)
          · by_cases y : e = a7
            · exact Or.inr ⟨x.1, x.2.1, y⟩
            · exact Or.inl (Or.inr ⟨x.1, x.2.1, by omega⟩)
      · rcases x with x | x
        · exact Or.inl x
        · exact Or.inr ⟨x.1, x.2.1, by omega⟩
      · rcases x with x | x
        · exact Or.inl x
        · by_cases y : e = a7
          · rw [x.1, x.2.1, y] at hx
            exact absurd ((nxe u q6 a3 a4 a5 a7).mpr hx) nx
          · exact Or.inr ⟨x.1, x.2.1, by omega⟩
  have l3 : ∀ (n : Nat) (a3 a4 a5 : Int) (u : ck_W), w 76 2 - a5 = n → 0 ≤ a5 → (0 ≤ a3 ∧ a3 < a2) → (0 ≤ a4 ∧ a4 < (R : Int)) → (∀ k, k ≠ 82 → k ≠ 86 → u k = w k) → (∀ j, j < 12 * 243 → u 82 j = w 82 j) → (∀ j, j < 24 * a1 ∨ 24 * a1 + 24 ≤ j → u 86 j = w 86 j) → mk R a2 a1 (w 76 2) (rm_nx w a1) (fun r c => w 82 (rm_x 0 r c) ≠ 0) u a3 (fun r c _ => mb a4 a5 r c) (mb a4 a5) →
      (∀ u' : ck_W, (∀ k, k ≠ 82 → k ≠ 86 → u' k = w k) → (∀ j, j < 12 * 243 → u' 82 j = w 82 j) → (∀ j, j < 24 * a1 ∨ 24 * a1 + 24 ≤ j → u' 86 j = w 86 j) → mk R a2 a1 (w 76 2) (rm_nx w a1) (fun r c => w 82 (rm_x 0 r c) ≠ 0) u' a3 (fun r c _ => mb (a4 + 1) 0 r c) (mb (a4 + 1) 0) → ck_At (ch_C g A R) (d + 4) mX12_markBest K 10 [some (.inr (.inr 76)), some (.inl a1), some (.inl a2), some (.inl a3), some (.inl (a4 + 1)), none, none, none] [] u') →
      ck_At (ch_C g A R) (d + 4) mX12_markBest K 22 [some (.inr (.inr 76)), some (.inl a1), some (.inl a2), some (.inl a3), some (.inl a4), some (.inl a5), none, none] [] u := by
    intro n
    induction n with
    | zero =>
      intro a3 a4 a5 u q1 q2 q3 q4 q6 q7 q8 qm k
      have u76 := q6 76 (by decide) (by decide)
      exact r_X12_markBest_22 hC ⟨fun _ => ⟨by constructor <;> omega, k u q6 q7 q8 (mk_c qm (fun _ r c e _ _ _ _ _ _ _ _ => by omega) (fun r c _ _ _ _ _ => by omega))⟩, fun z => absurd (by rw [u76]; omega) z⟩
    | succ n ih =>
      intro a3 a4 a5 u q1 q2 q3 q4 q6 q7 q8 qm k
      have u76 := q6 76 (by decide) (by decide)
      have mq := qm.1 a3 a4 a5 q3.1 (Int.le_refl _) q3.2 q4.1 q4.2 q2 (by omega)
      refine r_X12_markBest_22 hC ⟨fun z => absurd z (by rw [u76]; omega), fun _ => ⟨by constructor <;> omega, fun x ex => ⟨by omega, fun z => ⟨by omega, ?_⟩, fun z => ⟨by constructor <;> omega, ih _ _ _ _ (by omega) (by omega) q3 q4 q6 q7 q8 (mk_c qm (fun _ r c e _ _ _ _ _ _ hr _ => ?_) (fun r c _ _ _ _ hr => ?_)) k⟩⟩⟩⟩
      · rw [ex] at z
        have hr := mq.mp z
        refine l4 3 a3 a4 a5 (-1) _ (by omega) (by omega) q3 q4 (by omega) (fun k k1 k2 => by rw [ck_up_ne k2, q6 k k1 k2]) (fun j hj => by rw [ck_up_ne (by decide), q7 j hj]) (fun j hj => by rw [ck_up_nj (by omega), q8 j hj]) hr (mk_c (mk_set hR qm q3.2 q4.1 q4.2 q2 (by omega) hr) (fun _ r c e _ _ _ _ e0 _ _ _ => by omega) (fun r c _ _ _ _ _ => by omega)) (fun u' i1 i2 i3 i4 => ih _ _ _ _ (by omega) (by omega) q3 q4 i1 i2 i3 i4 k)
      · rw [ex] at z
        have no : ¬ (r = a4 ∧ c = a5) := fun y => by rw [y.1, y.2] at hr; exact mq.mpr hr z
        omega
      · rw [ex] at z
        have no : ¬ (r = a4 ∧ c = a5) := fun y => by rw [y.1, y.2] at hr; exact mq.mpr hr z
        omega
  have l2 : ∀ (n : Nat) (a3 a4 : Int) (u : ck_W), (R : Int) - a4 = n → 0 ≤ a4 → (0 ≤ a3 ∧ a3 < a2) → (∀ k, k ≠ 82 → k ≠ 86 → u k = w k) → (∀ j, j < 12 * 243 → u 82 j = w 82 j) → (∀ j, j < 24 * a1 ∨ 24 * a1 + 24 ≤ j → u 86 j = w 86 j) → mk R a2 a1 (w 76 2) (rm_nx w a1) (fun r c => w 82 (rm_x 0 r c) ≠ 0) u a3 (fun r c _ => mb a4 0 r c) (mb a4 0) →
      (∀ u' : ck_W, (∀ k, k ≠ 82 → k ≠ 86 → u' k = w k) → (∀ j, j < 12 * 243 → u' 82 j = w 82 j) → (∀ j, j < 24 * a1 ∨ 24 * a1 + 24 ≤ j → u' 86 j = w 86 j) → mk R a2 a1 (w 76 2) (rm_nx w a1) (fun r c => w 82 (rm_x 0 r c) ≠ 0) u' (a3 + 1) (fun r c _ => mb 0 0 r c) (mb 0 0) → ck_At (ch_C g A R) (d + 4) mX12_markBest K 2 [some (.inr (.inr 76)), some (.inl a1), some (.inl a2), some (.inl (a3 + 1)), none, none, none, none] [] u') →
      ck_At (ch_C g A R) (d + 4) mX12_markBest K 10 [some (.inr (.inr 76)), some (.inl a1), some (.inl a2), some (.inl a3), some (.inl a4), none, none, none] [] u := by
    intro n
    induction n with
    | zero =>
      intro a3 a4 u q1 q2 q3 q6 q7 q8 qm k
      have u76 := q6 76 (by decide) (by decide)
      exact r_X12_markBest_10 hC ⟨fun _ => ⟨by constructor <;> omega, k u q6 q7 q8 (mk_c (mk_p qm q3.1 (fun r c e _ _ _ _ => by omega) (fun r c _ _ _ _ => by omega)) (fun _ r c e _ _ _ _ _ _ _ _ => ⟨fun x => x.elim, fun x => by omega⟩) (fun r c _ _ _ _ _ => ⟨fun x => x.elim, fun x => by omega⟩))⟩, fun z => absurd (by rw [u76]; omega) z⟩
    | succ n ih =>
      intro a3 a4 u q1 q2 q3 q6 q7 q8 qm k
      have u76 := q6 76 (by decide) (by decide)
      exact r_X12_markBest_10 hC ⟨fun z => absurd z (by rw [u76]; omega), fun _ => l3 (w 76 2).toNat a3 a4 0 u (by omega) (by omega) q3 (by omega) q6 q7 q8 qm (fun u' i1 i2 i3 i4 => ih _ _ _ (by omega) (by omega) q3 i1 i2 i3 i4 k)⟩
  have l1 : ∀ (n : Nat) (a3 : Int) (u : ck_W), a2 - a3 ≤ n → 0 ≤ a3 → (∀ k, k ≠ 82 → k ≠ 86 → u k = w k) → (∀ j, j < 12 * 243 → u 82 j = w 82 j) → (∀ j, j < 24 * a1 ∨ 24 * a1 + 24 ≤ j → u 86 j = w 86 j) → mk R a2 a1 (w 76 2) (rm_nx w a1) (fun r c => w 82 (rm_x 0 r c) ≠ 0) u a3 (fun r c _ => mb 0 0 r c) (mb 0 0) → ck_At (ch_C g A R) (d + 4) mX12_markBest K 2 [some (.inr (.inr 76)), some (.inl a1), some (.inl a2), some (.inl a3), none, none, none, none] [] u := by
    intro n
    induction n with
    | zero =>
      intro a3 u q1 q2 q6 q7 q8 qm
      exact r_X12_markBest_2 hC ⟨fun _ => h u q6 q7 q8 (fun p p0 p1 => qm.2.2.2.1 p p0 (by omega) p1), fun z => absurd (by omega) z⟩
    | succ n ih =>
      intro a3 u q1 q2 q6 q7 q8 qm
      exact r_X12_markBest_2 hC ⟨fun _ => h u q6 q7 q8 (fun p p0 p1 => qm.2.2.2.1 p p0 (by omega) p1), fun z => l2 R a3 0 u (by omega) (by omega) (by omega) q6 q7 q8 qm (fun u' i1 i2 i3 i4 => ih _ _ (by omega) (by omega) i1 i2 i3 i4)⟩
  refine e_X12_markBest hC (l1 a2.toNat 0 w (by omega) (by omega) (fun _ _ _ => rfl) (fun _ _ => rfl) (fun _ _ => rfl) ⟨fun q r c q0 q1 _ _ _ _ _ => ?_, fun r c pn a b a' b' => ⟨fun x => absurd (h82 _ r c (by omega) pn a b a' b') x, fun ⟨r0, c0, e, g, x, _⟩ => by omega⟩, fun q r c q0 q1 a b a' b' => h82 q r c (by omega) q1 a b a' b', fun q q0 q1 => absurd q1 (by omega), fun pn => ?_, fun q q0 q1 => h86 q (by omega) q1⟩)
  · rw [show q = 0 by omega]
    exact Iff.rfl
  · rw [h86 0 (by omega) pn]
    exact mz_0 (fun r r0 _ ⟨c, hc, _, x⟩ => by omega)
