/-! ===== where it is sure: both windings say the same ===== -/
def su_ck : Bool := (List.range 4096).all (fun x => x == 0 || ((x &&& (x - 1)) == 0) == (List.range 12).any (fun k => x == 2 ^ k))
theorem su_ckt : su_ck = true := by decide +kernel
theorem su_pow {x : Nat} (h : x < 4096) (h0 : x ≠ 0) : (x &&& (x - 1)) = 0 ↔ ∃ k, k < 12 ∧ x = 2 ^ k := by
  have k := su_ckt
  unfold su_ck at k
  have a := List.all_eq_true.mp k x (List.mem_range.mpr h)
  rw [Bool.or_eq_true] at a
  rcases a with a | a
  · exact absurd (by simpa using a) h0
  · have e := eq_of_beq a
    constructor
    · intro z
      have b : ((x &&& (x - 1)) == 0) = true := by rw [z]; rfl
      rw [e] at b
      obtain ⟨k, k1, k2⟩ := List.any_eq_true.mp b
      exact ⟨k, List.mem_range.mp k1, eq_of_beq k2⟩
    · rintro ⟨k, k1, k2⟩
      have b : (List.range 12).any (fun k => x == 2 ^ k) = true := List.any_eq_true.mpr ⟨k, List.mem_range.mpr k1, by rw [k2]; exact beq_self_eq_true _⟩
      rw [← e] at b
      exact eq_of_beq b
/-- one radius alone -/
theorem su_one {R : Nat} (hR : R ≤ 12) {x : Int} {P : Int → Prop} (h : mzb R x P) {r0 : Int} (h0 : 0 ≤ r0) (h1 : r0 < (R : Int)) (hP : P r0) : ck_and x (x - 1) = 0 ↔ ∀ r, 0 ≤ r → r < (R : Int) → P r → r = r0 := by
  obtain ⟨⟨x0, x1⟩, hb⟩ := h
  obtain ⟨a, rfl⟩ := kb_nat x0
  have pR : 2 ^ R ≤ 2 ^ 12 := Nat.pow_le_pow_right (by decide) hR
  have b0 := (hb r0 h0 h1).mpr hP
  rw [Int.toNat_natCast] at b0
  have na : a ≠ 0 := fun z => by rw [z] at b0; simp at b0
  rw [show (a : Int) - 1 = ((a - 1 : Nat) : Int) by omega, kb_and (by omega)]
  have key := su_pow (x := a) (by omega) na
  constructor
  · intro z
    obtain ⟨k, _, e⟩ := key.mp (by omega)
    have k0 : k = r0.toNat := by
      rw [e, Nat.testBit_two_pow] at b0
      exact of_decide_eq_true b0
    intro r r0' r1' hr
    have b := (hb r r0' r1').mpr hr
    rw [Int.toNat_natCast, e, Nat.testBit_two_pow] at b
    have := of_decide_eq_true b
    omega
  · intro z
    have e : a = 2 ^ r0.toNat := by
      refine Nat.eq_of_testBit_eq (fun i => ?_)
      rw [Nat.testBit_two_pow]
      by_cases q : i < R
      · have b := hb i (by omega) (by omega)
        rw [Int.toNat_natCast, Int.toNat_natCast] at b
        by_cases y : r0.toNat = i
        · rw [decide_eq_true y, ← y]; exact b0
        · rw [decide_eq_false y]
          cases t : a.testBit i with
          | false => rfl
          | true =>
            have := z i (by omega) (by omega) (b.mp t)
            omega
      · have p : 2 ^ R ≤ 2 ^ i := Nat.pow_le_pow_right (by decide) (by omega)
        rw [Nat.testBit_lt_two_pow (show a < 2 ^ i by omega), decide_eq_false (by omega)]
    have := key.mpr ⟨r0.toNat, by omega, e⟩
    omega
/-- a step of the tables is a pure step -/
theorem su_nx {A R : Nat} {gg : ch_G} (hC : ck_Cx gg A R) {v : ck_W} (hI : rm_I A R v) {z n : Int} (hn : 1 ≤ n ∧ n ≤ 24) (h : rm_ft R z n v) {l : Nat} {p r c e : Int} (hl : p = n - 2 - l) (hp : 0 ≤ p) (hr : 0 ≤ r ∧ r < (R : Int)) (hc : 0 ≤ c ∧ c < cw_N A) (he : -1 ≤ e) : rm_nx v z p r c e ↔ rn A R n (wg R v z) (v 87) l r c e := by
  have cp := rm_cp hC hI
  have eN : v 76 2 = cw_N A := hI.2.2.1
  have hN := cw_Nb (A := A) ⟨hC.2.1, hC.2.2.1⟩
  have F0 := congrArg Prod.fst (ft_F hC hI hn.2 h (l + 1) p r c (by omega) hp hr hc)
  dsimp only at F0
  have eg : wg R v z p r = rm_gr v z p r := by
    unfold wg
    rw [if_pos ⟨⟨hp, hr.1⟩, hr.2⟩]
  unfold rm_nx rn
  rw [cp.1, cp.2.1, eN, ← hl, eg, ← F0]
  have F1 : rm_go (A : Int) (R : Int) (v 87 (p + 1)) p r c (r + e) → v 80 (rm_x (p + 1) (r + e) (rm_nc (cw_N A) c e)) = (rf_F A R n (wg R v z) (v 87) l (r + e) (rm_nc (cw_N A) c e)).1 := fun go => by
    have nb := rm_ncb (m := cw_N A) (c := c) (e := e) (by omega) (by omega)
    exact congrArg Prod.fst (ft_F hC hI hn.2 h l (p + 1) (r + e) (rm_nc (cw_N A) c e) (by omega) (by omega) (by have := go.1; omega) nb)
  constructor
  · intro y
    have f := F1 y.1
    exact ⟨y.1, by rw [← f]; exact y.2.1, by rw [← f]; exact y.2.2⟩
  · intro y
    have f := F1 y.1
    exact ⟨y.1, by rw [f]; exact y.2.1, by rw [f]; exact y.2.2⟩
/-- a best way from a state on -/
def su_t (A R : Nat) (n : Int) (g : Int → Int → Int) (pn : Int → Int) (p : Nat) (r c : Int) (t cd : Int → Int) : Prop := t p = r ∧ cd p = c ∧ ∀ j : Nat, p ≤ j → j < (n - 1).toNat → rn A R n g pn ((n - 1).toNat - 1 - j) (t j) (cd j) (t ((j : Int) + 1) - t j) ∧ (-1 ≤ t ((j : Int) + 1) - t j ∧ t ((j : Int) + 1) - t j ≤ 1) ∧ cd ((j : Int) + 1) = rm_nc (cw_N A) (cd j) (t ((j : Int) + 1) - t j)
theorem su_t0 {A R : Nat} {n : Int} {g : Int → Int → Int} {pn : Int → Int} {r c : Int} {t cd : Int → Int} (h : su_t A R n g pn 0 r c t cd) : sp_b A R n g pn c t := by
  obtain ⟨h1, h2, h3⟩ := h
  have C : ∀ j : Nat, j ≤ (n - 1).toNat → sp_c A t c j = cd j := by
    intro j
    induction j with
    | zero => intro _; rw [sp_c]; exact h2.symm
    | succ j ih =>
      intro hj
      rw [sp_c, ih (by omega), show ((j + 1 : Nat) : Int) = (j : Int) + 1 by omega]
      exact ((h3 j (by omega) (by omega)).2.2).symm
  exact ⟨fun j hj => (h3 j (by omega) hj).2.1, fun j hj => by rw [C j (by omega)]; exact (h3 j (by omega) hj).1⟩
theorem su_ext {A R : Nat} {n : Int} {g : Int → Int → Int} {pn : Int → Int} {p : Nat} {r c : Int} (hp : p ≤ (n - 1).toNat) (h0 : 0 ≤ (rf_F A R n g pn ((n - 1).toNat - p) r c).1) : ∃ t cd, su_t A R n g pn p r c t cd := by
  generalize hL : (n - 1).toNat = L at *
  have F : ∀ j, j ≤ L - p → 0 ≤ (rf_F A R n g pn (L - p - j) (sp_G A (re A R n g pn) (L - p) r c j).1 (sp_G A (re A R n g pn) (L - p) r c j).2).1 := by
    intro j
    induction j with
    | zero => intro _; rw [Nat.sub_zero, sp_G]; exact h0
    | succ j ih =>
      intro hj
      have i := ih (by omega)
      rw [show L - p - j = (L - p - 1 - j) + 1 by omega] at i
      have x := (sp_re _ _ _ i).1.2.1
      rw [sp_Gs j _ _ _ (by omega), show L - p - (j + 1) = L - p - 1 - j by omega]
      exact x
  refine ⟨fun q => (sp_G A (re A R n g pn) (L - p) r c (q - p).toNat).1, fun q => (sp_G A (re A R n g pn) (L - p) r c (q - p).toNat).2, ?_, ?_, fun j j0 j1 => ?_⟩
  · dsimp only
    rw [show ((p : Int) - p).toNat = 0 by omega, sp_G]
  · dsimp only
    rw [show ((p : Int) - p).toNat = 0 by omega, sp_G]
  · have f := F (j - p) (by omega)
    rw [show L - p - (j - p) = (L - p - 1 - (j - p)) + 1 by omega] at f
    have x := sp_re _ _ _ f
    have s := sp_Gs (A := A) (ch := re A R n g pn) (j - p) (L - p) r c (by omega)
    dsimp only
    rw [hL, show ((j : Int) + 1 - p).toNat = (j - p) + 1 by omega, show ((j : Int) - p).toNat = j - p by omega, s, show L - 1 - j = L - p - 1 - (j - p) by omega]
    dsimp only
    generalize sp_G A (re A R n g pn) (L - p) r c (j - p) = y at *
    have e : y.1 + re A R n g pn (L - p - 1 - (j - p)) y.1 y.2 - y.1 = re A R n g pn (L - p - 1 - (j - p)) y.1 y.2 := by omega
    rw [e]
    exact ⟨x.1, x.2, rfl⟩
/-- the states that are marked are those of best spirals -/
theorem su_mr {A R : Nat} {gg : ch_G} (hC : ck_Cx gg A R) {v : ck_W} (hI : rm_I A R v) {z n : Int} (hn : 1 ≤ n ∧ n ≤ 24) (h : rm_ft R z n v) {B : Int} (hB : 0 ≤ B) {I : Int → Int → Prop} (hIe : ∀ r c, 0 ≤ r → r < (R : Int) → (I r c ↔ c = wst A ∧ (v 87 0 < 0 ∨ v 87 0 = r) ∧ v 80 (rm_x 0 r (wst A)) = B)) :
    (∀ s, sp_B A R n (wg R v z) (v 87) (wst A) B s → ∀ p : Nat, p ≤ (n - 1).toNat → (0 ≤ s p ∧ s p < (R : Int)) ∧ (0 ≤ sp_c A s (wst A) p ∧ sp_c A s (wst A) p < cw_N A) ∧ mr R (cw_N A) (rm_nx v z) I p (s p) (sp_c A s (wst A) p)) ∧
    ∀ (p : Nat) (r c : Int), p ≤ (n - 1).toNat → 0 ≤ r → r < (R : Int) → 0 ≤ c → c < cw_N A → mr R (cw_N A) (rm_nx v z) I p r c → ∃ s, sp_B A R n (wg R v z) (v 87) (wst A) B s ∧ s p = r := by
  have cp := rm_cp hC hI
  have hN := cw_Nb (A := A) ⟨hC.2.1, hC.2.2.1⟩
  have ws : 0 ≤ wst A ∧ wst A < cw_N A := by unfold wst; omega
  have F : ∀ r, 0 ≤ r → r < (R : Int) → v 80 (rm_x 0 r (wst A)) = (rf_F A R n (wg R v z) (v 87) (n - 1).toNat r (wst A)).1 := fun r a b => congrArg Prod.fst (ft_F hC hI hn.2 h (n - 1).toNat 0 r (wst A) (by omega) (by omega) ⟨a, b⟩ ws)
  refine ⟨fun s hs p => ?_, ?_⟩
  · induction p with
    | zero =>
      intro _
      have s1 := hs.1
      rw [sp_c]
      refine ⟨s1.1, ws, (hIe _ _ s1.1.1 s1.1.2).mpr ⟨rfl, s1.2.1, ?_⟩⟩
      show v 80 (rm_x 0 (s 0) (wst A)) = B
      rw [F _ s1.1.1 s1.1.2]; exact s1.2.2
    | succ p ih =>
      intro hp
      obtain ⟨a, b, m⟩ := ih (by omega)
      have st := hs.2.2 p (by omega)
      have d := hs.2.1 p (by omega)
      have cs : ((p + 1 : Nat) : Int) = (p : Int) + 1 := by omega
      have go := st.1.1
      have nb := rm_ncb (m := cw_N A) (c := sp_c A s (wst A) p) (e := s ((p : Int) + 1) - s p) (by omega) (by omega)
      rw [cs, sp_c]
      exact ⟨by omega, nb, s p, sp_c A s (wst A) p, s ((p : Int) + 1) - s p, ⟨a, b, d.1, d.2⟩, m, (su_nx hC hI hn h (l := (n - 1).toNat - 1 - p) (by omega) (by omega) a b d.1).mpr st, by omega, rfl⟩
  · -- on to the end
    have val : ∀ (p : Nat) (r c : Int), p ≤ (n - 1).toNat → 0 ≤ r → r < (R : Int) → mr R (cw_N A) (rm_nx v z) I p r c → 0 ≤ (rf_F A R n (wg R v z) (v 87) ((n - 1).toNat - p) r c).1 := by
      intro p r c hp r0 r1 m
      cases p with
      | zero =>
        have x := (hIe r c r0 r1).mp m
        rw [Nat.sub_zero, x.1, ← F r r0 r1, x.2.2]; exact hB
      | succ p =>
        obtain ⟨r2, c2, e, g, _, x, e1, e2⟩ := m
        have y := ((su_nx hC hI hn h (l := (n - 1).toNat - 1 - p) (by omega) (by omega) g.1 g.2.1 g.2.2.1).mp x).2.1
        rw [← e1, ← e2] at y
        rw [show (n - 1).toNat - (p + 1) = (n - 1).toNat - 1 - p by omega]
        exact y
    have join : ∀ (p : Nat) (r c : Int), p ≤ (n - 1).toNat → 0 ≤ r → r < (R : Int) → mr R (cw_N A) (rm_nx v z) I p r c → ∀ t cd, su_t A R n (wg R v z) (v 87) p r c t cd → ∃ s, sp_B A R n (wg R v z) (v 87) (wst A) B s ∧ ∀ j : Nat, p ≤ j → s j = t j := by
      intro p
      induction p with
      | zero =>
        intro r c _ r0 r1 m t cd ht
        have x := (hIe r c r0 r1).mp m
        have t0 : t 0 = r := ht.1
        rw [x.1] at ht
        exact ⟨t, ⟨⟨by rw [t0]; exact ⟨r0, r1⟩, by rw [t0]; exact x.2.1, by rw [t0, ← F r r0 r1]; exact x.2.2⟩, su_t0 ht⟩, fun _ _ => rfl⟩
      | succ p ih =>
        intro r c hp r0 r1 m t cd ht
        obtain ⟨r2, c2, e, g, m2, x, e1, e2⟩ := m
        have y := (su_nx hC hI hn h (l := (n - 1).toNat - 1 - p) (by omega) (by omega) g.1 g.2.1 g.2.2.1).mp x
        obtain ⟨h1, h2, h3⟩ := ht
        have cs : ((p + 1 : Nat) : Int) = (p : Int) + 1 := by omega
        rw [cs] at h1 h2
        have tl : su_t A R n (wg R v z) (v 87) p r2 c2 (fun q => if q ≤ (p : Int) then r2 else t q) (fun q => if q ≤ (p : Int) then c2 else cd q) := by
          refine ⟨by dsimp only; rw [if_pos (Int.le_refl _)], by dsimp only; rw [if_pos (Int.le_refl _)], fun j j0 j1 => ?_⟩
          dsimp only
          by_cases q : j = p
          · rw [q, if_neg (show ¬ (p : Int) + 1 ≤ p by omega), if_pos (Int.le_refl _), if_pos (Int.le_refl _), if_neg (show ¬ (p : Int) + 1 ≤ p by omega), h1, h2, show r - r2 = e by omega]
            exact ⟨y, ⟨g.2.2.1, g.2.2.2⟩, e2⟩
          · rw [if_neg (show ¬ (j : Int) + 1 ≤ p by omega), if_neg (show ¬ (j : Int) ≤ p by omega), if_neg (show ¬ (j : Int) ≤ p by omega), if_neg (show ¬ (j : Int) + 1 ≤ p by omega)]
            exact h3 j (by omega) j1
        obtain ⟨s, hs, es⟩ := ih r2 c2 (by omega) g.1.1 g.1.2 m2 _ _ tl
        refine ⟨s, hs, fun j hj => ?_⟩
        rw [es j (by omega)]
        try dsimp only
        rw [if_neg (by omega)]
    intro p r c hp r0 r1 c0 c1 m
    obtain ⟨t, cd, ht⟩ := su_ext hp (val p r c hp r0 r1 m)
    obtain ⟨s, hs, es⟩ := join p r c hp r0 r1 m t cd ht
    exact ⟨s, hs, by rw [es p (Nat.le_refl _)]; exact ht.1⟩
theorem su_max {Q : Int → Prop} : ∀ (n : Nat), (∃ r, (0 ≤ r ∧ r < (n : Int)) ∧ Q r) → ∃ r, ((0 ≤ r ∧ r < (n : Int)) ∧ Q r) ∧ ∀ r', r < r' → r' < (n : Int) → ¬ Q r'
  | 0, ⟨r, h, _⟩ => by omega
  | n + 1, ⟨r, h, hq⟩ => by
    by_cases q : Q n
    · exact ⟨n, ⟨by omega, q⟩, fun r' a b => by omega⟩
    · have ne : r ≠ n := fun e => q (by rw [← e]; exact hq)
      obtain ⟨r1, h1, h2⟩ := su_max n ⟨r, by omega, hq⟩
      refine ⟨r1, ⟨by omega, h1.2⟩, fun r' a b => ?_⟩
      by_cases e : r' = n
      · rw [e]; exact q
      · exact h2 r' a (by omega)
theorem su_min {Q : Int → Prop} : ∀ (n : Nat), (∃ r, (0 ≤ r ∧ r < (n : Int)) ∧ Q r) → ∃ r, ((0 ≤ r ∧ r < (n : Int)) ∧ Q r) ∧ ∀ r', 0 ≤ r' → r' < r → ¬ Q r'
  | 0, ⟨r, h, _⟩ => by omega
  | n + 1, ⟨r, h, hq⟩ => by
    by_cases q : ∃ r, (0 ≤ r ∧ r < (n : Int)) ∧ Q r
    · obtain ⟨r1, h1, h2⟩ := su_min n q
      exact ⟨r1, ⟨by omega, h1.2⟩, h2⟩
    · exact ⟨r, ⟨h, hq⟩, fun r' a b hx => q ⟨r', ⟨a, by omega⟩, hx⟩⟩
/-- no first radius is better than the best of all -/
theorem su_hM {A R : Nat} (hA : 3 ≤ A ∧ A ≤ 6) (hR : 4 ≤ R ∧ R ≤ 12) {K : Int} (hK : 1 ≤ K ∧ K ≤ 4) {g : Int → Int → Int} {pn : Int → Int} {G : Int → Int → Int} (hg : ∀ p r, 0 ≤ g p r) (hGv : cw_Gv R G) (hG : ∀ p r, 0 ≤ p → p < K * (A : Int) → 0 ≤ r → r < (R : Int) → G p r = if pn p < 0 ∨ pn p = r then g p r * 1048576 else -1) (r : Int) (r0 : 0 ≤ r) (r1 : r < (R : Int)) (pk : pn 0 < 0 ∨ pn 0 = r) : (rf_F A R (K * (A : Int)) g pn (K * (A : Int) - 1).toNat r (wst A)).1 ≤ cw_be A R K G / 1048576 := by
  have hN := cw_Nb hA
  have ro : ∀ r : Int, 0 ≤ r → r < (R : Int) → cw_ok 1000 (if pn 0 < 0 ∨ pn 0 = r then ec (rf_F A R (K * (A : Int)) g pn (K * (A : Int) - 1).toNat r (wst A)) else 0) := fun r a b => by
    rw [← w_one hA hK hg hGv hG r a b]
    exact cw_fo_ok _ _ _ (Or.inl rfl) (fun j _ _ => wX_ok hA hK hGv r 0 j (by omega))
  have le := rb_le (B := 1000) (h := fun r => if pn 0 < 0 ∨ pn 0 = r then ec (rf_F A R (K * (A : Int)) g pn (K * (A : Int) - 1).toNat r (wst A)) else 0) R (fun j hj => ro j (by omega) (by omega))
  rw [← w_all hA hR hK hg hGv hG] at le
  have ler := le.2 r.toNat (by omega)
  have b0 : 0 ≤ cw_be A R K G / 1048576 := by
    rcases cw_ok_v le.1 with z | ⟨f, w, k, z⟩
    · rw [z]; decide
    · omega
  have ok := rf_F_ok (A := A) (R := R) (n := K * (A : Int)) (pn := pn) hg (K * (A : Int) - 1).toNat r (wst A)
  have g0 := hg (K * (A : Int) - 1 - (((K * (A : Int) - 1).toNat : Nat) : Int)) r
  rw [show ((r.toNat : Nat) : Int) = r by omega, if_pos pk] at ler
  generalize rf_F A R (K * (A : Int)) g pn (K * (A : Int) - 1).toNat r (wst A) = x at *
  unfold ec at ler
  rcases ok with y | y
  · omega
  · rw [if_neg (show ¬ x.1 < 0 by omega)] at ler
    omega
