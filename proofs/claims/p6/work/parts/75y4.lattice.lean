/-! ===== best spirals: of two the lesser and the greater at each place are best too ===== -/
theorem sp_rs {A R : Nat} {pn : Int → Int} {F : Int → Int → Int × Int} {g p r c e : Int} {s : Int × Int} : s.1 ≤ (rf_s A R pn F g p r c e s).1 ∧ (rm_go (A : Int) (R : Int) (pn (p + 1)) p r c (r + e) → 0 ≤ (F (r + e) (rm_nc (cw_N A) c e)).1 → (F (r + e) (rm_nc (cw_N A) c e)).1 + g ≤ (rf_s A R pn F g p r c e s).1) ∧ ((rf_s A R pn F g p r c e s).1 = s.1 ∨ (rm_go (A : Int) (R : Int) (pn (p + 1)) p r c (r + e) ∧ 0 ≤ (F (r + e) (rm_nc (cw_N A) c e)).1 ∧ (F (r + e) (rm_nc (cw_N A) c e)).1 + g = (rf_s A R pn F g p r c e s).1)) := by
  unfold rf_s
  by_cases go : rm_go (A : Int) (R : Int) (pn (p + 1)) p r c (r + e)
  · rw [if_pos go]
    unfold rm_cb
    generalize F (r + e) (rm_nc (cw_N A) c e) = y
    by_cases q : y.1 < 0 ∨ y.1 + g < s.1
    · rw [if_pos q]
      exact ⟨Int.le_refl _, fun _ h => by omega, Or.inl rfl⟩
    · rw [if_neg q]
      dsimp only
      exact ⟨by omega, fun _ h => by omega, Or.inr ⟨go, by omega, rfl⟩⟩
  · rw [if_neg go]
    exact ⟨Int.le_refl _, fun h => absurd h go, Or.inl rfl⟩
/-- one step more is worth at most what the table says -/
theorem sp_ge {A R : Nat} {n : Int} {g : Int → Int → Int} {pn : Int → Int} {l : Nat} {r c e : Int} (he : -1 ≤ e ∧ e ≤ 1) (go : rm_go (A : Int) (R : Int) (pn (n - 2 - l + 1)) (n - 2 - l) r c (r + e)) (h : 0 ≤ (rf_F A R n g pn l (r + e) (rm_nc (cw_N A) c e)).1) : (rf_F A R n g pn l (r + e) (rm_nc (cw_N A) c e)).1 + g (n - 2 - l) r ≤ (rf_F A R n g pn (l + 1) r c).1 := by
  rw [rf_F]
  have a := sp_rs (A := A) (R := R) (pn := pn) (F := rf_F A R n g pn l) (g := g (n - 2 - l) r) (p := n - 2 - l) (r := r) (c := c) (e := -1) (s := (-1, 0))
  generalize rf_s A R pn (rf_F A R n g pn l) (g (n - 2 - l) r) (n - 2 - l) r c (-1) (-1, 0) = s1 at *
  have b := sp_rs (A := A) (R := R) (pn := pn) (F := rf_F A R n g pn l) (g := g (n - 2 - l) r) (p := n - 2 - l) (r := r) (c := c) (e := 0) (s := s1)
  generalize rf_s A R pn (rf_F A R n g pn l) (g (n - 2 - l) r) (n - 2 - l) r c 0 s1 = s2 at *
  have d := sp_rs (A := A) (R := R) (pn := pn) (F := rf_F A R n g pn l) (g := g (n - 2 - l) r) (p := n - 2 - l) (r := r) (c := c) (e := 1) (s := s2)
  rcases (by omega : e = -1 ∨ e = 0 ∨ e = 1) with rfl | rfl | rfl
  · have := a.2.1 go h
    have := b.1
    have := d.1
    omega
  · have := b.2.1 go h
    have := d.1
    omega
  · exact d.2.1 go h
/-- where there is a way on, one of the three changes is best -/
theorem sp_ex {A R : Nat} {n : Int} {g : Int → Int → Int} {pn : Int → Int} {l : Nat} {r c : Int} (h : 0 ≤ (rf_F A R n g pn (l + 1) r c).1) : rn A R n g pn l r c (-1) ∨ rn A R n g pn l r c 0 ∨ rn A R n g pn l r c 1 := by
  unfold rn
  rw [rf_F] at h ⊢
  have a := sp_rs (A := A) (R := R) (pn := pn) (F := rf_F A R n g pn l) (g := g (n - 2 - l) r) (p := n - 2 - l) (r := r) (c := c) (e := -1) (s := (-1, 0))
  generalize rf_s A R pn (rf_F A R n g pn l) (g (n - 2 - l) r) (n - 2 - l) r c (-1) (-1, 0) = s1 at *
  have b := sp_rs (A := A) (R := R) (pn := pn) (F := rf_F A R n g pn l) (g := g (n - 2 - l) r) (p := n - 2 - l) (r := r) (c := c) (e := 0) (s := s1)
  generalize rf_s A R pn (rf_F A R n g pn l) (g (n - 2 - l) r) (n - 2 - l) r c 0 s1 = s2 at *
  have d := sp_rs (A := A) (R := R) (pn := pn) (F := rf_F A R n g pn l) (g := g (n - 2 - l) r) (p := n - 2 - l) (r := r) (c := c) (e := 1) (s := s2)
  generalize rf_s A R pn (rf_F A R n g pn l) (g (n - 2 - l) r) (n - 2 - l) r c 1 s2 = s3 at *
  rcases d.2.2 with q | ⟨q1, q2, q3⟩
  · rcases b.2.2 with y | ⟨y1, y2, y3⟩
    · rcases a.2.2 with z | ⟨z1, z2, z3⟩
      · have : s1.1 = -1 := z
        omega
      · exact Or.inl ⟨z1, z2, by omega⟩
    · exact Or.inr (Or.inl ⟨y1, y2, by omega⟩)
  · exact Or.inr (Or.inr ⟨q1, q2, q3⟩)
/-- the changes of the last turn, along a way -/
def sp_c (A : Nat) (s : Int → Int) (c : Int) : Nat → Int
  | 0 => c
  | j + 1 => rm_nc (cw_N A) (sp_c A s c j) (s ((j : Int) + 1) - s j)
/-- grey of the last places of a way -/
def sp_t (g : Int → Int → Int) (n : Int) (s : Int → Int) : Nat → Int
  | 0 => g (n - 1) (s (n - 1))
  | l + 1 => g (n - 2 - l) (s (n - 2 - l)) + sp_t g n s l
def sp_d (L : Nat) (s : Int → Int) : Prop := ∀ j : Nat, j < L → -1 ≤ s ((j : Int) + 1) - s j ∧ s ((j : Int) + 1) - s j ≤ 1
/-- a way that may be -/
def sp_v (A R : Nat) (pn : Int → Int) (c : Int) (L : Nat) (s : Int → Int) : Prop := sp_d L s ∧ ∀ j : Nat, j < L → rm_go (A : Int) (R : Int) (pn ((j : Int) + 1)) j (s j) (sp_c A s c j) (s ((j : Int) + 1))
/-- a way that is best from place to place -/
def sp_b (A R : Nat) (n : Int) (g : Int → Int → Int) (pn : Int → Int) (c : Int) (s : Int → Int) : Prop := sp_d (n - 1).toNat s ∧ ∀ j : Nat, j < (n - 1).toNat → rn A R n g pn ((n - 1).toNat - 1 - j) (s j) (sp_c A s c j) (s ((j : Int) + 1) - s j)
theorem sp_bv {A R : Nat} {n : Int} {g : Int → Int → Int} {pn : Int → Int} {c : Int} {s : Int → Int} (h : sp_b A R n g pn c s) : sp_v A R pn c (n - 1).toNat s := by
  refine ⟨h.1, fun j hj => ?_⟩
  have x := (h.2 j hj).1
  rw [show n - 2 - (((n - 1).toNat - 1 - j : Nat) : Int) = j by omega, show s j + (s ((j : Int) + 1) - s j) = s ((j : Int) + 1) by omega] at x
  exact x
theorem sp_t0 {g : Int → Int → Int} (hg : ∀ p r, 0 ≤ g p r) {n : Int} {s : Int → Int} : ∀ l, 0 ≤ sp_t g n s l
  | 0 => hg _ _
  | l + 1 => by
    have := sp_t0 hg (n := n) (s := s) l
    have := hg (n - 2 - l) (s (n - 2 - l))
    rw [sp_t]; omega
/-- no way is worth more than the table says -/
theorem sp_le {A R : Nat} {n : Int} {g : Int → Int → Int} {pn : Int → Int} (hg : ∀ p r, 0 ≤ g p r) {c : Int} {s : Int → Int} (hv : sp_v A R pn c (n - 1).toNat s) : ∀ l : Nat, (l : Int) ≤ n - 1 → sp_t g n s l ≤ (rf_F A R n g pn l (s (n - 1 - l)) (sp_c A s c (n - 1 - l).toNat)).1 := by
  intro l
  induction l with
  | zero =>
    intro _
    rw [sp_t, rf_F, show n - 1 - ((0 : Nat) : Int) = n - 1 by omega]
    exact Int.le_refl _
  | succ l ih =>
    intro hl
    have i := ih (by omega)
    have t0 := sp_t0 hg (n := n) (s := s) l
    have j := hv.2 (n - 2 - l).toNat (by omega)
    have dd := hv.1 (n - 2 - l).toNat (by omega)
    rw [show (((n - 2 - (l : Int)).toNat : Nat) : Int) = n - 2 - l by omega] at j dd
    rw [show (n - 1 - (l : Int)).toNat = (n - 2 - l).toNat + 1 by omega, sp_c, show (((n - 2 - (l : Int)).toNat : Nat) : Int) = n - 2 - l by omega, show n - 1 - (l : Int) = n - 2 - l + 1 by omega] at i
    have x := sp_ge (A := A) (R := R) (n := n) (g := g) (pn := pn) (l := l) (r := s (n - 2 - l)) (c := sp_c A s c (n - 2 - l).toNat) (e := s (n - 2 - l + 1) - s (n - 2 - l)) dd (by
      rw [show s (n - 2 - l) + (s (n - 2 - l + 1) - s (n - 2 - l)) = s (n - 2 - l + 1) by omega]; exact j) (by
      rw [show s (n - 2 - l) + (s (n - 2 - l + 1) - s (n - 2 - l)) = s (n - 2 - l + 1) by omega]; omega)
    rw [show s (n - 2 - l) + (s (n - 2 - l + 1) - s (n - 2 - l)) = s (n - 2 - l + 1) by omega] at x
    rw [sp_t, show n - 1 - ((l + 1 : Nat) : Int) = n - 2 - l by omega]
    omega
/-- a best way is worth just that -/
theorem sp_be {A R : Nat} {n : Int} {g : Int → Int → Int} {pn : Int → Int} {c : Int} {s : Int → Int} (hv : sp_b A R n g pn c s) : ∀ l : Nat, (l : Int) ≤ n - 1 → sp_t g n s l = (rf_F A R n g pn l (s (n - 1 - l)) (sp_c A s c (n - 1 - l).toNat)).1 := by
  intro l
  induction l with
  | zero =>
    intro _
    rw [sp_t, rf_F, show n - 1 - ((0 : Nat) : Int) = n - 1 by omega]
  | succ l ih =>
    intro hl
    have i := ih (by omega)
    have j := (hv.2 (n - 2 - l).toNat (by omega)).2.2
    rw [show (n - 1).toNat - 1 - (n - 2 - (l : Int)).toNat = l by omega, show (((n - 2 - (l : Int)).toNat : Nat) : Int) = n - 2 - l by omega, show s (n - 2 - l) + (s (n - 2 - l + 1) - s (n - 2 - l)) = s (n - 2 - l + 1) by omega] at j
    rw [show (n - 1 - (l : Int)).toNat = (n - 2 - l).toNat + 1 by omega, sp_c, show (((n - 2 - (l : Int)).toNat : Nat) : Int) = n - 2 - l by omega, show n - 1 - (l : Int) = n - 2 - l + 1 by omega] at i
    rw [sp_t, show n - 1 - ((l + 1 : Nat) : Int) = n - 2 - l by omega, i]
    omega
/-- a way that is worth what the table says is best -/
theorem sp_vb {A R : Nat} {n : Int} {g : Int → Int → Int} {pn : Int → Int} (hg : ∀ p r, 0 ≤ g p r) {c : Int} {s : Int → Int} (hn : 1 ≤ n) (hv : sp_v A R pn c (n - 1).toNat s) (he : sp_t g n s (n - 1).toNat = (rf_F A R n g pn (n - 1).toNat (s 0) c).1) : sp_b A R n g pn c s := by
  have st : ∀ l : Nat, (l : Int) + 1 ≤ n - 1 → sp_t g n s (l + 1) = (rf_F A R n g pn (l + 1) (s (n - 2 - l)) (sp_c A s c (n - 2 - l).toNat)).1 → sp_t g n s l = (rf_F A R n g pn l (s (n - 1 - l)) (sp_c A s c (n - 1 - l).toNat)).1 ∧ rn A R n g pn l (s (n - 2 - l)) (sp_c A s c (n - 2 - l).toNat) (s (n - 2 - l + 1) - s (n - 2 - l)) := by
    intro l hl e
    have i := sp_le (g := g) hg hv l (by omega)
    have t0 := sp_t0 hg (n := n) (s := s) l
    have j := hv.2 (n - 2 - l).toNat (by omega)
    have dd := hv.1 (n - 2 - l).toNat (by omega)
    rw [show (((n - 2 - (l : Int)).toNat : Nat) : Int) = n - 2 - l by omega] at j dd
    rw [show (n - 1 - (l : Int)).toNat = (n - 2 - l).toNat + 1 by omega, sp_c, show (((n - 2 - (l : Int)).toNat : Nat) : Int) = n - 2 - l by omega, show n - 1 - (l : Int) = n - 2 - l + 1 by omega] at i ⊢
    have x := sp_ge (A := A) (R := R) (n := n) (g := g) (pn := pn) (l := l) (r := s (n - 2 - l)) (c := sp_c A s c (n - 2 - l).toNat) (e := s (n - 2 - l + 1) - s (n - 2 - l)) dd (by
      rw [show s (n - 2 - l) + (s (n - 2 - l + 1) - s (n - 2 - l)) = s (n - 2 - l + 1) by omega]; exact j) (by
      rw [show s (n - 2 - l) + (s (n - 2 - l + 1) - s (n - 2 - l)) = s (n - 2 - l + 1) by omega]; omega)
    unfold rn
    rw [show s (n - 2 - l) + (s (n - 2 - l + 1) - s (n - 2 - l)) = s (n - 2 - l + 1) by omega] at x ⊢
    rw [sp_t] at e
    exact ⟨by omega, j, by omega, by omega⟩
  have all : ∀ k : Nat, (k : Int) ≤ n - 1 → sp_t g n s ((n - 1).toNat - k) = (rf_F A R n g pn ((n - 1).toNat - k) (s k) (sp_c A s c k)).1 := by
    intro k
    induction k with
    | zero =>
      intro _
      rw [Nat.sub_zero]
      exact he
    | succ k ih =>
      intro hk
      have i := ih (by omega)
      have e1 : (n - 1).toNat - k = ((n - 1).toNat - (k + 1)) + 1 := by omega
      have e2 : n - 2 - (((n - 1).toNat - (k + 1) : Nat) : Int) = k := by omega
      have e3 : n - 1 - (((n - 1).toNat - (k + 1) : Nat) : Int) = ((k + 1 : Nat) : Int) := by omega
      rw [e1] at i
      have z := (st ((n - 1).toNat - (k + 1)) (by omega) (by rw [e2, Int.toNat_natCast]; exact i)).1
      rw [e3, Int.toNat_natCast] at z
      exact z
  refine ⟨hv.1, fun j hj => ?_⟩
  have e2 : n - 2 - (((n - 1).toNat - 1 - j : Nat) : Int) = j := by omega
  have i := all j (by omega)
  rw [show (n - 1).toNat - j = ((n - 1).toNat - 1 - j) + 1 by omega] at i
  have z := (st ((n - 1).toNat - 1 - j) (by omega) (by rw [e2, Int.toNat_natCast]; exact i)).2
  rw [e2, Int.toNat_natCast] at z
  exact z
/-! the radius a turn ahead, along a way -/
theorem sp_em {M c : Int} (hM : 0 < M) (hc : 0 ≤ c) : (c % (3 * M)) % 3 = c % 3 ∧ (c % (3 * M)) / 3 = (c / 3) % M ∧ 0 ≤ c % (3 * M) := by
  have z0 := Int.emod_nonneg (c / 3) (b := M) (by omega)
  have z1 := Int.emod_lt_of_pos (c / 3) hM
  have e := Int.mul_ediv_add_emod (c / 3) M
  generalize (c / 3) % M = z at *
  generalize hq : (c / 3) / M = q at *
  have ec : c = (3 * z + c % 3) + 3 * M * q := by
    have : 3 * M * q = 3 * (M * q) := Int.mul_assoc 3 M q
    omega
  have em : c % (3 * M) = 3 * z + c % 3 := by
    conv => lhs; rw [ec]
    rw [Int.add_mul_emod_self_left]
    exact Int.emod_eq_of_lt (by omega) (by omega)
  rw [em]
  omega
theorem sp_om : ∀ (m k : Nat) (r c : Int), m ≤ k → 0 ≤ c → rm_old m r (c % ((3 ^ k : Nat) : Int)) = rm_old m r c
  | 0, _, _, _, _, _ => rfl
  | m + 1, 0, r, c, h, _ => by omega
  | m + 1, k + 1, r, c, h, hc => by
    have p : 0 < ((3 ^ k : Nat) : Int) := by have := Nat.pow_pos (n := k) (show 0 < 3 by decide); omega
    have e : ((3 ^ (k + 1) : Nat) : Int) = 3 * ((3 ^ k : Nat) : Int) := by rw [Nat.pow_succ]; omega
    have s := sp_em p hc
    have i := fun r => sp_om m k r (c / 3) (by omega) (by omega)
    rw [e, rm_old, rm_old, Int.tmod_eq_emod_of_nonneg s.2.2, Int.tmod_eq_emod_of_nonneg hc, Int.tdiv_eq_ediv_of_nonneg s.2.2, Int.tdiv_eq_ediv_of_nonneg hc, s.1, s.2.1, i]
theorem sp_cb {A : Nat} (hA : 3 ≤ A ∧ A ≤ 6) {s : Int → Int} {c : Int} (hc : 0 ≤ c) {L : Nat} (hd : sp_d L s) : ∀ j, j ≤ L → 0 ≤ sp_c A s c j
  | 0, _ => hc
  | j + 1, h => by
    have i := sp_cb hA hc hd j (by omega)
    have d := hd j (by omega)
    have hN := cw_Nb hA
    rw [sp_c]
    exact (rm_ncb (by omega) (by omega)).1
theorem sp_old {A : Nat} (hA : 3 ≤ A ∧ A ≤ 6) {s : Int → Int} {c : Int} (hc : 0 ≤ c) {L : Nat} (hd : sp_d L s) : ∀ (m p : Nat), m ≤ p → p ≤ L → m ≤ A - 1 → rm_old m (s p) (sp_c A s c p) = s ((p : Int) - m)
  | 0, p, _, _, _ => by rw [rm_old, show (p : Int) - ((0 : Nat) : Int) = p by omega]
  | m + 1, 0, h, _, _ => by omega
  | m + 1, p + 1, h, hp, hm => by
    have i := sp_old hA hc hd m p (by omega) (by omega) (by omega)
    have d := hd p (by omega)
    have cb := sp_cb hA hc hd p (by omega)
    have e : cw_N A = 3 * ((3 ^ (A - 2) : Nat) : Int) := by
      unfold cw_N
      rw [show A - 1 = (A - 2) + 1 by omega, Nat.pow_succ]; omega
    have pM : 0 < ((3 ^ (A - 2) : Nat) : Int) := by have := Nat.pow_pos (n := A - 2) (show 0 < 3 by decide); omega
    have om := sp_om m (A - 2) (s p) (sp_c A s c p) (by omega) cb
    have x0 : 0 ≤ 3 * sp_c A s c p + (s ((p : Int) + 1) - s p) + 1 := by omega
    have se := sp_em pM x0
    rw [rm_old, sp_c]
    unfold rm_nc
    rw [Int.tmod_eq_emod_of_nonneg x0, e, Int.tmod_eq_emod_of_nonneg se.2.2, Int.tdiv_eq_ediv_of_nonneg se.2.2, se.1, se.2.1]
    have d3 : (3 * sp_c A s c p + (s ((p : Int) + 1) - s p) + 1) / 3 = sp_c A s c p := by omega
    have m3 : (3 * sp_c A s c p + (s ((p : Int) + 1) - s p) + 1) % 3 = s ((p : Int) + 1) - s p + 1 := by omega
    rw [d3, m3, show s ((p + 1 : Nat) : Int) = s ((p : Int) + 1) from congrArg s (by omega), show s ((p : Int) + 1) - (s ((p : Int) + 1) - s p + 1 - 1) = s p by omega, om, i]
    exact congrArg s (by omega)
/-- a way that may be, by its radii alone -/
def sp_g (A R : Nat) (pn : Int → Int) (L : Nat) (s : Int → Int) : Prop := sp_d L s ∧ ∀ j : Nat, j < L → (0 ≤ s ((j : Int) + 1) ∧ s ((j : Int) + 1) ≤ (R : Int) - 1) ∧ (pn ((j : Int) + 1) < 0 ∨ pn ((j : Int) + 1) = s ((j : Int) + 1)) ∧ ((j : Int) + 1 < A ∨ s ((j : Int) + 1 - A) < s ((j : Int) + 1))
theorem sp_vg {A R : Nat} (hA : 3 ≤ A ∧ A ≤ 6) {pn : Int → Int} {c : Int} (hc : 0 ≤ c) {L : Nat} {s : Int → Int} : sp_v A R pn c L s ↔ sp_g A R pn L s := by
  have key : sp_d L s → ∀ j : Nat, j < L → A ≤ j + 1 → rm_old ((A : Int) - 1).toNat (s j) (sp_c A s c j) = s ((j : Int) + 1 - A) := fun hd j hj ha => by
    rw [show ((A : Int) - 1).toNat = A - 1 by omega, sp_old hA hc hd (A - 1) j (by omega) (by omega) (Nat.le_refl _)]
    exact congrArg s (by omega)
  constructor
  · rintro ⟨hd, h⟩
    refine ⟨hd, fun j hj => ?_⟩
    obtain ⟨a, b, e⟩ := h j hj
    refine ⟨a, b, ?_⟩
    by_cases q : (j : Int) + 1 < A
    · exact Or.inl q
    · rw [key hd j hj (by omega)] at e
      exact e
  · rintro ⟨hd, h⟩
    refine ⟨hd, fun j hj => ?_⟩
    obtain ⟨a, b, e⟩ := h j hj
    refine ⟨a, b, ?_⟩
    by_cases q : (j : Int) + 1 < A
    · exact Or.inl q
    · rw [key hd j hj (by omega)]
      exact e
def sp_mi (s t : Int → Int) : Int → Int := fun p => min (s p) (t p)
def sp_ma (s t : Int → Int) : Int → Int := fun p => max (s p) (t p)
theorem sp_gm {A R : Nat} {pn : Int → Int} {L : Nat} {s t : Int → Int} (hs : sp_g A R pn L s) (ht : sp_g A R pn L t) : sp_g A R pn L (sp_mi s t) ∧ sp_g A R pn L (sp_ma s t) := by
  refine ⟨⟨fun j hj => ?_, fun j hj => ?_⟩, ⟨fun j hj => ?_, fun j hj => ?_⟩⟩
  · have a := hs.1 j hj
    have b := ht.1 j hj
    unfold sp_mi; omega
  · have a := hs.2 j hj
    have b := ht.2 j hj
    unfold sp_mi; omega
  · have a := hs.1 j hj
    have b := ht.1 j hj
    unfold sp_ma; omega
  · have a := hs.2 j hj
    have b := ht.2 j hj
    unfold sp_ma; omega
theorem sp_tm {g : Int → Int → Int} {n : Int} {s t : Int → Int} : ∀ l, sp_t g n (sp_mi s t) l + sp_t g n (sp_ma s t) l = sp_t g n s l + sp_t g n t l := by
  have one : ∀ p, g p (sp_mi s t p) + g p (sp_ma s t p) = g p (s p) + g p (t p) := fun p => by
    unfold sp_mi sp_ma
    by_cases q : s p ≤ t p
    · rw [Int.min_eq_left q, Int.max_eq_right q]
    · rw [Int.min_eq_right (by omega), Int.max_eq_left (by omega)]; omega
  intro l
  induction l with
  | zero => rw [sp_t, sp_t, sp_t, sp_t]; exact one _
  | succ l ih =>
    have o := one (n - 2 - l)
    rw [sp_t, sp_t, sp_t, sp_t]; omega
/-- the best spirals: B is the best fit of all -/
def sp_B (A R : Nat) (n : Int) (g : Int → Int → Int) (pn : Int → Int) (c B : Int) (s : Int → Int) : Prop := ((0 ≤ s 0 ∧ s 0 < (R : Int)) ∧ (pn 0 < 0 ∨ pn 0 = s 0) ∧ (rf_F A R n g pn (n - 1).toNat (s 0) c).1 = B) ∧ sp_b A R n g pn c s
theorem sp_Bm {A R : Nat} (hA : 3 ≤ A ∧ A ≤ 6) {n : Int} (hn : 1 ≤ n) {g : Int → Int → Int} (hg : ∀ p r, 0 ≤ g p r) {pn : Int → Int} {c B : Int} (hc : 0 ≤ c) (hM : ∀ r, 0 ≤ r → r < (R : Int) → (pn 0 < 0 ∨ pn 0 = r) → (rf_F A R n g pn (n - 1).toNat r c).1 ≤ B) {s t : Int → Int} (hs : sp_B A R n g pn c B s) (ht : sp_B A R n g pn c B t) : sp_B A R n g pn c B (sp_mi s t) ∧ sp_B A R n g pn c B (sp_ma s t) := by
  have z : n - 1 - (((n - 1).toNat : Nat) : Int) = 0 := by omega
  have es := sp_be hs.2 (n - 1).toNat (by omega)
  have et := sp_be ht.2 (n - 1).toNat (by omega)
  rw [z] at es et
  have c0 : ∀ u : Int → Int, sp_c A u c (0 : Int).toNat = c := fun u => rfl
  rw [c0, hs.1.2.2] at es
  rw [c0, ht.1.2.2] at et
  obtain ⟨gm, gM⟩ := sp_gm ((sp_vg hA hc).mp (sp_bv hs.2)) ((sp_vg hA hc).mp (sp_bv ht.2))
  have vm := (sp_vg (R := R) (pn := pn) hA hc).mpr gm
  have vM := (sp_vg (R := R) (pn := pn) hA hc).mpr gM
  have lm := sp_le (g := g) hg vm (n - 1).toNat (by omega)
  have lM := sp_le (g := g) hg vM (n - 1).toNat (by omega)
  rw [z, c0] at lm lM
  have sum := sp_tm (g := g) (n := n) (s := s) (t := t) (n - 1).toNat
  have s1 := hs.1
  have t1 := ht.1
  have im : (0 ≤ sp_mi s t 0 ∧ sp_mi s t 0 < (R : Int)) ∧ (pn 0 < 0 ∨ pn 0 = sp_mi s t 0) := by unfold sp_mi; omega
  have iM : (0 ≤ sp_ma s t 0 ∧ sp_ma s t 0 < (R : Int)) ∧ (pn 0 < 0 ∨ pn 0 = sp_ma s t 0) := by unfold sp_ma; omega
  have bm := hM _ im.1.1 im.1.2 im.2
  have bM := hM _ iM.1.1 iM.1.2 iM.2
  exact ⟨⟨⟨im.1, im.2, by omega⟩, sp_vb hg hn vm (by omega)⟩, ⟨⟨iM.1, iM.2, by omega⟩, sp_vb hg hn vM (by omega)⟩⟩
/-! the way by the least changes, and that by the greatest -/
def sp_G (A : Nat) (ch : Nat → Int → Int → Int) : Nat → Int → Int → Nat → Int × Int
  | _, r, c, 0 => (r, c)
  | 0, r, c, _ + 1 => (r, c)
  | l + 1, r, c, j + 1 => sp_G A ch l (r + ch l r c) (rm_nc (cw_N A) c (ch l r c)) j
theorem sp_Gq {A R : Nat} {n : Int} {g : Int → Int → Int} {pn : Int → Int} : ∀ (l : Nat) (r c : Int) (j : Nat), rq A R n g pn l r c j = sp_G A (re A R n g pn) l r c j
  | l, r, c, 0 => by rw [rq, sp_G]
  | 0, r, c, j + 1 => by rw [rq, sp_G]
  | l + 1, r, c, j + 1 => by rw [rq, sp_G, sp_Gq l]
theorem sp_GQ {A R : Nat} {n : Int} {g : Int → Int → Int} {pn : Int → Int} : ∀ (l : Nat) (r c : Int) (j : Nat), rQ A R n g pn l r c j = sp_G A (rE A R n g pn) l r c j
  | l, r, c, 0 => by rw [rQ, sp_G]
  | 0, r, c, j + 1 => by rw [rQ, sp_G]
  | l + 1, r, c, j + 1 => by rw [rQ, sp_G, sp_GQ l]
theorem sp_Gs {A : Nat} {ch : Nat → Int → Int → Int} : ∀ (j l : Nat) (r c : Int), j < l → sp_G A ch l r c (j + 1) = ((sp_G A ch l r c j).1 + ch (l - 1 - j) (sp_G A ch l r c j).1 (sp_G A ch l r c j).2, rm_nc (cw_N A) (sp_G A ch l r c j).2 (ch (l - 1 - j) (sp_G A ch l r c j).1 (sp_G A ch l r c j).2))
  | j, 0, r, c, h => by omega
  | 0, l + 1, r, c, h => by
    rw [sp_G, sp_G, sp_G, show l + 1 - 1 - 0 = l by omega]
  | j + 1, l + 1, r, c, h => by
    rw [sp_G, sp_Gs j l _ _ (by omega), sp_G, show l + 1 - 1 - (j + 1) = l - 1 - j by omega]
theorem sp_Gb {A R : Nat} {n : Int} {g : Int → Int → Int} {pn : Int → Int} {ch : Nat → Int → Int → Int} (hch : ∀ l r c, 0 ≤ (rf_F A R n g pn (l + 1) r c).1 → rn A R n g pn l r c (ch l r c) ∧ -1 ≤ ch l r c ∧ ch l r c ≤ 1) {r0 c : Int} (h0 : 0 ≤ (rf_F A R n g pn (n - 1).toNat r0 c).1) : sp_b A R n g pn c (fun p => (sp_G A ch (n - 1).toNat r0 c p.toNat).1) ∧ ∀ j, j ≤ (n - 1).toNat → sp_c A (fun p => (sp_G A ch (n - 1).toNat r0 c p.toNat).1) c j = (sp_G A ch (n - 1).toNat r0 c j).2 := by
  have ps : ∀ j : Nat, ((j : Int) + 1).toNat = j + 1 := fun j => by omega
  have F : ∀ j, j ≤ (n - 1).toNat → 0 ≤ (rf_F A R n g pn ((n - 1).toNat - j) (sp_G A ch (n - 1).toNat r0 c j).1 (sp_G A ch (n - 1).toNat r0 c j).2).1 := by
    intro j
    induction j with
    | zero => intro _; rw [Nat.sub_zero, sp_G]; exact h0
    | succ j ih =>
      intro hj
      have i := ih (by omega)
      rw [show (n - 1).toNat - j = ((n - 1).toNat - 1 - j) + 1 by omega] at i
      have x := (hch _ _ _ i).1.2.1
      rw [sp_Gs j _ _ _ (by omega), show (n - 1).toNat - (j + 1) = (n - 1).toNat - 1 - j by omega]
      exact x
  have C : ∀ j, j ≤ (n - 1).toNat → sp_c A (fun p => (sp_G A ch (n - 1).toNat r0 c p.toNat).1) c j = (sp_G A ch (n - 1).toNat r0 c j).2 := by
    intro j
    induction j with
    | zero => intro _; rw [sp_c, sp_G]
    | succ j ih =>
      intro hj
      rw [sp_c, ih (by omega)]
      try dsimp only
      rw [ps j, Int.toNat_natCast, sp_Gs j _ _ _ (by omega)]
      dsimp only
      congr 1
      omega
  have st : ∀ j, j < (n - 1).toNat → (sp_G A ch (n - 1).toNat r0 c (j + 1)).1 - (sp_G A ch (n - 1).toNat r0 c j).1 = ch ((n - 1).toNat - 1 - j) (sp_G A ch (n - 1).toNat r0 c j).1 (sp_G A ch (n - 1).toNat r0 c j).2 := fun j hj => by
    rw [sp_Gs j _ _ _ hj]
    dsimp only
    omega
  have hc2 : ∀ j, j < (n - 1).toNat → _ := fun j hj => hch ((n - 1).toNat - 1 - j) _ _ (by
    have f := F j (by omega)
    rw [show (n - 1).toNat - j = ((n - 1).toNat - 1 - j) + 1 by omega] at f
    exact f)
  refine ⟨⟨fun j hj => ?_, fun j hj => ?_⟩, C⟩
  · have h := (hc2 j hj).2
    dsimp only
    rw [ps j, Int.toNat_natCast, st j hj]
    exact h
  · have h := (hc2 j hj).1
    rw [C j (by omega)]
    dsimp only
    rw [ps j, Int.toNat_natCast, st j hj]
    exact h
theorem sp_re {A R : Nat} {n : Int} {g : Int → Int → Int} {pn : Int → Int} (l : Nat) (r c : Int) (h : 0 ≤ (rf_F A R n g pn (l + 1) r c).1) : rn A R n g pn l r c (re A R n g pn l r c) ∧ -1 ≤ re A R n g pn l r c ∧ re A R n g pn l r c ≤ 1 := by
  have x := sp_ex h
  unfold re
  by_cases a : rn A R n g pn l r c (-1)
  · rw [if_pos a]; exact ⟨a, by decide, by decide⟩
  · rw [if_neg a]
    by_cases b : rn A R n g pn l r c 0
    · rw [if_pos b]; exact ⟨b, by decide, by decide⟩
    · rw [if_neg b]
      exact ⟨(x.resolve_left a).resolve_left b, by decide, by decide⟩
theorem sp_rE {A R : Nat} {n : Int} {g : Int → Int → Int} {pn : Int → Int} (l : Nat) (r c : Int) (h : 0 ≤ (rf_F A R n g pn (l + 1) r c).1) : rn A R n g pn l r c (rE A R n g pn l r c) ∧ -1 ≤ rE A R n g pn l r c ∧ rE A R n g pn l r c ≤ 1 := by
  have x := sp_ex h
  unfold rE
  by_cases a : rn A R n g pn l r c 1
  · rw [if_pos a]; exact ⟨a, by decide, by decide⟩
  · rw [if_neg a]
    by_cases b : rn A R n g pn l r c 0
    · rw [if_pos b]; exact ⟨b, by decide, by decide⟩
    · rw [if_neg b]
      exact ⟨x.resolve_right (fun y => y.elim b a), by decide, by decide⟩
/-- a best way from the same place that is never below (above) this one is this one -/
theorem sp_lx {A R : Nat} {n : Int} {g : Int → Int → Int} {pn : Int → Int} {ch : Nat → Int → Int → Int} {c : Int} {s t : Int → Int} (hs : sp_b A R n g pn c s) (ht : sp_b A R n g pn c t) (hsc : ∀ j : Nat, j < (n - 1).toNat → s ((j : Int) + 1) - s j = ch ((n - 1).toNat - 1 - j) (s j) (sp_c A s c j)) (e0 : t 0 = s 0)
    (h : ∀ j : Nat, j < (n - 1).toNat → ∀ e, -1 ≤ e → e ≤ 1 → rn A R n g pn ((n - 1).toNat - 1 - j) (s j) (sp_c A s c j) e → t ((j : Int) + 1) = s j + e → e = ch ((n - 1).toNat - 1 - j) (s j) (sp_c A s c j)) : ∀ j : Nat, j ≤ (n - 1).toNat → t j = s j ∧ sp_c A t c j = sp_c A s c j
  | 0, _ => ⟨e0, rfl⟩
  | j + 1, hj => by
    obtain ⟨i1, i2⟩ := sp_lx hs ht hsc e0 h j (by omega)
    have r := ht.2 j (by omega)
    have d := ht.1 j (by omega)
    rw [i1, i2] at r
    rw [i1] at d
    have x := h j (by omega) _ d.1 d.2 r (by omega)
    have y := hsc j (by omega)
    have z : t ((j : Int) + 1) = s ((j : Int) + 1) := by omega
    have cs : ((j + 1 : Nat) : Int) = (j : Int) + 1 := by omega
    refine ⟨by rw [cs]; exact z, ?_⟩
    rw [sp_c, sp_c, i1, i2, z]
/-- no best spiral is below the one by the least changes, none above the one by the greatest -/
theorem sp_su {A R : Nat} (hA : 3 ≤ A ∧ A ≤ 6) {n : Int} (hn : 1 ≤ n) {g : Int → Int → Int} (hg : ∀ p r, 0 ≤ g p r) {pn : Int → Int} {c B : Int} (hc : 0 ≤ c) (hB : 0 ≤ B) (hM : ∀ r, 0 ≤ r → r < (R : Int) → (pn 0 < 0 ∨ pn 0 = r) → (rf_F A R n g pn (n - 1).toNat r c).1 ≤ B) {r0 r1 : Int}
    (h0 : ((0 ≤ r0 ∧ r0 < (R : Int)) ∧ (pn 0 < 0 ∨ pn 0 = r0) ∧ (rf_F A R n g pn (n - 1).toNat r0 c).1 = B) ∧ ∀ r, 0 ≤ r → r < r0 → ¬ ((pn 0 < 0 ∨ pn 0 = r) ∧ (rf_F A R n g pn (n - 1).toNat r c).1 = B))
    (h1 : ((0 ≤ r1 ∧ r1 < (R : Int)) ∧ (pn 0 < 0 ∨ pn 0 = r1) ∧ (rf_F A R n g pn (n - 1).toNat r1 c).1 = B) ∧ ∀ r, r1 < r → r < (R : Int) → ¬ ((pn 0 < 0 ∨ pn 0 = r) ∧ (rf_F A R n g pn (n - 1).toNat r c).1 = B)) :
    sp_B A R n g pn c B (fun p => rp A R n g pn (n - 1).toNat r0 c p.toNat) ∧ sp_B A R n g pn c B (fun p => rP A R n g pn (n - 1).toNat r1 c p.toNat) ∧ ∀ t, sp_B A R n g pn c B t → ∀ p, 0 ≤ p → p < n → rp A R n g pn (n - 1).toNat r0 c p.toNat ≤ t p ∧ t p ≤ rP A R n g pn (n - 1).toNat r1 c p.toNat := by
  have e1 : (fun p : Int => rp A R n g pn (n - 1).toNat r0 c p.toNat) = fun p => (sp_G A (re A R n g pn) (n - 1).toNat r0 c p.toNat).1 := funext fun p => by rw [rp_rq, sp_Gq]
  have e2 : (fun p : Int => rP A R n g pn (n - 1).toNat r1 c p.toNat) = fun p => (sp_G A (rE A R n g pn) (n - 1).toNat r1 c p.toNat).1 := funext fun p => by rw [rP_rQ, sp_GQ]
  have b1 := sp_Gb (A := A) (R := R) (n := n) (g := g) (pn := pn) (ch := re A R n g pn) sp_re (r0 := r0) (c := c) (by rw [h0.1.2.2]; exact hB)
  have b2 := sp_Gb (A := A) (R := R) (n := n) (g := g) (pn := pn) (ch := rE A R n g pn) sp_rE (r0 := r1) (c := c) (by rw [h1.1.2.2]; exact hB)
  have ps : ∀ j : Nat, ((j : Int) + 1).toNat = j + 1 := fun j => by omega
  have z1 : (sp_G A (re A R n g pn) (n - 1).toNat r0 c (0 : Int).toNat).1 = r0 := by rw [show (0 : Int).toNat = 0 from rfl, sp_G]
  have z2 : (sp_G A (rE A R n g pn) (n - 1).toNat r1 c (0 : Int).toNat).1 = r1 := by rw [show (0 : Int).toNat = 0 from rfl, sp_G]
  have B1 : sp_B A R n g pn c B (fun p => (sp_G A (re A R n g pn) (n - 1).toNat r0 c p.toNat).1) := ⟨by dsimp only; rw [z1]; exact h0.1, b1.1⟩
  have B2 : sp_B A R n g pn c B (fun p => (sp_G A (rE A R n g pn) (n - 1).toNat r1 c p.toNat).1) := ⟨by dsimp only; rw [z2]; exact h1.1, b2.1⟩
  rw [e1, e2]
  refine ⟨B1, B2, fun t ht p p0 p1 => ?_⟩
  have q1 := congrFun e1 p
  have q2 := congrFun e2 p
  try dsimp only at q1 q2
  rw [q1, q2]
  have ec : ((p.toNat : Nat) : Int) = p := by omega
  have sc : ∀ (ch : Nat → Int → Int → Int) (rr : Int), (∀ j, j ≤ (n - 1).toNat → sp_c A (fun p => (sp_G A ch (n - 1).toNat rr c p.toNat).1) c j = (sp_G A ch (n - 1).toNat rr c j).2) → ∀ j : Nat, j < (n - 1).toNat → (fun p : Int => (sp_G A ch (n - 1).toNat rr c p.toNat).1) ((j : Int) + 1) - (fun p : Int => (sp_G A ch (n - 1).toNat rr c p.toNat).1) j = ch ((n - 1).toNat - 1 - j) ((fun p : Int => (sp_G A ch (n - 1).toNat rr c p.toNat).1) j) (sp_c A (fun p => (sp_G A ch (n - 1).toNat rr c p.toNat).1) c j) := fun ch rr hcc j hj => by
    rw [hcc j (by omega)]
    dsimp only
    rw [ps j, Int.toNat_natCast, sp_Gs j _ _ _ hj]
    dsimp only
    omega
  constructor
  · -- the least
    have m := (sp_Bm hA hn hg hc hM B1 ht).1
    have sc1 := sc (re A R n g pn) r0 b1.2
    generalize hs : (fun p : Int => (sp_G A (re A R n g pn) (n - 1).toNat r0 c p.toNat).1) = s at *
    have s0 : s 0 = r0 := by rw [← hs]; exact z1
    have t0 : r0 ≤ t 0 := by
      by_cases q : t 0 < r0
      · exact absurd ⟨ht.1.2.1, ht.1.2.2⟩ (h0.2 _ ht.1.1.1 q)
      · omega
    have x := sp_lx (ch := re A R n g pn) B1.2 m.2 sc1 (by unfold sp_mi; omega) (fun j hj e ea eb hr he => by
      have y := sc1 j hj
      have le : sp_mi s t ((j : Int) + 1) ≤ s ((j : Int) + 1) := by unfold sp_mi; omega
      generalize hL : (n - 1).toNat - 1 - j = l at *
      generalize sp_c A s c j = cc at *
      unfold re at y ⊢
      by_cases a : rn A R n g pn l (s j) cc (-1)
      · rw [if_pos a] at y ⊢; omega
      · rw [if_neg a] at y ⊢
        by_cases b : rn A R n g pn l (s j) cc 0
        · rw [if_pos b] at y ⊢
          by_cases q : e = -1
          · rw [q] at hr; exact absurd hr a
          · omega
        · rw [if_neg b] at y ⊢
          by_cases q : e = -1
          · rw [q] at hr; exact absurd hr a
          · by_cases q0 : e = 0
            · rw [q0] at hr; exact absurd hr b
            · omega) p.toNat (by omega)
    have x1 := x.1
    rw [ec] at x1
    have : s p = (sp_G A (re A R n g pn) (n - 1).toNat r0 c p.toNat).1 := by rw [← hs]
    rw [← this, ← x1]
    unfold sp_mi; omega
  · -- the greatest
    have m := (sp_Bm hA hn hg hc hM B2 ht).2
    have sc1 := sc (rE A R n g pn) r1 b2.2
    generalize hs : (fun p : Int => (sp_G A (rE A R n g pn) (n - 1).toNat r1 c p.toNat).1) = s at *
    have s0 : s 0 = r1 := by rw [← hs]; exact z2
    have t0 : t 0 ≤ r1 := by
      by_cases q : r1 < t 0
      · exact absurd ⟨ht.1.2.1, ht.1.2.2⟩ (h1.2 _ q ht.1.1.2)
      · omega
    have x := sp_lx (ch := rE A R n g pn) B2.2 m.2 sc1 (by unfold sp_ma; omega) (fun j hj e ea eb hr he => by
      have y := sc1 j hj
      have le : s ((j : Int) + 1) ≤ sp_ma s t ((j : Int) + 1) := by unfold sp_ma; omega
      generalize hL : (n - 1).toNat - 1 - j = l at *
      generalize sp_c A s c j = cc at *
      unfold rE at y ⊢
      by_cases a : rn A R n g pn l (s j) cc 1
      · rw [if_pos a] at y ⊢; omega
      · rw [if_neg a] at y ⊢
        by_cases b : rn A R n g pn l (s j) cc 0
        · rw [if_pos b] at y ⊢
          by_cases q : e = 1
          · rw [q] at hr; exact absurd hr a
          · omega
        · rw [if_neg b] at y ⊢
          by_cases q : e = 1
          · rw [q] at hr; exact absurd hr a
          · by_cases q0 : e = 0
            · rw [q0] at hr; exact absurd hr b
            · omega) p.toNat (by omega)
    have x1 := x.1
    rw [ec] at x1
    have : s p = (sp_G A (rE A R n g pn) (n - 1).toNat r1 c p.toNat).1 := by rw [← hs]
    rw [← this, ← x1]
    unfold sp_ma; omega
