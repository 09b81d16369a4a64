/-! ===== sets of parts: sums, hours, the rows of the class ===== -/
def qk_s (t : Int → Int) (b : Nat → Bool) : Nat → Int
  | 0 => 0
  | n + 1 => qk_s t b n + (if b n = true then t n else 0)
theorem qk_sc {t t' : Int → Int} {b c : Nat → Bool} : ∀ (n : Nat), (∀ k : Nat, k < n → b k = c k ∧ t k = t' k) → qk_s t b n = qk_s t' c n
  | 0, _ => rfl
  | n + 1, h => by
    rw [qk_s, qk_s, qk_sc n (fun k hk => h k (by omega)), (h n (by omega)).1, (h n (by omega)).2]
def qk_1 (b : Nat → Bool) (m : Nat) (x : Bool) : Nat → Bool := fun k => if k = m then x else b k
theorem qk_1e {b : Nat → Bool} {m : Nat} {x : Bool} : qk_1 b m x m = x := by simp [qk_1]
theorem qk_1n {b : Nat → Bool} {m k : Nat} {x : Bool} (h : k ≠ m) : qk_1 b m x k = b k := by simp [qk_1, h]
theorem qk_s1 {t : Int → Int} {b : Nat → Bool} {m : Nat} (hb : b m = false) : ∀ (n : Nat), m < n → qk_s t (qk_1 b m true) n = qk_s t b n + t m
  | 0, h => by omega
  | n + 1, h => by
    rw [qk_s, qk_s]
    by_cases e : m = n
    · subst e
      rw [qk_sc (t' := t) (c := b) m (fun k hk => ⟨qk_1n (by omega), rfl⟩), qk_1e, hb, if_pos rfl, if_neg (by decide)]
      omega
    · rw [qk_s1 hb n (by omega), qk_1n (by omega)]
      generalize (if b n = true then t n else 0) = z
      omega
theorem qk_sb {t : Int → Int} {b : Nat → Bool} {B : Int} : ∀ (n : Nat), (∀ k : Nat, k < n → 0 ≤ t k ∧ t k ≤ B) → 0 ≤ qk_s t b n ∧ qk_s t b n ≤ B * n
  | 0, _ => by rw [qk_s]; simp
  | n + 1, h => by
    have i := qk_sb (b := b) n (fun k hk => h k (by omega))
    have j := h n (by omega)
    have c : ((n + 1 : Nat) : Int) = (n : Int) + 1 := by omega
    rw [qk_s, c, Int.mul_add, Int.mul_one]
    generalize B * (n : Int) = y at *
    split <;> omega
theorem qk_s0 {t : Int → Int} : ∀ (n : Nat), qk_s t (fun _ => false) n = 0
  | 0 => rfl
  | n + 1 => by rw [qk_s, qk_s0 n, if_neg (by decide)]; rfl
/-- a roll of which a part is seen -/
def qk_u (L : Int → Int) (b : Nat → Bool) (n : Nat) (r : Int) : Prop := ∃ k : Nat, k < n ∧ b k = true ∧ L k = r
noncomputable def qk_f (F : Int → Int) (P : Int → Prop) : Int := cs_tm (P 0) (F 0) + cs_tm (P 1) (F 1) + cs_tm (P 2) (F 2) + cs_tm (P 3) (F 3)
theorem cs_tmc {P Q : Prop} {x : Int} (h : P ↔ Q) : cs_tm P x = cs_tm Q x := by rw [propext h]
theorem cs_tmm {P Q : Prop} {x : Int} (h : P → Q) (h0 : 0 ≤ x) : cs_tm P x ≤ cs_tm Q x := by
  by_cases p : P
  · rw [cs_tm1 p, cs_tm1 (h p)]; omega
  · rw [cs_tm0 p]
    by_cases q : Q
    · rw [cs_tm1 q]; exact h0
    · rw [cs_tm0 q]; omega
theorem qk_fc {F : Int → Int} {P Q : Int → Prop} (h : ∀ i, 0 ≤ i → i < 4 → (P i ↔ Q i)) : qk_f F P = qk_f F Q := by
  unfold qk_f
  rw [cs_tmc (h 0 (by decide) (by decide)), cs_tmc (h 1 (by decide) (by decide)), cs_tmc (h 2 (by decide) (by decide)), cs_tmc (h 3 (by decide) (by decide))]
theorem qk_fF {F F' : Int → Int} {P : Int → Prop} (h : ∀ i, 0 ≤ i → i < 4 → F i = F' i) : qk_f F P = qk_f F' P := by
  unfold qk_f
  rw [h 0 (by decide) (by decide), h 1 (by decide) (by decide), h 2 (by decide) (by decide), h 3 (by decide) (by decide)]
theorem qk_fm {F : Int → Int} {P Q : Int → Prop} (hF : ∀ i, 0 ≤ i → i < 4 → 0 ≤ F i) (h : ∀ i, P i → Q i) : qk_f F P ≤ qk_f F Q := by
  unfold qk_f
  have a := cs_tmm (h 0) (hF 0 (by decide) (by decide))
  have b := cs_tmm (h 1) (hF 1 (by decide) (by decide))
  have c := cs_tmm (h 2) (hF 2 (by decide) (by decide))
  have e := cs_tmm (h 3) (hF 3 (by decide) (by decide))
  omega
theorem qk_f0 {F : Int → Int} {P : Int → Prop} (h : ∀ i, ¬ P i) : qk_f F P = 0 := by
  unfold qk_f
  rw [cs_tm0 (h 0), cs_tm0 (h 1), cs_tm0 (h 2), cs_tm0 (h 3)]; rfl
theorem qk_fr {F : Int → Int} {P : Int → Prop} {r : Int} (h : ¬ P r) (hr : 0 ≤ r ∧ r < 4) : qk_f F (fun i => i = r ∨ P i) = qk_f F P + F r := by
  have o : ∀ i, i ≠ r → cs_tm (i = r ∨ P i) (F i) = cs_tm (P i) (F i) := fun i q => cs_tmc ⟨fun x => x.resolve_left q, Or.inr⟩
  have s : cs_tm (r = r ∨ P r) (F r) = F r := cs_tm1 (Or.inl rfl)
  have z : cs_tm (P r) (F r) = 0 := cs_tm0 h
  show cs_tm (0 = r ∨ P 0) (F 0) + cs_tm (1 = r ∨ P 1) (F 1) + cs_tm (2 = r ∨ P 2) (F 2) + cs_tm (3 = r ∨ P 3) (F 3) = cs_tm (P 0) (F 0) + cs_tm (P 1) (F 1) + cs_tm (P 2) (F 2) + cs_tm (P 3) (F 3) + F r
  rcases (by omega : r = 0 ∨ r = 1 ∨ r = 2 ∨ r = 3) with e | e | e | e <;> subst e
  · rw [s, z, o 1 (by decide), o 2 (by decide), o 3 (by decide)]; omega
  · rw [s, z, o 0 (by decide), o 2 (by decide), o 3 (by decide)]; omega
  · rw [s, z, o 0 (by decide), o 1 (by decide), o 3 (by decide)]; omega
  · rw [s, z, o 0 (by decide), o 1 (by decide), o 2 (by decide)]; omega
/-- hours of a set; with roll r brought in any case -/
noncomputable def qk_h (H L F : Int → Int) (n : Nat) (b : Nat → Bool) : Int := qk_s H b n + qk_f F (qk_u L b n)
noncomputable def qk_x (H L F : Int → Int) (n : Nat) (r : Int) (b : Nat → Bool) : Int := qk_s H b n + qk_f F (fun i => i = r ∨ qk_u L b n i)
/-- a row by hours: each value is a set's, and no set is above its own -/
def qk_V (sup : Nat → Prop) (hr : (Nat → Bool) → Int) (G : Int → Int) (n : Nat) (M : Int) (v : Int → Int) : Prop :=
  (∀ h, 0 ≤ h → h ≤ M → v h = -1 ∨ ∃ b, (∀ k, b k = true → sup k) ∧ v h = qk_s G b n ∧ hr b ≤ h) ∧ ∀ b, (∀ k, b k = true → sup k) → hr b ≤ M → qk_s G b n ≤ v (hr b)
theorem qk_V_init {sup : Nat → Prop} {hr hx : (Nat → Bool) → Int} {G : Int → Int} {n : Nat} {M x : Int} {v f : Int → Int} (h : qk_V sup hr G n M v) (h0 : ∀ b, 0 ≤ hr b) (hx0 : 0 ≤ x) (he : ∀ b, (∀ k, b k = true → sup k) → hx b = hr b + x) (hf : ∀ h, 0 ≤ h → h ≤ M → f h = if h < x then -1 else v (h - x)) : qk_V sup hx G n M f := by
  refine ⟨fun y y0 y1 => ?_, fun b hb hM => ?_⟩
  · rw [hf y y0 y1]
    by_cases q : y < x
    · rw [if_pos q]; exact Or.inl rfl
    · rw [if_neg q]
      rcases h.1 (y - x) (by omega) (by omega) with e | ⟨b, b1, b2, b3⟩
      · exact Or.inl e
      · exact Or.inr ⟨b, b1, b2, by rw [he b b1]; omega⟩
  · have e := he b hb
    have p := h0 b
    rw [hf _ (by omega) hM, if_neg (by omega), show hx b - x = hr b by omega]
    exact h.2 b hb (by omega)
theorem qk_V_add {sup sup' : Nat → Prop} {hx : (Nat → Bool) → Int} {G : Int → Int} {n m : Nat} {M x : Int} {f f' : Int → Int} (h : qk_V sup hx G n M f) (h0 : ∀ b, 0 ≤ hx b) (hG : ∀ b, 0 ≤ qk_s G b n) (hm : m < n) (hs : ¬ sup m) (hs' : ∀ k, sup' k ↔ sup k ∨ k = m) (hx0 : 0 ≤ x) (he : ∀ b, (∀ k, b k = true → sup k) → b m = false → hx (qk_1 b m true) = hx b + x)
    (hf : ∀ h, 0 ≤ h → h ≤ M → f' h = if h < x then f h else if f (h - x) = -1 then f h else max (f h) (f (h - x) + G m)) : qk_V sup' hx G n M f' := by
  have keep : ∀ y, 0 ≤ y → y ≤ M → f y ≤ f' y := fun y y0 y1 => by
    rw [hf y y0 y1]
    split
    · exact Int.le_refl _
    · split
      · exact Int.le_refl _
      · exact Int.le_max_left _ _
  have nm : ∀ b : Nat → Bool, (∀ k, b k = true → sup k) → b m = false := fun b hb => by
    cases e : b m with
    | false => rfl
    | true => exact absurd (hb m e) hs
  refine ⟨fun y y0 y1 => ?_, fun b hb hM => ?_⟩
  · have old : f' y = f y → f' y = -1 ∨ ∃ b, (∀ k, b k = true → sup' k) ∧ f' y = qk_s G b n ∧ hx b ≤ y := fun e => by
      rw [e]
      rcases h.1 y y0 y1 with z | ⟨b, b1, b2, b3⟩
      · exact Or.inl z
      · exact Or.inr ⟨b, fun k hk => (hs' k).mpr (Or.inl (b1 k hk)), b2, b3⟩
    have e := hf y y0 y1
    by_cases q : y < x
    · rw [if_pos q] at e; exact old e
    · rw [if_neg q] at e
      by_cases q2 : f (y - x) = -1
      · rw [if_pos q2] at e; exact old e
      · rw [if_neg q2] at e
        by_cases q3 : f (y - x) + G m ≤ f y
        · rw [Int.max_eq_left q3] at e; exact old e
        · rw [Int.max_eq_right (by omega)] at e
          rcases h.1 (y - x) (by omega) (by omega) with z | ⟨b, b1, b2, b3⟩
          · exact absurd z q2
          · refine Or.inr ⟨qk_1 b m true, fun k hk => ?_, ?_, ?_⟩
            · by_cases km : k = m
              · exact (hs' k).mpr (Or.inr km)
              · rw [qk_1n km] at hk; exact (hs' k).mpr (Or.inl (b1 k hk))
            · rw [qk_s1 (nm b b1) n hm, e, b2]
            · rw [he b b1 (nm b b1)]; omega
  · cases bm : b m with
    | false =>
      have hb' : ∀ k, b k = true → sup k := fun k hk => by
        rcases (hs' k).mp (hb k hk) with z | z
        · exact z
        · rw [z, bm] at hk; exact absurd hk (by decide)
      have a := h.2 b hb' hM
      have c := keep (hx b) (h0 b) hM
      omega
    | true =>
      have eb : qk_1 (qk_1 b m false) m true = b := by
        funext k
        by_cases km : k = m
        · rw [km, qk_1e, bm]
        · rw [qk_1n km, qk_1n km]
      have hb' : ∀ k, qk_1 b m false k = true → sup k := fun k hk => by
        by_cases km : k = m
        · rw [km, qk_1e] at hk; exact absurd hk (by decide)
        · rw [qk_1n km] at hk
          rcases (hs' k).mp (hb k hk) with z | z
          · exact z
          · exact absurd z km
      have e1 := he _ hb' qk_1e
      have e2 := qk_s1 (t := G) (b := qk_1 b m false) qk_1e n hm
      rw [eb] at e1 e2
      have p := h0 (qk_1 b m false)
      have a := h.2 _ hb' (by omega)
      have g := hG (qk_1 b m false)
      rw [hf _ (h0 b) hM, if_neg (by omega), show hx b - x = hx (qk_1 b m false) by omega, if_neg (by omega)]
      have c := Int.le_max_right (f (hx b)) (f (hx (qk_1 b m false)) + G m)
      omega
theorem qk_V_join {sup sup' : Nat → Prop} {hr hx : (Nat → Bool) → Int} {G : Int → Int} {n : Nat} {M : Int} {v f v' : Int → Int} (h : qk_V sup hr G n M v) (h' : qk_V sup' hx G n M f) (h0 : ∀ b, 0 ≤ hr b) (hs : ∀ k, sup k → sup' k) (hle : ∀ b, hr b ≤ hx b) (hc : ∀ b, (∀ k, b k = true → sup' k) → (∀ k, b k = true → sup k) ∨ hr b = hx b) (hv : ∀ h, 0 ≤ h → h ≤ M → v' h = max (v h) (f h)) : qk_V sup' hr G n M v' := by
  refine ⟨fun y y0 y1 => ?_, fun b hb hM => ?_⟩
  · have e := hv y y0 y1
    by_cases q : f y ≤ v y
    · rw [Int.max_eq_left q] at e
      rw [e]
      rcases h.1 y y0 y1 with z | ⟨b, b1, b2, b3⟩
      · exact Or.inl z
      · exact Or.inr ⟨b, fun k hk => hs k (b1 k hk), b2, b3⟩
    · rw [Int.max_eq_right (by omega)] at e
      rw [e]
      rcases h'.1 y y0 y1 with z | ⟨b, b1, b2, b3⟩
      · exact Or.inl z
      · exact Or.inr ⟨b, b1, b2, by have := hle b; omega⟩
  · rw [hv _ (h0 b) hM]
    rcases hc b hb with z | z
    · have a := h.2 b z hM
      have c := Int.le_max_left (v (hr b)) (f (hr b))
      omega
    · have a := h'.2 b hb (by omega)
      rw [← z] at a
      have c := Int.le_max_right (v (hr b)) (f (hr b))
      omega
theorem qk_V_c {sup sup' : Nat → Prop} {hr : (Nat → Bool) → Int} {G : Int → Int} {n : Nat} {M : Int} {v : Int → Int} (h : qk_V sup hr G n M v) (hs : ∀ k, sup k ↔ sup' k) : qk_V sup' hr G n M v := by
  rw [show sup' = sup from funext fun k => propext (hs k).symm]; exact h
