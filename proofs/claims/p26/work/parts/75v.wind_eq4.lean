/-! ===== both windings: the best of all ===== -/
theorem cw_fo_s (f : Int → Int) (d : Int) : ∀ (n : Nat) (i b : Int), cw_fo f n (i + d) b = cw_fo (fun j => f (j + d)) n i b
  | 0, _, _ => rfl
  | n + 1, i, b => by rw [cw_fo, cw_fo, show i + d + 1 = i + 1 + d by omega, cw_fo_s f d n (i + 1)]
/-- the better of the first k -/
def rb (h : Int → Int) : Nat → Int
  | 0 => 0
  | k + 1 => cw_bt (rb h k) (h k)
theorem rb_e {h h' : Int → Int} : ∀ (k : Nat), (∀ j : Int, 0 ≤ j → j < k → h j = h' j) → rb h k = rb h' k
  | 0, _ => rfl
  | k + 1, e => by rw [rb, rb, rb_e k (fun j a b => e j a (by omega)), e k (by omega) (by omega)]
theorem rb_z {h : Int → Int} (k : Nat) : ∀ (m : Nat), (∀ j : Int, (k : Int) ≤ j → h j = 0) → rb h (k + m) = rb h k
  | 0, _ => rfl
  | m + 1, e => by rw [← Nat.add_assoc, rb, e _ (by omega), cw_bt_0, rb_z k m e]
theorem cw_fo_k {B : Int} {f : Int → Int} (hf : ∀ j, cw_ok B (f j)) (N : Nat) : ∀ k : Nat, cw_fo f (k * N) 0 0 = rb (fun r => cw_fo f N (r * N) 0) k
  | 0 => by rw [Nat.zero_mul, cw_fo, rb]
  | k + 1 => by
    rw [show (k + 1) * N = k * N + N by rw [Nat.add_mul, Nat.one_mul], cw_fo_2, cw_fo_k hf N k, rb, show (0 : Int) + ((k * N : Nat) : Int) = (k : Int) * (N : Int) by rw [Int.natCast_mul]; omega]
    have o : cw_ok B (rb (fun r => cw_fo f N (r * N) 0) k) := by
      rw [← cw_fo_k hf N k]
      exact cw_fo_ok _ _ _ (Or.inl rfl) (fun j _ _ => hf j)
    exact cw_fo_b N _ _ o (fun j _ _ => hf j)
/-- the code without changes -/
def wst (A : Nat) : Int := (cw_N A - 1) / 2
theorem wc_0 (A : Nat) : wc A 0 0 = wst A := by
  unfold wc wst cw_N
  simp
/-- one first radius -/
theorem w_one {A R : Nat} (hA : 3 ≤ A ∧ A ≤ 6) {K : Int} (hK : 1 ≤ K ∧ K ≤ 4) {g : Int → Int → Int} {pn : Int → Int} {G : Int → Int → Int} (hg : ∀ p r, 0 ≤ g p r) (hGv : cw_Gv R G) (hG : ∀ p r, 0 ≤ p → p < K * (A : Int) → 0 ≤ r → r < (R : Int) → G p r = if pn p < 0 ∨ pn p = r then g p r * 1048576 else -1) (r : Int) (r0 : 0 ≤ r) (r1 : r < (R : Int)) : cw_fo (wX A R K G r 0) (cw_N A).toNat 0 0 = if pn 0 < 0 ∨ pn 0 = r then ec (rf_F A R (K * (A : Int)) g pn (K * (A : Int) - 1).toNat r (wst A)) else 0 := by
  have z : cw_sh A 0 0 = 0 := rfl
  have w := w_pre hA hK hg hGv hG (A - 1) 0 r 0 (by omega) ⟨Int.le_refl _, by decide⟩ (fun j hj => by
    rw [show j = 0 by omega, Int.zero_mul, z]; omega)
  unfold w_at at w
  rw [wB_0, Int.zero_mul, z, wc_0, show r + 0 = r by omega, show K * (A : Int) - 1 - ((0 : Nat) : Int) = K * (A : Int) - 1 by omega] at w
  exact w
/-- a window of the first turn that has a way is a window of radii, its way goes on -/
theorem w_v {A R : Nat} (hA : 3 ≤ A ∧ A ≤ 6) {K : Int} {G : Int → Int → Int} {r c : Int} (q : wX A R K G r 0 c ≠ 0) : cw_A A R K G (K * (A : Int) - (A : Int)).toNat r c ≠ 0 ∧ wv A R 0 r c := by
  have ne := cw_ww_ne (A - 0) 0 _ (Int.le_refl _) q
  refine ⟨ne.1, fun i hi => ?_⟩
  have y := (ne.2 i (by omega) (by omega)).1
  rw [show ((i : Int)).toNat = i by omega] at y
  refine ⟨y, ?_⟩
  rw [show (0 : Int) + (i : Int) = (i : Int) by omega, Int.ediv_eq_zero_of_lt (by omega) (by omega)]
  exact y.1
/-- too far out -/
theorem w_far {A R : Nat} (hA : 3 ≤ A ∧ A ≤ 6) {K : Int} (hK : 1 ≤ K ∧ K ≤ 4) {g : Int → Int → Int} {pn : Int → Int} {G : Int → Int → Int} (hg : ∀ p r, 0 ≤ g p r) (hGv : cw_Gv R G) (hG : ∀ p r, 0 ≤ p → p < K * (A : Int) → 0 ≤ r → r < (R : Int) → G p r = if pn p < 0 ∨ pn p = r then g p r * 1048576 else -1) (r : Int) (r0 : 0 ≤ r) (r1 : (R : Int) - K < r) (r2 : r < (R : Int)) : cw_fo (wX A R K G r 0) (cw_N A).toNat 0 0 = 0 := by
  have mA := w_mA hA hK
  have hN := cw_Nb hA
  refine cw_fo_z _ _ (fun c c0 c1 => ?_)
  by_cases q : wX A R K G r 0 c = 0
  · exact q
  · exfalso
    obtain ⟨ne, v⟩ := w_v hA q
    have hc : 0 ≤ c ∧ c < cw_N A := by omega
    have ps : K * (A : Int) - (A : Int) - (((K * (A : Int) - (A : Int)).toNat : Nat) : Int) = 0 := by omega
    have inf := dp_inf hA hK.1 (pn := pn) hg (K * (A : Int) - (A : Int)).toNat r c (by omega) hc (by rw [ps]; exact v) (by
      rw [ps]
      refine ⟨0, by omega, ?_⟩
      have z : cw_sh A c 0 = 0 := rfl
      rw [z, show (0 : Int) + ((0 : Nat) : Int) = 0 by omega, Int.zero_ediv]
      omega)
    have e := dp_eq hA hK.1 hg hG (K * (A : Int) - (A : Int)).toNat r c (by omega) hc (by rw [ps]; exact v)
    unfold ec1 at e
    rw [if_pos inf] at e
    exact ne e.symm
theorem w_wi {A R : Nat} (hA : 3 ≤ A ∧ A ≤ 6) (K : Int) (G : Int → Int → Int) (r c : Int) (c0 : 0 ≤ c) (c1 : c < cw_N A) : cw_wi A R K G (c + r * cw_N A) = wX A R K G r 0 c := by
  have hN := cw_Nb hA
  unfold cw_wi wX
  rw [Int.add_mul_ediv_right _ _ (by omega), Int.ediv_eq_zero_of_lt c0 c1, Int.add_mul_emod_self_right, Int.emod_eq_of_lt c0 c1, Int.zero_add]
  rfl
theorem w_st {A R : Nat} (hA : 3 ≤ A ∧ A ≤ 6) (K : Int) (G : Int → Int → Int) (j : Int) : cw_fo (cw_wi A R K G) (cw_N A).toNat (j * ((cw_N A).toNat : Int)) 0 = cw_fo (wX A R K G j 0) (cw_N A).toNat 0 0 := by
  have hN := cw_Nb hA
  have nn : ((cw_N A).toNat : Int) = cw_N A := by omega
  have s := cw_fo_s (cw_wi A R K G) (j * cw_N A) (cw_N A).toNat 0 0
  rw [Int.zero_add] at s
  rw [nn, s]
  exact cw_fo_e _ _ _ (fun c c0 c1 => w_wi hA K G j c c0 (by omega))
/-- how many first windows -/
theorem w_tn {A R : Nat} (hA : 3 ≤ A ∧ A ≤ 6) {K : Int} (hR : K ≤ (R : Int)) : (((R : Int) - K + 1) * cw_N A).toNat = ((R : Int) - K + 1).toNat * (cw_N A).toNat := by
  have hN := cw_Nb hA
  have e : ((R : Int) - K + 1) * cw_N A = ((((R : Int) - K + 1).toNat * (cw_N A).toNat : Nat) : Int) := by
    rw [Int.natCast_mul, show ((cw_N A).toNat : Int) = cw_N A by omega, show ((((R : Int) - K + 1).toNat : Nat) : Int) = (R : Int) - K + 1 by omega]
  rw [e]
  rfl
/-- what the first radii are worth -/
abbrev wh0 (A R : Nat) (K : Int) (g : Int → Int → Int) (pn : Int → Int) : Int → Int := fun r => if pn 0 < 0 ∨ pn 0 = r then ec (rf_F A R (K * (A : Int)) g pn (K * (A : Int) - 1).toNat r (wst A)) else 0
theorem w_all {A R : Nat} (hA : 3 ≤ A ∧ A ≤ 6) (hR : 4 ≤ R ∧ R ≤ 12) {K : Int} (hK : 1 ≤ K ∧ K ≤ 4) {g : Int → Int → Int} {pn : Int → Int} {G : Int → Int → Int} (hg : ∀ p r, 0 ≤ g p r) (hGv : cw_Gv R G) (hG : ∀ p r, 0 ≤ p → p < K * (A : Int) → 0 ≤ r → r < (R : Int) → G p r = if pn p < 0 ∨ pn p = r then g p r * 1048576 else -1) : cw_be A R K G = rb (fun r => if pn 0 < 0 ∨ pn 0 = r then ec (rf_F A R (K * (A : Int)) g pn (K * (A : Int) - 1).toNat r (wst A)) else 0) R := by
  have mA := w_mA hA hK
  have hN := cw_Nb hA
  have nn : ((cw_N A).toNat : Int) = cw_N A := by omega
  have wio : ∀ j, cw_ok 1000 (cw_wi A R K G j) := fun j => by
    have := wX_ok hA hK hGv (j / cw_N A) 0 (j % cw_N A) (by omega)
    exact this
  unfold cw_be
  rw [w_tn hA (by omega), cw_fo_k wio]
  have h1 : ∀ k : Nat, (k : Int) ≤ (R : Int) → rb (fun r => cw_fo (cw_wi A R K G) (cw_N A).toNat (r * ((cw_N A).toNat : Int)) 0) k = rb (fun r => if pn 0 < 0 ∨ pn 0 = r then ec (rf_F A R (K * (A : Int)) g pn (K * (A : Int) - 1).toNat r (wst A)) else 0) k := fun k hk => rb_e k (fun j a b => by
    rw [w_st hA, w_one hA hK hg hGv hG j a (by omega)])
  rw [h1 _ (by omega)]
  -- the rest adds nothing
  have rest : ∀ m : Nat, (((R : Int) - K + 1).toNat + m : Nat) ≤ R → rb (fun r => if pn 0 < 0 ∨ pn 0 = r then ec (rf_F A R (K * (A : Int)) g pn (K * (A : Int) - 1).toNat r (wst A)) else 0) (((R : Int) - K + 1).toNat + m) = rb (fun r => if pn 0 < 0 ∨ pn 0 = r then ec (rf_F A R (K * (A : Int)) g pn (K * (A : Int) - 1).toNat r (wst A)) else 0) ((R : Int) - K + 1).toNat := by
    intro m
    induction m with
    | zero => intro _; rfl
    | succ m ih =>
      intro hm
      rw [← Nat.add_assoc, rb, ih (by omega)]
      have f := w_far hA hK hg hGv hG (((((R : Int) - K + 1).toNat + m : Nat)) : Int) (by omega) (by omega) (by omega)
      rw [w_one hA hK hg hGv hG _ (by omega) (by omega)] at f
      rw [f, cw_bt_0]
  have fin := rest (R - ((R : Int) - K + 1).toNat) (by omega)
  rw [show ((R : Int) - K + 1).toNat + (R - ((R : Int) - K + 1).toNat) = R by omega] at fin
  exact fin.symm
