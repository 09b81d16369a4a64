/-! ===== the reference's best way is the pure one ===== -/
theorem rq_s {A R : Nat} {n : Int} {g : Int → Int → Int} {pn : Int → Int} : ∀ (j l : Nat) (r c : Int), j < l → rq A R n g pn l r c (j + 1) = ((rq A R n g pn l r c j).1 + re A R n g pn (l - 1 - j) (rq A R n g pn l r c j).1 (rq A R n g pn l r c j).2, rm_nc (cw_N A) (rq A R n g pn l r c j).2 (re A R n g pn (l - 1 - j) (rq A R n g pn l r c j).1 (rq A R n g pn l r c j).2))
  | j, 0, r, c, h => by omega
  | 0, l + 1, r, c, _ => by
    rw [show l + 1 - 1 - 0 = l by omega]
    simp only [rq]
  | j + 1, l + 1, r, c, h => by
    have i := rq_s (A := A) (R := R) (n := n) (g := g) (pn := pn) j l (r + re A R n g pn l r c) (rm_nc (cw_N A) c (re A R n g pn l r c)) (by omega)
    rw [show l + 1 - 1 - (j + 1) = l - 1 - j by omega]
    exact i
theorem wst_e {A R : Nat} {w : ck_W} (hA : 3 ≤ A ∧ A ≤ 6) (hI : rm_I A R w) : (w 76 2 - 1).tdiv 2 = wst A := by
  have eN : w 76 2 = cw_N A := hI.2.2.1
  have hN := cw_Nb hA
  rw [eN, Int.tdiv_eq_ediv_of_nonneg (by omega)]
  rfl
theorem gw_rq {A R : Nat} {gg : ch_G} (hC : ck_Cx gg A R) {v : ck_W} (hI : rm_I A R v) {z n : Int} (hn : 1 ≤ n ∧ n ≤ 24) (h : rm_ft R z n v) {r0 : Int} {rad code : Int → Int} (hr0 : 0 ≤ r0 ∧ r0 < (R : Int)) (gw : rm_gw v z n r0 rad code) : ∀ j : Nat, (j : Int) < n → ((0 ≤ rad j ∧ rad j < (R : Int)) ∧ (0 ≤ code j ∧ code j < cw_N A)) ∧ rad j = (rq A R n (wg R v z) (v 87) (n - 1).toNat r0 (wst A) j).1 ∧ code j = (rq A R n (wg R v z) (v 87) (n - 1).toNat r0 (wst A) j).2 := by
  have cp := rm_cp hC hI
  have eN : v 76 2 = cw_N A := hI.2.2.1
  have hN := cw_Nb (A := A) ⟨hC.2.1, hC.2.2.1⟩
  have st := wst_e ⟨hC.2.1, hC.2.2.1⟩ hI
  obtain ⟨g1, g2, g3⟩ := gw
  intro j
  induction j with
  | zero =>
    intro _
    have ws : 0 ≤ wst A ∧ wst A < cw_N A := by unfold wst; omega
    rw [rq]
    rw [st] at g2
    refine ⟨⟨?_, ?_⟩, g1, g2⟩
    · rw [show ((0 : Nat) : Int) = 0 from rfl, g1]; exact hr0
    · rw [show ((0 : Nat) : Int) = 0 from rfl, g2]; exact ws
  | succ j ih =>
    intro hj
    obtain ⟨⟨rr, cc⟩, i1, i2⟩ := ih (by omega)
    obtain ⟨e, he, hx, hm, e1, e2⟩ := g3 j (by omega) (by omega)
    rw [rq_s j (n - 1).toNat r0 (wst A) (by omega), ← i1, ← i2]
    generalize hl : (n - 1).toNat - 1 - j = l
    have lj : n - 2 - (l : Int) = j := by omega
    have F0 := congrArg Prod.fst (ft_F hC hI hn.2 h (l + 1) j (rad j) (code j) (by omega) (by omega) rr cc)
    dsimp only at F0
    have eg : wg R v z j (rad j) = rm_gr v z j (rad j) := by
      unfold wg
      rw [if_pos ⟨⟨by omega, rr.1⟩, rr.2⟩]
    have nxe : ∀ e', -1 ≤ e' → (rm_nx v z j (rad j) (code j) e' ↔ rn A R n (wg R v z) (v 87) l (rad j) (code j) e') := by
      intro e' h1
      unfold rm_nx rn
      rw [cp.1, cp.2.1, eN, lj, eg, ← F0]
      have F1 : rm_go (A : Int) (R : Int) (v 87 ((j : Int) + 1)) j (rad j) (code j) (rad j + e') → v 80 (rm_x ((j : Int) + 1) (rad j + e') (rm_nc (cw_N A) (code j) e')) = (rf_F A R n (wg R v z) (v 87) l (rad j + e') (rm_nc (cw_N A) (code j) e')).1 := fun go => by
        have nb := rm_ncb (m := cw_N A) (c := code j) (e := e') (by omega) (by omega)
        exact congrArg Prod.fst (ft_F hC hI hn.2 h l ((j : Int) + 1) (rad j + e') (rm_nc (cw_N A) (code j) e') (by omega) (by omega) (by have := go.1; omega) nb)
      constructor
      · intro y
        have f := F1 y.1
        exact ⟨y.1, by rw [← f]; exact y.2.1, by rw [← f]; exact y.2.2⟩
      · intro y
        have f := F1 y.1
        exact ⟨y.1, by rw [f]; exact y.2.1, by rw [f]; exact y.2.2⟩
    have er : re A R n (wg R v z) (v 87) l (rad j) (code j) = e := by
      unfold re
      rcases (by omega : e = -1 ∨ e = 0 ∨ e = 1) with q | q | q
      · rw [q] at hx
        rw [if_pos ((nxe (-1) (by decide)).mp hx), q]
      · rw [q] at hx
        rw [if_neg (fun y => hm (-1) (by decide) (by omega) ((nxe (-1) (by decide)).mpr y)), if_pos ((nxe 0 (by decide)).mp hx), q]
      · rw [if_neg (fun y => hm (-1) (by decide) (by omega) ((nxe (-1) (by decide)).mpr y)), if_neg (fun y => hm 0 (by decide) (by omega) ((nxe 0 (by decide)).mpr y)), q]
    rw [er]
    dsimp only
    rw [eN] at e2
    rw [show ((j + 1 : Nat) : Int) = (j : Int) + 1 by omega, e1, e2]
    have go := hx.1.1
    rw [cp.2.1] at go
    exact ⟨⟨by omega, rm_ncb (by omega) (by omega)⟩, rfl, rfl⟩
