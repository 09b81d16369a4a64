/-! ===== the reference: the spirals of a slice ===== -/
theorem rm_s1_cg {A R : Nat} {gg : ch_G} (hC : ck_Cx gg A R) {w w' : ck_W} (hI : rm_I A R w) {g p r c e : Int} {s : Int × Int} (e76 : w' 76 = w 76) (e87 : w' 87 = w 87) (hrow : ∀ r c, 0 ≤ r → r < (R : Int) → 0 ≤ c → c < w 76 2 → w' 80 (rm_x (p + 1) r c) = w 80 (rm_x (p + 1) r c) ∧ w' 81 (rm_x (p + 1) r c) = w 81 (rm_x (p + 1) r c)) (hc : 0 ≤ c) (he : -1 ≤ e) : rm_s1 w' g p r c e s = rm_s1 w g p r c e s := by
  have q := rm_cp hC hI
  unfold rm_s1
  rw [e76, e87]
  by_cases go : rm_go (w 76 0) (w 76 1) (w 87 (p + 1)) p r c (r + e)
  · rw [if_pos go, if_pos go]
    have nb := rm_ncb (m := w 76 2) (c := c) (e := e) (by omega) (by omega)
    have := hrow (r + e) (rm_nc (w 76 2) c e) go.1.1 (by have := go.1.2; omega) nb.1 nb.2
    rw [this.1, this.2]
  · rw [if_neg go, if_neg go]
theorem rm_ws_cg {A R : Nat} {gg : ch_G} (hC : ck_Cx gg A R) {w w' : ck_W} (hI : rm_I A R w) {z n p r c : Int} (e76 : w' 76 = w 76) (e77 : w' 77 = w 77) (e87 : w' 87 = w 87) (hrow : p + 1 < n → ∀ r c, 0 ≤ r → r < (R : Int) → 0 ≤ c → c < w 76 2 → w' 80 (rm_x (p + 1) r c) = w 80 (rm_x (p + 1) r c) ∧ w' 81 (rm_x (p + 1) r c) = w 81 (rm_x (p + 1) r c)) (hp : p < n) (hc : 0 ≤ c) : rm_ws w' z n p r c = rm_ws w z n p r c := by
  have eg : rm_gr w' z p r = rm_gr w z p r := by unfold rm_gr; rw [e76, e77]
  unfold rm_ws
  rw [eg]
  by_cases q : p + 1 = n
  · rw [if_pos q, if_pos q]
  · rw [if_neg q, if_neg q, rm_s1_cg hC hI e76 e87 (hrow (by omega)) hc (by decide), rm_s1_cg hC hI e76 e87 (hrow (by omega)) hc (by decide), rm_s1_cg hC hI e76 e87 (hrow (by omega)) hc (by decide)]
theorem rm_s1_b {A R : Nat} {gg : ch_G} (hC : ck_Cx gg A R) {w : ck_W} (hI : rm_I A R w) {g p r c e b : Int} {s : Int × Int} (hrow : ∀ r c, 0 ≤ r → r < (R : Int) → 0 ≤ c → c < w 76 2 → (-1 ≤ w 80 (rm_x (p + 1) r c) ∧ w 80 (rm_x (p + 1) r c) ≤ b) ∧ (0 ≤ w 81 (rm_x (p + 1) r c) ∧ w 81 (rm_x (p + 1) r c) ≤ 1000000)) (hc : 0 ≤ c) (he : -1 ≤ e) (hg : 0 ≤ g ∧ g ≤ 9) (hs : (-1 ≤ s.1 ∧ s.1 ≤ b + 9) ∧ (0 ≤ s.2 ∧ s.2 ≤ 1000000)) :
    (-1 ≤ (rm_s1 w g p r c e s).1 ∧ (rm_s1 w g p r c e s).1 ≤ b + 9) ∧ (0 ≤ (rm_s1 w g p r c e s).2 ∧ (rm_s1 w g p r c e s).2 ≤ 1000000) := by
  have q := rm_cp hC hI
  unfold rm_s1
  by_cases go : rm_go (w 76 0) (w 76 1) (w 87 (p + 1)) p r c (r + e)
  · rw [if_pos go]
    have nb := rm_ncb (m := w 76 2) (c := c) (e := e) (by omega) (by omega)
    have t := hrow (r + e) (rm_nc (w 76 2) c e) go.1.1 (by have := go.1.2; omega) nb.1 nb.2
    generalize w 80 (rm_x (p + 1) (r + e) (rm_nc (w 76 2) c e)) = f at t ⊢
    generalize w 81 (rm_x (p + 1) (r + e) (rm_nc (w 76 2) c e)) = m at t ⊢
    unfold rm_cb
    by_cases z : f < 0 ∨ f + g < s.1
    · rw [if_pos z]; exact hs
    · rw [if_neg z]
      refine ⟨by constructor <;> dsimp only <;> omega, ?_⟩
      dsimp only
      split <;> omega
  · rw [if_neg go]; exact hs
theorem rm_s1_src {w : ck_W} {g p r c e : Int} {s : Int × Int} : (rm_s1 w g p r c e s).1 = s.1 ∨ (rm_go (w 76 0) (w 76 1) (w 87 (p + 1)) p r c (r + e) ∧ 0 ≤ w 80 (rm_x (p + 1) (r + e) (rm_nc (w 76 2) c e)) ∧ w 80 (rm_x (p + 1) (r + e) (rm_nc (w 76 2) c e)) + g = (rm_s1 w g p r c e s).1) := by
  unfold rm_s1
  by_cases go : rm_go (w 76 0) (w 76 1) (w 87 (p + 1)) p r c (r + e)
  · rw [if_pos go]
    unfold rm_cb
    by_cases z : w 80 (rm_x (p + 1) (r + e) (rm_nc (w 76 2) c e)) < 0 ∨ w 80 (rm_x (p + 1) (r + e) (rm_nc (w 76 2) c e)) + g < s.1
    · rw [if_pos z]; exact Or.inl rfl
    · rw [if_neg z]; exact Or.inr ⟨go, by omega, rfl⟩
  · rw [if_neg go]; exact Or.inl rfl
/-- a best way goes on by the change e -/
def rm_nx (w : ck_W) (z p r c e : Int) : Prop := rm_go (w 76 0) (w 76 1) (w 87 (p + 1)) p r c (r + e) ∧ 0 ≤ w 80 (rm_x (p + 1) (r + e) (rm_nc (w 76 2) c e)) ∧ w 80 (rm_x (p + 1) (r + e) (rm_nc (w 76 2) c e)) + rm_gr w z p r = w 80 (rm_x p r c)
theorem rm_ws_src {w : ck_W} {z n p r c : Int} (hp : ¬ p + 1 = n) (h : 0 ≤ (rm_ws w z n p r c).1) (hx : w 80 (rm_x p r c) = (rm_ws w z n p r c).1) : ∃ e, -1 ≤ e ∧ e ≤ 1 ∧ rm_nx w z p r c e := by
  unfold rm_ws at h hx
  rw [if_neg hp] at h hx
  rcases rm_s1_src (w := w) (g := rm_gr w z p r) (p := p) (r := r) (c := c) (e := 1) (s := rm_s1 w (rm_gr w z p r) p r c 0 (rm_s1 w (rm_gr w z p r) p r c (-1) (-1, 0))) with a | ⟨a1, a2, a3⟩
  · rw [a] at h hx
    rcases rm_s1_src (w := w) (g := rm_gr w z p r) (p := p) (r := r) (c := c) (e := 0) (s := rm_s1 w (rm_gr w z p r) p r c (-1) (-1, 0)) with b | ⟨b1, b2, b3⟩
    · rw [b] at h hx
      rcases rm_s1_src (w := w) (g := rm_gr w z p r) (p := p) (r := r) (c := c) (e := -1) (s := (-1, 0)) with f | ⟨f1, f2, f3⟩
      · rw [f] at h; exact absurd h (by decide)
      · exact ⟨-1, by decide, by decide, f1, f2, by rw [hx, f3]⟩
    · exact ⟨0, by decide, by decide, b1, b2, by rw [hx, b3]⟩
  · exact ⟨1, by decide, by decide, a1, a2, by rw [hx, a3]⟩
/-- the entry of a state: fit and number by the next place -/
def rm_en (w : ck_W) (z n p r c : Int) : Prop := (w 80 (rm_x p r c), w 81 (rm_x p r c)) = rm_ws w z n p r c ∧ (-1 ≤ w 80 (rm_x p r c) ∧ w 80 (rm_x p r c) ≤ 9 * (n - p)) ∧ (0 ≤ w 81 (rm_x p r c) ∧ w 81 (rm_x p r c) ≤ 1000000)
/-- what is done when the state p, r, c is next -/
def rm_dn (R : Nat) (z n p r c : Int) (w0 w : ck_W) : Prop := (∀ k, k ≠ 80 → k ≠ 81 → k ≠ 82 → w k = w0 k) ∧ ∀ p' r' c', 0 ≤ p' → p' < n → 0 ≤ r' → r' < (R : Int) → 0 ≤ c' → c' < w0 76 2 → (p < p' ∨ (p' = p ∧ (r' < r ∨ (r' = r ∧ c' < c)))) → rm_en w z n p' r' c' ∧ w 82 (rm_x p' r' c') = 0
theorem rm_dn_step {A R : Nat} {gg : ch_G} (hC : ck_Cx gg A R) {w0 w w' : ck_W} (hI : rm_I A R w0) {z n p r c : Int} (h : rm_dn R z n p r c w0 w) (hz : 0 ≤ z ∧ z ≤ 5) (hp : 0 ≤ p ∧ p < n ∧ n ≤ 24) (hr : 0 ≤ r ∧ r < (R : Int)) (hc : 0 ≤ c ∧ c < w0 76 2)
    (k1 : ∀ k, k ≠ 80 → k ≠ 81 → k ≠ 82 → w' k = w k) (k2 : ∀ j, j ≠ rm_x p r c → w' 80 j = w 80 j ∧ w' 81 j = w 81 j ∧ w' 82 j = w 82 j) (k3 : (w' 80 (rm_x p r c), w' 81 (rm_x p r c)) = rm_ws w z n p r c) (k4 : w' 82 (rm_x p r c) = 0) : rm_dn R z n p r (c + 1) w0 w' := by
  have q := rm_cp hC hI
  have hIw : rm_I A R w := by
    obtain ⟨a, b, c, e, f, g, k, l, m⟩ := hI
    have e76 := h.1 76 (by decide) (by decide) (by decide)
    have e77 := h.1 77 (by decide) (by decide) (by decide)
    have e78 := h.1 78 (by decide) (by decide) (by decide)
    have e79 := h.1 79 (by decide) (by decide) (by decide)
    exact ⟨by rw [e76]; exact a, by rw [e76]; exact b, by rw [e76]; exact c, by rw [e77]; exact e, by rw [e78]; exact f, by rw [e77, e78]; exact g, by rw [e76]; exact k, by rw [e76]; exact l, by rw [e77, e79]; exact m⟩
  have w76 := h.1 76 (by decide) (by decide) (by decide)
  have cg : ∀ p' r' c', p ≤ p' → p' < n → 0 ≤ c' → rm_ws w' z n p' r' c' = rm_ws w z n p' r' c' := fun p' r' c' a b e => rm_ws_cg hC hIw (k1 76 (by decide) (by decide) (by decide)) (k1 77 (by decide) (by decide) (by decide)) (k1 87 (by decide) (by decide) (by decide)) (fun _ r2 c2 a1 a2 a3 a4 => by
    have := k2 (rm_x (p' + 1) r2 c2) (by rw [w76] at a4; unfold rm_x; omega)
    exact ⟨this.1, this.2.1⟩) b e
  refine ⟨fun k a b e => by rw [k1 k a b e, h.1 k a b e], fun p' r' c' a1 a2 a3 a4 a5 a6 a7 => ?_⟩
  by_cases x : p' = p ∧ r' = r ∧ c' = c
  · obtain ⟨rfl, rfl, rfl⟩ := x
    refine ⟨⟨by rw [k3, cg p' r' c' (by omega) a2 a5], ?_⟩, k4⟩
    have gb := rm_grb hC hIw (z := z) (p := p') (r := r') hz a1 hr
    have b0 : (-1 ≤ (rm_ws w z n p' r' c').1 ∧ (rm_ws w z n p' r' c').1 ≤ 9 * (n - p')) ∧ (0 ≤ (rm_ws w z n p' r' c').2 ∧ (rm_ws w z n p' r' c').2 ≤ 1000000) := by
      unfold rm_ws
      by_cases y : p' + 1 = n
      · rw [if_pos y]; dsimp only; omega
      · rw [if_neg y]
        have row : ∀ r c, 0 ≤ r → r < (R : Int) → 0 ≤ c → c < w 76 2 → (-1 ≤ w 80 (rm_x (p' + 1) r c) ∧ w 80 (rm_x (p' + 1) r c) ≤ 9 * (n - (p' + 1))) ∧ (0 ≤ w 81 (rm_x (p' + 1) r c) ∧ w 81 (rm_x (p' + 1) r c) ≤ 1000000) := fun r2 c2 b1 b2 b3 b4 => (h.2 (p' + 1) r2 c2 (by omega) (by omega) b1 b2 b3 (by rw [w76] at b4; exact b4) (by omega)).1.2
        have s0 := rm_s1_b hC hIw (g := rm_gr w z p' r') (p := p') (r := r') (c := c') (e := -1) (s := (-1, 0)) row a5 (by decide) gb ⟨⟨by decide, by dsimp only; omega⟩, by decide⟩
        have s1 := rm_s1_b hC hIw (g := rm_gr w z p' r') (p := p') (r := r') (c := c') (e := 0) row a5 (by decide) gb s0
        have s2 := rm_s1_b hC hIw (g := rm_gr w z p' r') (p := p') (r := r') (c := c') (e := 1) row a5 (by decide) gb s1
        omega
    rw [← k3] at b0
    exact b0
  · have ne : rm_x p' r' c' ≠ rm_x p r c := by unfold rm_x; omega
    have o := h.2 p' r' c' a1 a2 a3 a4 a5 a6 (by omega)
    have t := k2 _ ne
    unfold rm_en
    rw [t.1, t.2.1, t.2.2, cg p' r' c' (by omega) a2 a5]
    exact o
theorem dX12_isNext_0 : decode cX12_isNext 0 = .ok (.aload_n 0, 1) := dk_42 (by decide +kernel)
theorem dX12_isNext_1 : decode cX12_isNext 1 = .ok (.iload_n 2, 1) := dk_28 (by decide +kernel)
theorem dX12_isNext_2 : decode cX12_isNext 2 = .ok (.iload_n 3, 1) := dk_29 (by decide +kernel)
theorem dX12_isNext_3 : decode cX12_isNext 3 = .ok (.iload 4, 2) := dk_21 (by decide +kernel)
theorem dX12_isNext_5 : decode cX12_isNext 5 = .ok (.iload_n 3, 1) := dk_29 (by decide +kernel)
theorem dX12_isNext_6 : decode cX12_isNext 6 = .ok (.iload 5, 2) := dk_21 (by decide +kernel)
theorem dX12_isNext_8 : decode cX12_isNext 8 = .ok (.iadd, 1) := dk_96 (by decide +kernel)
theorem dX12_isNext_9 : decode cX12_isNext 9 = .ok (.invokevirtual 123, 3) := dk_182 0 123 (by decide +kernel)
theorem dX12_isNext_12 : decode cX12_isNext 12 = .ok (.ifCond .ne 5, 3) := dk_154 0 5 (by decide +kernel)
theorem dX12_isNext_15 : decode cX12_isNext 15 = .ok (.iconst 0, 1) := dk_3 (by decide +kernel)
theorem dX12_isNext_16 : decode cX12_isNext 16 = .ok (.ireturn, 1) := dk_172 (by decide +kernel)
theorem dX12_isNext_17 : decode cX12_isNext 17 = .ok (.aload_n 0, 1) := dk_42 (by decide +kernel)
theorem dX12_isNext_18 : decode cX12_isNext 18 = .ok (.getfield 20, 3) := dk_180 0 20 (by decide +kernel)
theorem dX12_isNext_21 : decode cX12_isNext 21 = .ok (.iload_n 2, 1) := dk_28 (by decide +kernel)
theorem dX12_isNext_22 : decode cX12_isNext 22 = .ok (.iconst 1, 1) := dk_4 (by decide +kernel)
theorem dX12_isNext_23 : decode cX12_isNext 23 = .ok (.iadd, 1) := dk_96 (by decide +kernel)
theorem dX12_isNext_24 : decode cX12_isNext 24 = .ok (.iload_n 3, 1) := dk_29 (by decide +kernel)
theorem dX12_isNext_25 : decode cX12_isNext 25 = .ok (.iload 5, 2) := dk_21 (by decide +kernel)
theorem dX12_isNext_27 : decode cX12_isNext 27 = .ok (.iadd, 1) := dk_96 (by decide +kernel)
theorem dX12_isNext_28 : decode cX12_isNext 28 = .ok (.aload_n 0, 1) := dk_42 (by decide +kernel)
theorem dX12_isNext_29 : decode cX12_isNext 29 = .ok (.iload 4, 2) := dk_21 (by decide +kernel)
theorem dX12_isNext_31 : decode cX12_isNext 31 = .ok (.iload 5, 2) := dk_21 (by decide +kernel)
theorem dX12_isNext_33 : decode cX12_isNext 33 = .ok (.invokevirtual 127, 3) := dk_182 0 127 (by decide +kernel)
theorem dX12_isNext_36 : decode cX12_isNext 36 = .ok (.invokestatic 120, 3) := dk_184 0 120 (by decide +kernel)
theorem dX12_isNext_39 : decode cX12_isNext 39 = .ok (.iaload, 1) := dk_46 (by decide +kernel)
theorem dX12_isNext_40 : decode cX12_isNext 40 = .ok (.istore 6, 2) := dk_54 (by decide +kernel)
theorem dX12_isNext_42 : decode cX12_isNext 42 = .ok (.iload 6, 2) := dk_21 (by decide +kernel)
theorem dX12_isNext_44 : decode cX12_isNext 44 = .ok (.ifCond .lt 44, 3) := dk_155 0 44 (by decide +kernel)
theorem dX12_isNext_47 : decode cX12_isNext 47 = .ok (.iload 6, 2) := dk_21 (by decide +kernel)
theorem dX12_isNext_49 : decode cX12_isNext 49 = .ok (.aload_n 0, 1) := dk_42 (by decide +kernel)
theorem dX12_isNext_50 : decode cX12_isNext 50 = .ok (.getfield 7, 3) := dk_180 0 7 (by decide +kernel)
theorem dX12_isNext_53 : decode cX12_isNext 53 = .ok (.bipush 20, 2) := dk_16 20 (by decide +kernel)
theorem dX12_isNext_55 : decode cX12_isNext 55 = .ok (.iload_n 1, 1) := dk_27 (by decide +kernel)
theorem dX12_isNext_56 : decode cX12_isNext 56 = .ok (.iload_n 2, 1) := dk_28 (by decide +kernel)
theorem dX12_isNext_57 : decode cX12_isNext 57 = .ok (.aload_n 0, 1) := dk_42 (by decide +kernel)
theorem dX12_isNext_58 : decode cX12_isNext 58 = .ok (.getfield 80, 3) := dk_180 0 80 (by decide +kernel)
theorem dX12_isNext_61 : decode cX12_isNext 61 = .ok (.irem, 1) := dk_112 (by decide +kernel)
theorem dX12_isNext_62 : decode cX12_isNext 62 = .ok (.iload_n 3, 1) := dk_29 (by decide +kernel)
theorem dX12_isNext_63 : decode cX12_isNext 63 = .ok (.invokestatic 107, 3) := dk_184 0 107 (by decide +kernel)
theorem dX12_isNext_66 : decode cX12_isNext 66 = .ok (.iadd, 1) := dk_96 (by decide +kernel)
theorem dX12_isNext_67 : decode cX12_isNext 67 = .ok (.iaload, 1) := dk_46 (by decide +kernel)
theorem dX12_isNext_68 : decode cX12_isNext 68 = .ok (.iadd, 1) := dk_96 (by decide +kernel)
theorem dX12_isNext_69 : decode cX12_isNext 69 = .ok (.aload_n 0, 1) := dk_42 (by decide +kernel)
theorem dX12_isNext_70 : decode cX12_isNext 70 = .ok (.getfield 20, 3) := dk_180 0 20 (by decide +kernel)
theorem dX12_isNext_73 : decode cX12_isNext 73 = .ok (.iload_n 2, 1) := dk_28 (by decide +kernel)
theorem dX12_isNext_74 : decode cX12_isNext 74 = .ok (.iload_n 3, 1) := dk_29 (by decide +kernel)
theorem dX12_isNext_75 : decode cX12_isNext 75 = .ok (.iload 4, 2) := dk_21 (by decide +kernel)
theorem dX12_isNext_77 : decode cX12_isNext 77 = .ok (.invokestatic 120, 3) := dk_184 0 120 (by decide +kernel)
theorem dX12_isNext_80 : decode cX12_isNext 80 = .ok (.iaload, 1) := dk_46 (by decide +kernel)
theorem dX12_isNext_81 : decode cX12_isNext 81 = .ok (.if_icmp .ne 7, 3) := dk_160 0 7 (by decide +kernel)
theorem dX12_isNext_84 : decode cX12_isNext 84 = .ok (.iconst 1, 1) := dk_4 (by decide +kernel)
theorem dX12_isNext_85 : decode cX12_isNext 85 = .ok (.goto 4, 3) := dk_167 0 4 (by decide +kernel)
theorem dX12_isNext_88 : decode cX12_isNext 88 = .ok (.iconst 0, 1) := dk_3 (by decide +kernel)
theorem dX12_isNext_89 : decode cX12_isNext 89 = .ok (.ireturn, 1) := dk_172 (by decide +kernel)
set_option maxRecDepth 8000 in
theorem e_X12_isNext {g : ch_G} {A R : Nat} (hC : ck_Cx g A R) {d : Nat} {K : Option ck_V → ck_W → Prop} {w : ck_W} {a1 a2 a3 a4 a5 : Int} (h : ck_i (a3 + a5) ∧ ((((1 ≤ (w 76 0) ∧ (w 76 0) ≤ 6) ∧ (1 ≤ (w 76 1) ∧ (w 76 1) ≤ 1000)) ∧ (-1 ≤ a2 ∧ a2 ≤ 22) ∧ (-1000 ≤ a3 ∧ a3 ≤ 1000) ∧ (0 ≤ a4 ∧ a4 ≤ 1000)) ∧ ((rm_go (w 76 0) (w 76 1) (w 87 (a2 + 1)) a2 a3 a4 (a3 + a5) → (ck_i (3 * a4 + a5 + 1)) ∧ ((1 ≤ (w 76 2)) ∧ ((ck_i ((3 * a4 + a5 + 1).tmod (w 76 2))) ∧ (ck_i (a2 + 1) ∧ ((ck_i ((12 * (a2 + 1) + (a3 + a5)) * 243 + ((3 * a4 + a5 + 1).tmod (w 76 2)))) ∧ ((0 ≤ ((12 * (a2 + 1) + (a3 + a5)) * 243 + ((3 * a4 + a5 + 1).tmod (w 76 2))) ∧ ((12 * (a2 + 1) + (a3 + a5)) * 243 + ((3 * a4 + a5 + 1).tmod (w 76 2))) < 70000) ∧ (∀ x12, x12 = w 80 ((12 * (a2 + 1) + (a3 + a5)) * 243 + ((3 * a4 + a5 + 1).tmod (w 76 2))) → (x12 < 0 → K (some (.inl 0)) w) ∧ (¬ x12 < 0 → (¬ (w 76 0) = 0) ∧ (ck_i (a2.tmod (w 76 0)) ∧ ((ck_i (72 * a1 + 12 * (a2.tmod (w 76 0)) + a3)) ∧ ((0 ≤ (20 + (72 * a1 + 12 * (a2.tmod (w 76 0)) + a3)) ∧ (20 + (72 * a1 + 12 * (a2.tmod (w 76 0)) + a3)) < 1430) ∧ ((ck_i ((12 * a2 + a3) * 243 + a4)) ∧ ((0 ≤ ((12 * a2 + a3) * 243 + a4) ∧ ((12 * a2 + a3) * 243 + a4) < 70000) ∧ (ck_i (x12 + (w 77 (20 + (72 * a1 + 12 * (a2.tmod (w 76 0)) + a3)))) ∧ ((¬ (x12 + (w 77 (20 + (72 * a1 + 12 * (a2.tmod (w 76 0)) + a3)))) = (w 80 ((12 * a2 + a3) * 243 + a4)) → K (some (.inl 0)) w) ∧ ((x12 + (w 77 (20 + (72 * a1 + 12 * (a2.tmod (w 76 0)) + a3)))) = (w 80 ((12 * a2 + a3) * 243 + a4)) → K (some (.inl 1)) w)))))))))))))))) ∧ (¬ (rm_go (w 76 0) (w 76 1) (w 87 (a2 + 1)) a2 a3 a4 (a3 + a5)) → K (some (.inl 0)) w)))) : ck_Ex (ch_C g A R) (d + 3) mX12_isNext [.inr (.inr 76), .inl a1, .inl a2, .inl a3, .inl a4, .inl a5] w K :=
  ck_entry hC.1 [some (.inr (.inr 76)), some (.inl a1), some (.inl a2), some (.inl a3), some (.inl a4), some (.inl a5), none] (by decide) (Nat.le_of_ble_eq_true rfl) rfl (fun q => q) (ck_in (fun hl => (ck_aload_n 1 rfl 0 dX12_isNext_0 rfl rfl (ck_iload_n 2 rfl 2 dX12_isNext_1 rfl rfl (ck_iload_n 3 rfl 3 dX12_isNext_2 rfl rfl (ck_iload 5 rfl dX12_isNext_3 rfl (ck_iload_n 6 rfl 3 dX12_isNext_5 rfl rfl (ck_iload 8 rfl dX12_isNext_6 rfl (ck_iadd 9 rfl dX12_isNext_8 (have h34 := h; have o1 := h34.1; have h33 := h34.2; (have h36 := h33; have o2 := h36.1; have h35 := h36.2; (have h32 := h35; ck_callV 12 rfl [.inl a2, .inl a3, .inl a4, .inl (a3 + a5)] [] dX12_isNext_9 cv_X12_123 sh_76 rfl rfl (Nat.le_of_ble_eq_true rfl) (And.intro hl.2.2.1 (And.intro hl.2.2.2.1 (And.intro hl.2.2.2.2.1 (And.intro o1 True.intro)))) (p_X12_mayGo hC o2 (fun c30 _ => (ck_if_ne 15 rfl 17 dX12_isNext_12 rfl (by decide) (fun _ => (ck_aload_n 18 rfl 0 dX12_isNext_17 rfl rfl (ck_getr 21 rfl dX12_isNext_18 fl_X12_20 sh_76 rfl (ck_iload_n 22 rfl 2 dX12_isNext_21 rfl rfl (ck_iconst 23 rfl dX12_isNext_22 rfl (ck_iadd 24 rfl dX12_isNext_23 (ck_iload_n 25 rfl 3 dX12_isNext_24 rfl rfl (ck_iload 27 rfl dX12_isNext_25 rfl (ck_iadd 28 rfl dX12_isNext_27 (ck_aload_n 29 rfl 0 dX12_isNext_28 rfl rfl (ck_iload 31 rfl dX12_isNext_29 rfl (ck_iload 33 rfl dX12_isNext_31 rfl (have h38 := (h32.1 c30); have o3 := h38.1; have h37 := h38.2; (have h40 := h37; have o4 := h40.1; have h39 := h40.2; (have h42 := h39; have o5 := h42.1; have h41 := h42.2; (ck_callV 36 rfl [.inl a4, .inl a5] [.inl (a3 + a5), .inl (a2 + 1), .inr (.inr 80)] dX12_isNext_33 cv_X12_127 sh_76 rfl rfl (Nat.le_of_ble_eq_true rfl) (And.intro hl.2.2.2.2.1 (And.intro hl.2.2.2.2.2.1 True.intro)) (p_X12_nextCode hC o3 o4 o5 (fun q6 => (have h44 := h41; have o7 := h44.1; have h43 := h44.2; (have h46 := h43; have o8 := h46.1; have h45 := h46.2; (ck_callS 39 rfl [.inl (a2 + 1), .inl (a3 + a5), .inl ((3 * a4 + a5 + 1).tmod (w 76 2))] [.inr (.inr 80)] dX12_isNext_36 cs_X12_120 rfl rfl (Nat.le_of_ble_eq_true rfl) (And.intro o7 (And.intro o1 (And.intro q6.1 True.intro))) (p_X12_state hC o8 (fun q9 => (have h48 := h45; have o10 := h48.1; have h47 := h48.2; (ck_iald 40 rfl dX12_isNext_39 sh_80 (shn_80 hC) o10 _ rfl (fun (q11 : ck_i (w 80 ((12 * (a2 + 1) + (a3 + a5)) * 243 + ((3 * a4 + a5 + 1).tmod (w 76 2))))) => (ck_nmi (fun x12 e13 => (ck_istore 42 rfl [some (.inr (.inr 76)), some (.inl a1), some (.inl a2), some (.inl a3), some (.inl a4), some (.inl a5), some (.inl x12)] dX12_isNext_40 (Nat.le_of_ble_eq_true rfl) rfl rfl (by rw [e13]; exact q11) (ck_iload 44 rfl dX12_isNext_42 rfl (have h49 := (h47 x12 e13); (ck_if_lt 47 rfl 88 dX12_isNext_44 rfl (by rw [e13]; exact q11) (fun c28 => (ck_iconst 89 rfl dX12_isNext_88 rfl (ck_zret dX12_isNext_89 rfl (by decide) (h49.1 c28)))) (fun c29 => (ck_iload 49 rfl dX12_isNext_47 rfl (ck_aload_n 50 rfl 0 dX12_isNext_49 rfl rfl (ck_getr 53 rfl dX12_isNext_50 fl_X12_7 sh_76 rfl (ck_bipush 55 rfl dX12_isNext_53 rfl (ck_iload_n 56 rfl 1 dX12_isNext_55 rfl rfl (ck_iload_n 57 rfl 2 dX12_isNext_56 rfl rfl (ck_aload_n 58 rfl 0 dX12_isNext_57 rfl rfl (ck_geti 61 rfl 0 dX12_isNext_58 fl_X12_80 sh_76 rfl rfl _ rfl (fun (q14 : ck_i (w 76 0)) => (have h51 := (h49.2 c29); have o15 := h51.1; have h50 := h51.2; (ck_irem 62 rfl dX12_isNext_61 hl.2.2.1 q14 o15 (ck_iload_n 63 rfl 3 dX12_isNext_62 rfl rfl (have h53 := h50; have o16 := h53.1; have h52 := h53.2; (have h55 := h52; have o17 := h55.1; have h54 := h55.2; (ck_callS 66 rfl [.inl a1, .inl (a2.tmod (w 76 0)), .inl a3] [.inl 20, .inr (.inr 77), .inl x12] dX12_isNext_63 cs_X12_107 rfl rfl (Nat.le_of_ble_eq_true rfl) (And.intro hl.2.1 (And.intro o16 (And.intro hl.2.2.2.1 True.intro))) (p_X12_spot hC o17 (fun q18 => (ck_iadd 67 rfl dX12_isNext_66 (have h57 := h54; have o19 := h57.1; have h56 := h57.2; (ck_iald 68 rfl dX12_isNext_67 sh_77 (shn_77 hC) o19 _ rfl (fun (q20 : ck_i (w 77 (20 + (72 * a1 + 12 * (a2.tmod (w 76 0)) + a3)))) => (ck_iadd 69 rfl dX12_isNext_68 (ck_aload_n 70 rfl 0 dX12_isNext_69 rfl rfl (ck_getr 73 rfl dX12_isNext_70 fl_X12_20 sh_76 rfl (ck_iload_n 74 rfl 2 dX12_isNext_73 rfl rfl (ck_iload_n 75 rfl 3 dX12_isNext_74 rfl rfl (ck_iload 77 rfl dX12_isNext_75 rfl (have h59 := h56; have o21 := h59.1; have h58 := h59.2; (ck_callS 80 rfl [.inl a2, .inl a3, .inl a4] [.inr (.inr 80), .inl (x12 + (w 77 (20 + (72 * a1 + 12 * (a2.tmod (w 76 0)) + a3))))] dX12_isNext_77 cs_X12_120 rfl rfl (Nat.le_of_ble_eq_true rfl) (And.intro hl.2.2.1 (And.intro hl.2.2.2.1 (And.intro hl.2.2.2.2.1 True.intro))) (p_X12_state hC o21 (fun q22 => (have h61 := h58; have o23 := h61.1; have h60 := h61.2; (ck_iald 81 rfl dX12_isNext_80 sh_80 (shn_80 hC) o23 _ rfl (fun (q24 : ck_i (w 80 ((12 * a2 + a3) * 243 + a4))) => (have h63 := h60; have o25 := h63.1; have h62 := h63.2; (ck_icmp_ne 84 rfl 88 dX12_isNext_81 rfl o25 q24 (fun c26 => (ck_iconst 89 rfl dX12_isNext_88 rfl (ck_zret dX12_isNext_89 rfl (by decide) (h62.1 c26)))) (fun c27 => (ck_iconst 85 rfl dX12_isNext_84 rfl (ck_goto 89 dX12_isNext_85 rfl (ck_zret dX12_isNext_89 rfl (by decide) (h62.2 c27)))))))))))))))))))))))))))))))))))))))))))))))))))))))))))))))))))))))))) (fun q => absurd q (by decide)))) (fun c31 _ => (ck_if_ne 15 rfl 17 dX12_isNext_12 rfl (by decide) (fun q => absurd q (by decide)) (fun _ => (ck_iconst 16 rfl dX12_isNext_15 rfl (ck_zret dX12_isNext_16 rfl (by decide) (h32.2 c31)))))))))))))))))))
theorem S_X12_isNext {g : ch_G} {A R : Nat} (hC : ck_Cx g A R) {d : Nat} {K : Option ck_V → ck_W → Prop} {w : ck_W} {a1 a2 a3 a4 a5 : Int} (hI : rm_I A R w) (h1 : 0 ≤ a1 ∧ a1 ≤ 5) (h2 : 0 ≤ a2 ∧ a2 ≤ 22) (h3 : 0 ≤ a3 ∧ a3 < (R : Int)) (h4 : 0 ≤ a4 ∧ a4 < w 76 2) (h5 : -1 ≤ a5 ∧ a5 ≤ 1) (hf : ∀ r c, 0 ≤ r → r < (R : Int) → 0 ≤ c → c < w 76 2 → w 80 (rm_x (a2 + 1) r c) ≤ 1000)
    (k1 : rm_nx w a1 a2 a3 a4 a5 → K (some (.inl 1)) w) (k0 : ¬ rm_nx w a1 a2 a3 a4 a5 → K (some (.inl 0)) w) : ck_Ex (ch_C g A R) (d + 3) mX12_isNext [.inr (.inr 76), .inl a1, .inl a2, .inl a3, .inl a4, .inl a5] w K := by
  have c := rm_cp hC hI
  have t := rm_tmb (p := a2) (a := w 76 0) (by omega) h2.1
  have gb := rm_grb hC hI (z := a1) (p := a2) (r := a3) h1 h2.1 h3
  have nb : 0 ≤ (3 * a4 + a5 + 1).tmod (w 76 2) ∧ (3 * a4 + a5 + 1).tmod (w 76 2) < w 76 2 := rm_ncb (m := w 76 2) (c := a4) (e := a5) (by omega) (by omega)
  refine e_X12_isNext hC ⟨by constructor <;> omega, by omega, fun go => ?_, fun go => k0 (fun q => go q.1)⟩
  have gg := go.1
  have fb := hf (a3 + a5) _ (by omega) (by omega) nb.1 nb.2
  refine ⟨by constructor <;> omega, by omega, by constructor <;> omega, by constructor <;> omega, by constructor <;> omega, by omega, fun x ex => ?_⟩
  have ex' : x = w 80 (rm_x (a2 + 1) (a3 + a5) (rm_nc (w 76 2) a4 a5)) := ex
  have fb' : x ≤ 1000 := by rw [ex']; exact fb
  have eg : w 77 (20 + (72 * a1 + 12 * a2.tmod (w 76 0) + a3)) = rm_gr w a1 a2 a3 := rfl
  refine ⟨fun z => k0 (fun q => by have q2 := q.2.1; rw [← ex'] at q2; omega), fun z => ⟨by omega, by constructor <;> omega, by constructor <;> omega, by omega, by constructor <;> omega, by omega, ?_, ?_, ?_⟩⟩
  · rw [eg]; constructor <;> omega
  · intro y
    rw [eg] at y
    exact k0 (fun q => by rw [rm_nx, ← ex'] at q; exact y q.2.2)
  · intro y
    rw [eg] at y
    exact k1 ⟨go, by rw [← ex']; omega, by rw [← ex']; exact y⟩
