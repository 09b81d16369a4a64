/-! ===== the class: rows are copied, image, back ===== -/
def ch_cp (w : ch_W) (k q n : Nat) : ch_W := (fun a => if a = q then va_cpy (w.1 k) (w.1 q) 0 0 n else w.1 a, w.2)
def ck_cp (w : ck_W) (k q n : Nat) : ck_W := fun a => if a = q then (fun j => if 0 ≤ j ∧ j < (n : Int) then w k j else w q j) else w a
theorem ck_cp_ne {w : ck_W} {k q n a : Nat} (h : a ≠ q) : ck_cp w k q n a = w a := by simp [ck_cp, h]
theorem ck_cp_at {w : ck_W} {k q n : Nat} {j : Int} : ck_cp w k q n q j = if 0 ≤ j ∧ j < (n : Int) then w k j else w q j := by simp [ck_cp]
theorem cp_l : Cond.methodLink RX11 350 arraycopyName ∈ ch_T := ch_mem (ch_t5 213 rfl) rfl
theorem cp_n : Cond.native arraycopyName ∈ ch_T := ch_mem (ch_t5 215 rfl) rfl
theorem cp_s : Cond.static arraycopyName ∈ ch_T := ch_mem (ch_t5 214 rfl) rfl
theorem cp_i : Cond.initialized "java/lang/System" ∈ ch_T := ch_mem (ch_t1 22 rfl) rfl
theorem ch_copy {X : ch_X} {d : Nat} {y : ch_M} {K : Option Value → ch_W → Prop} {pc : Nat} {L : ch_Lo} {S : List Value} {w : ch_W} {k q n index : Nat} (hd : decode y.2.1 pc = .ok (.invokestatic index, 3)) (hc : Cond.methodLink y.1.cls index arraycopyName ∈ ch_T) (hk : X.2.2.2.2.2[k]? = some (.inl (.int, n))) (hq : X.2.2.2.2.2[q]? = some (.inl (.int, n))) (hn : n < 2147483648) (h8 : (S.map fun v => v.category).sum ≤ 8)
    (kk : ch_At X (d + 1) y K (pc + 3) L S (ch_cp w k q n)) : ch_At X (d + 1) y K pc L (.int (Int32.ofNat n) :: .int 0 :: .ref q :: .int 0 :: .ref k :: S) w := by
  intro p e s m args below meth c E H locs ls hP hS hl
  obtain ⟨hx, hb, hr, hml, hts, hown, hlocks, hK, hB, hO, hN⟩ := id E
  have en : (Int32.ofNat n).toNatClampNeg = n := nI_clamp (by omega)
  have e0 : (0 : Int32).toNatClampNeg = 0 := rfl
  have nn : ¬ Int32.ofNat n < 0 := by
    intro h
    have h1 := Int32.lt_iff_toInt_lt.mp h
    rw [show (Int32.ofNat n).toInt = (n : Int) from nI_toInt (by omega)] at h1
    simp at h1
    omega
  refine va_copyi hx hb (by rw [hml]; exact hl.1.symm) hown (hts _ hc) (hts _ cp_n) (hts _ cp_s) (hts _ cp_i) hK hP (hO.D w) hS k q 0 0 (ch_ws_at (w := w) hk) (ch_ws_at (w := w) hq) rfl rfl rfl (by decide) (by decide) nn (by rw [e0, en]; omega) (by rw [e0, en]; omega) (fun i _ => rfl) ?_ ?_ hd (fun H1 locs1 hP1 hD1 hS1 => ?_)
  · show 1 ≤ d + 1; omega
  · have : (S.map (ch_re X)).map (fun v => v.category) = S.map (fun v => v.category) := by simp [ch_re_cat]
    rw [this]
    have nw : nativeFrameWords "java/lang/System" "arraycopy" 5 = 7 := by decide
    rw [nw]
    show _ ≤ 40 * (d + 1)
    omega
  · refine kk p e s m args below meth c E H1 locs1 ls ?_ hS1 hl
    show va_P X.2.1 vwCl (ch_ws X (ch_cp w k q n)) H1
    rw [e0, en] at hP1
    rw [← ch_ws_set (w := w) (w' := ch_cp w k q n) (e := .inl (X.2.2.1 .int, n, .inl (va_cpy (w.1 k) (w.1 q) 0 0 n))) hq (fun i h => by simp [ch_cp, h]) (fun i h => rfl) ?_]
    · exact hP1
    · simp only [ch_cell, ch_cp, if_true]
theorem ck_copy {X : ch_X} {d : Nat} {y : ch_M} {K : Option ck_V → ck_W → Prop} {pc : Nat} {L : ck_L} {S : List ck_V} {w : ck_W} {k q n index : Nat} (nx : Nat) (hnx : pc + 3 = nx) (hd : decode y.2.1 pc = .ok (.invokestatic index, 3)) (hc : Cond.methodLink y.1.cls index arraycopyName ∈ ch_T) (hk : X.2.2.2.2.2[k]? = some (.inl (.int, n))) (hq : X.2.2.2.2.2[q]? = some (.inl (.int, n))) (hn : n < 2147483648) {e : Int} (he : e = (n : Int)) (h8 : (S.map ck_cat).sum ≤ 8)
    (kk : ck_At X (d + 1) y K nx L S (ck_cp w k q n)) : ck_At X (d + 1) y K pc L (.inl e :: .inl 0 :: .inr (.inr q) :: .inl 0 :: .inr (.inr k) :: S) w := by
  subst hnx
  intro hw hl
  have ok : ck_ok X.2.2.2.2.2 (ck_cp w k q n) := by
    intro a j
    by_cases ha : a = q
    · subst ha
      rw [ck_cp_at]
      split
      · refine ⟨fun h => absurd h (by rw [ck_lgA hq (by decide)]; decide), fun _ => (hw k j).2 (ck_lgA hk (by decide))⟩
      · exact hw a j
    · rw [ck_cp_ne ha]; exact hw a j
  have e1 : Int32.ofInt e = Int32.ofNat n := by rw [he]; exact kb_n n
  have h := ch_copy (X := X) (d := d) (y := y) (K := ck_K X K) (pc := pc) (L := L.map (Option.map ck_v)) (S := S.map ck_v) (w := ck_w w) hd hc hk hq hn (by rw [ck_cats]; exact h8) (ck_tr ?_ (kk ok hl))
  · show ch_At X (d + 1) y (ck_K X K) pc _ (.int (Int32.ofInt e) :: .int (Int32.ofInt 0) :: .ref q :: .int (Int32.ofInt 0) :: .ref k :: S.map ck_v) _
    rw [e1]
    exact h
  · refine ck_ws_c (fun a dd hdd => ?_)
    by_cases ha : a = q
    · subst ha
      rw [hq] at hdd
      cases hdd
      have : (ch_cp (ck_w w) k a n).1 a = (ck_w (ck_cp w k a n)).1 a := by
        funext b
        simp only [ch_cp, ck_w, ck_cp_at, va_cpy, if_true]
        by_cases z : b < n
        · rw [if_pos (by omega), if_pos (by omega)]; simp
        · rw [if_neg (by omega), if_neg (by omega)]
      simp only [ch_cell, this]
    · exact ch_cell_ne dd (by simp [ch_cp, ck_w, ck_cp, ha]) (by simp [ch_cp, ck_w, ck_cp, ha])
theorem dcopy_0 : decode cX11_copyRow 0 = .ok (.aload_n 0, 1) := dk_42 (by decide +kernel)
theorem dcopy_1 : decode cX11_copyRow 1 = .ok (.iconst 0, 1) := dk_3 (by decide +kernel)
theorem dcopy_2 : decode cX11_copyRow 2 = .ok (.aload_n 1, 1) := dk_43 (by decide +kernel)
theorem dcopy_3 : decode cX11_copyRow 3 = .ok (.iconst 0, 1) := dk_3 (by decide +kernel)
theorem dcopy_4 : decode cX11_copyRow 4 = .ok (.aload_n 0, 1) := dk_42 (by decide +kernel)
theorem dcopy_5 : decode cX11_copyRow 5 = .ok (.arraylength, 1) := dk_190 (by decide +kernel)
theorem dcopy_6 : decode cX11_copyRow 6 = .ok (.aload_n 1, 1) := dk_43 (by decide +kernel)
theorem dcopy_7 : decode cX11_copyRow 7 = .ok (.arraylength, 1) := dk_190 (by decide +kernel)
theorem dcopy_8 : decode cX11_copyRow 8 = .ok (.invokestatic 345, 3) := dk_184 1 89 (by decide +kernel)
theorem dcopy_11 : decode cX11_copyRow 11 = .ok (.invokestatic 350, 3) := dk_184 1 94 (by decide +kernel)
theorem dcopy_14 : decode cX11_copyRow 14 = .ok (.return_, 1) := dk_177 (by decide +kernel)
theorem p_copyRow {g : ch_G} {A R : Nat} (hC : ck_Cx g A R) {d : Nat} {K : Option ck_V → ck_W → Prop} {w : ck_W} {k q n : Nat} (hk : (ch_C g A R).2.2.2.2.2[k]? = some (.inl (.int, n))) (hq : (ch_C g A R).2.2.2.2.2[q]? = some (.inl (.int, n))) (hn : n < 2147483648) (h : K none (ck_cp w k q n)) : ck_Ex (ch_C g A R) (d + 1) mX11_copyRow [.inr (.inr k), .inr (.inr q)] w K :=
  ck_entry hC.1 [some (.inr (.inr k)), some (.inr (.inr q))] (by decide) (Nat.le_of_ble_eq_true rfl) rfl (fun q => q) (ck_in (fun hl => (ck_aload_n 1 rfl 0 dcopy_0 rfl rfl (ck_iconst 2 rfl dcopy_1 rfl (ck_aload_n 3 rfl 1 dcopy_2 rfl rfl (ck_iconst 4 rfl dcopy_3 rfl (ck_aload_n 5 rfl 0 dcopy_4 rfl rfl (ck_alen 6 rfl 0 (n : Int) dcopy_5 hk rfl rfl (ck_aload_n 7 rfl 1 dcopy_6 rfl rfl (ck_alen 8 rfl 0 (n : Int) dcopy_7 hq rfl rfl (ck_callS 11 rfl [.inl (n : Int), .inl (n : Int)] [.inl 0, .inr (.inr q), .inl 0, .inr (.inr k)] dcopy_8 cs_X11_345 rfl rfl (Nat.le_of_ble_eq_true rfl) ⟨ck_ln hn, ck_ln hn, trivial⟩ (p_J9_min_7cf53 hC (fun _ => ck_copy 14 rfl dcopy_11 cp_l hk hq hn (by omega) (Nat.le_of_ble_eq_true rfl) (ck_vret dcopy_14 rfl h))))))))))))))
theorem dX5_copyFrom_0 : decode cX5_copyFrom 0 = .ok (.aload_n 1, 1) := dk_43 (by decide +kernel)
theorem dX5_copyFrom_1 : decode cX5_copyFrom 1 = .ok (.getfield 34, 3) := dk_180 0 34 (by decide +kernel)
theorem dX5_copyFrom_4 : decode cX5_copyFrom 4 = .ok (.aload_n 0, 1) := dk_42 (by decide +kernel)
theorem dX5_copyFrom_5 : decode cX5_copyFrom 5 = .ok (.getfield 34, 3) := dk_180 0 34 (by decide +kernel)
theorem dX5_copyFrom_8 : decode cX5_copyFrom 8 = .ok (.invokestatic 46, 3) := dk_184 0 46 (by decide +kernel)
theorem dX5_copyFrom_11 : decode cX5_copyFrom 11 = .ok (.aload_n 1, 1) := dk_43 (by decide +kernel)
theorem dX5_copyFrom_12 : decode cX5_copyFrom 12 = .ok (.getfield 37, 3) := dk_180 0 37 (by decide +kernel)
theorem dX5_copyFrom_15 : decode cX5_copyFrom 15 = .ok (.aload_n 0, 1) := dk_42 (by decide +kernel)
theorem dX5_copyFrom_16 : decode cX5_copyFrom 16 = .ok (.getfield 37, 3) := dk_180 0 37 (by decide +kernel)
theorem dX5_copyFrom_19 : decode cX5_copyFrom 19 = .ok (.invokestatic 46, 3) := dk_184 0 46 (by decide +kernel)
theorem dX5_copyFrom_22 : decode cX5_copyFrom 22 = .ok (.aload_n 1, 1) := dk_43 (by decide +kernel)
theorem dX5_copyFrom_23 : decode cX5_copyFrom 23 = .ok (.getfield 9, 3) := dk_180 0 9 (by decide +kernel)
theorem dX5_copyFrom_26 : decode cX5_copyFrom 26 = .ok (.aload_n 0, 1) := dk_42 (by decide +kernel)
theorem dX5_copyFrom_27 : decode cX5_copyFrom 27 = .ok (.getfield 9, 3) := dk_180 0 9 (by decide +kernel)
theorem dX5_copyFrom_30 : decode cX5_copyFrom 30 = .ok (.invokestatic 46, 3) := dk_184 0 46 (by decide +kernel)
theorem dX5_copyFrom_33 : decode cX5_copyFrom 33 = .ok (.aload_n 1, 1) := dk_43 (by decide +kernel)
theorem dX5_copyFrom_34 : decode cX5_copyFrom 34 = .ok (.getfield 15, 3) := dk_180 0 15 (by decide +kernel)
theorem dX5_copyFrom_37 : decode cX5_copyFrom 37 = .ok (.aload_n 0, 1) := dk_42 (by decide +kernel)
theorem dX5_copyFrom_38 : decode cX5_copyFrom 38 = .ok (.getfield 15, 3) := dk_180 0 15 (by decide +kernel)
theorem dX5_copyFrom_41 : decode cX5_copyFrom 41 = .ok (.invokestatic 46, 3) := dk_184 0 46 (by decide +kernel)
theorem dX5_copyFrom_44 : decode cX5_copyFrom 44 = .ok (.aload_n 0, 1) := dk_42 (by decide +kernel)
theorem dX5_copyFrom_45 : decode cX5_copyFrom 45 = .ok (.aload_n 1, 1) := dk_43 (by decide +kernel)
theorem dX5_copyFrom_46 : decode cX5_copyFrom 46 = .ok (.getfield 50, 3) := dk_180 0 50 (by decide +kernel)
theorem dX5_copyFrom_49 : decode cX5_copyFrom 49 = .ok (.putfield 50, 3) := dk_181 0 50 (by decide +kernel)
theorem dX5_copyFrom_52 : decode cX5_copyFrom 52 = .ok (.return_, 1) := dk_177 (by decide +kernel)
set_option maxRecDepth 8000 in
theorem e_cfb_scan {g : ch_G} {A R : Nat} (hC : ck_Cx g A R) {d : Nat} {K : Option ck_V → ck_W → Prop} {w : ck_W} (h : K none (ck_up (ck_cp (ck_cp (ck_cp (ck_cp w 28 4 (6 * A * R)) 29 5 (6 * A * R)) 30 6 6) 31 7 144) 3 6 (w 27 6))) : ck_Ex (ch_C g A R) (d + 2) mX5_copyFrom [.inr (.inr 3), .inr (.inr 27)] w K :=
  ck_entry hC.1 [some (.inr (.inr 3)), some (.inr (.inr 27))] (by decide) (Nat.le_of_ble_eq_true rfl) rfl (fun q => q) (ck_in (fun hl => (ck_aload_n 1 rfl 1 dX5_copyFrom_0 rfl rfl (ck_getr 4 rfl dX5_copyFrom_1 fl_X5_34 sh_27 rfl (ck_aload_n 5 rfl 0 dX5_copyFrom_4 rfl rfl (ck_getr 8 rfl dX5_copyFrom_5 fl_X5_34 sh_3 rfl (ck_callSN 11 rfl [.inr (.inr 28), .inr (.inr 4)] [] dX5_copyFrom_8 cn_X5_46 rfl rfl (Nat.le_of_ble_eq_true rfl) (And.intro True.intro (And.intro True.intro True.intro)) (p_copyRow hC sh_28 sh_4 (shn_28 hC) (fun _ => (ck_aload_n 12 rfl 1 dX5_copyFrom_11 rfl rfl (ck_getr 15 rfl dX5_copyFrom_12 fl_X5_37 sh_27 rfl (ck_aload_n 16 rfl 0 dX5_copyFrom_15 rfl rfl (ck_getr 19 rfl dX5_copyFrom_16 fl_X5_37 sh_3 rfl (ck_callSN 22 rfl [.inr (.inr 29), .inr (.inr 5)] [] dX5_copyFrom_19 cn_X5_46 rfl rfl (Nat.le_of_ble_eq_true rfl) (And.intro True.intro (And.intro True.intro True.intro)) (p_copyRow hC sh_29 sh_5 (shn_29 hC) (fun _ => (ck_aload_n 23 rfl 1 dX5_copyFrom_22 rfl rfl (ck_getr 26 rfl dX5_copyFrom_23 fl_X5_9 sh_27 rfl (ck_aload_n 27 rfl 0 dX5_copyFrom_26 rfl rfl (ck_getr 30 rfl dX5_copyFrom_27 fl_X5_9 sh_3 rfl (ck_callSN 33 rfl [.inr (.inr 30), .inr (.inr 6)] [] dX5_copyFrom_30 cn_X5_46 rfl rfl (Nat.le_of_ble_eq_true rfl) (And.intro True.intro (And.intro True.intro True.intro)) (p_copyRow hC sh_30 sh_6 (shn_30 hC) (fun _ => (ck_aload_n 34 rfl 1 dX5_copyFrom_33 rfl rfl (ck_getr 37 rfl dX5_copyFrom_34 fl_X5_15 sh_27 rfl (ck_aload_n 38 rfl 0 dX5_copyFrom_37 rfl rfl (ck_getr 41 rfl dX5_copyFrom_38 fl_X5_15 sh_3 rfl (ck_callSN 44 rfl [.inr (.inr 31), .inr (.inr 7)] [] dX5_copyFrom_41 cn_X5_46 rfl rfl (Nat.le_of_ble_eq_true rfl) (And.intro True.intro (And.intro True.intro True.intro)) (p_copyRow hC sh_31 sh_7 (shn_31 hC) (fun _ => (ck_aload_n 45 rfl 0 dX5_copyFrom_44 rfl rfl (ck_aload_n 46 rfl 1 dX5_copyFrom_45 rfl rfl (ck_geti 49 rfl 6 dX5_copyFrom_46 fl_X5_50 sh_27 rfl rfl _ rfl (fun (q1 : ck_i (w 27 6)) => (ck_puti 52 rfl 6 dX5_copyFrom_49 fp_X5_50 sh_3 rfl rfl q1 (ck_vret dX5_copyFrom_52 rfl h))))))))))))))))))))))))))))))))))))
theorem dX9_copyFrom_0 : decode cX9_copyFrom 0 = .ok (.aload_n 1, 1) := dk_43 (by decide +kernel)
theorem dX9_copyFrom_1 : decode cX9_copyFrom 1 = .ok (.getfield 9, 3) := dk_180 0 9 (by decide +kernel)
theorem dX9_copyFrom_4 : decode cX9_copyFrom 4 = .ok (.aload_n 0, 1) := dk_42 (by decide +kernel)
theorem dX9_copyFrom_5 : decode cX9_copyFrom 5 = .ok (.getfield 9, 3) := dk_180 0 9 (by decide +kernel)
theorem dX9_copyFrom_8 : decode cX9_copyFrom 8 = .ok (.invokestatic 19, 3) := dk_184 0 19 (by decide +kernel)
theorem dX9_copyFrom_11 : decode cX9_copyFrom 11 = .ok (.aload_n 0, 1) := dk_42 (by decide +kernel)
theorem dX9_copyFrom_12 : decode cX9_copyFrom 12 = .ok (.aload_n 1, 1) := dk_43 (by decide +kernel)
theorem dX9_copyFrom_13 : decode cX9_copyFrom 13 = .ok (.getfield 23, 3) := dk_180 0 23 (by decide +kernel)
theorem dX9_copyFrom_16 : decode cX9_copyFrom 16 = .ok (.putfield 23, 3) := dk_181 0 23 (by decide +kernel)
theorem dX9_copyFrom_19 : decode cX9_copyFrom 19 = .ok (.aload_n 0, 1) := dk_42 (by decide +kernel)
theorem dX9_copyFrom_20 : decode cX9_copyFrom 20 = .ok (.aload_n 1, 1) := dk_43 (by decide +kernel)
theorem dX9_copyFrom_21 : decode cX9_copyFrom 21 = .ok (.getfield 15, 3) := dk_180 0 15 (by decide +kernel)
theorem dX9_copyFrom_24 : decode cX9_copyFrom 24 = .ok (.putfield 15, 3) := dk_181 0 15 (by decide +kernel)
theorem dX9_copyFrom_27 : decode cX9_copyFrom 27 = .ok (.return_, 1) := dk_177 (by decide +kernel)
set_option maxRecDepth 8000 in
theorem e_cfb_walk {g : ch_G} {A R : Nat} (hC : ck_Cx g A R) {d : Nat} {K : Option ck_V → ck_W → Prop} {w : ck_W} (h : K none (ck_up (ck_up (ck_cp w 33 9 30) 8 1 (w 32 1)) 8 2 (w 32 2))) : ck_Ex (ch_C g A R) (d + 2) mX9_copyFrom [.inr (.inr 8), .inr (.inr 32)] w K :=
  ck_entry hC.1 [some (.inr (.inr 8)), some (.inr (.inr 32))] (by decide) (Nat.le_of_ble_eq_true rfl) rfl (fun q => q) (ck_in (fun hl => (ck_aload_n 1 rfl 1 dX9_copyFrom_0 rfl rfl (ck_getr 4 rfl dX9_copyFrom_1 fl_X9_9 sh_32 rfl (ck_aload_n 5 rfl 0 dX9_copyFrom_4 rfl rfl (ck_getr 8 rfl dX9_copyFrom_5 fl_X9_9 sh_8 rfl (ck_callSN 11 rfl [.inr (.inr 33), .inr (.inr 9)] [] dX9_copyFrom_8 cn_X9_19 rfl rfl (Nat.le_of_ble_eq_true rfl) (And.intro True.intro (And.intro True.intro True.intro)) (p_copyRow hC sh_33 sh_9 (shn_33 hC) (fun _ => (ck_aload_n 12 rfl 0 dX9_copyFrom_11 rfl rfl (ck_aload_n 13 rfl 1 dX9_copyFrom_12 rfl rfl (ck_geti 16 rfl 1 dX9_copyFrom_13 fl_X9_23 sh_32 rfl rfl _ rfl (fun (q1 : ck_i (w 32 1)) => (ck_puti 19 rfl 1 dX9_copyFrom_16 fp_X9_23 sh_8 rfl rfl q1 (ck_aload_n 20 rfl 0 dX9_copyFrom_19 rfl rfl (ck_aload_n 21 rfl 1 dX9_copyFrom_20 rfl rfl (ck_geti 24 rfl 2 dX9_copyFrom_21 fl_X9_15 sh_32 rfl rfl _ rfl (fun (q2 : ck_i (w 32 2)) => (ck_puti 27 rfl 2 dX9_copyFrom_24 fp_X9_15 sh_8 rfl rfl q2 (ck_vret dX9_copyFrom_27 rfl h))))))))))))))))))))
theorem dX4_copyFrom_0 : decode cX4_copyFrom 0 = .ok (.aload_n 1, 1) := dk_43 (by decide +kernel)
theorem dX4_copyFrom_1 : decode cX4_copyFrom 1 = .ok (.getfield 9, 3) := dk_180 0 9 (by decide +kernel)
theorem dX4_copyFrom_4 : decode cX4_copyFrom 4 = .ok (.aload_n 0, 1) := dk_42 (by decide +kernel)
theorem dX4_copyFrom_5 : decode cX4_copyFrom 5 = .ok (.getfield 9, 3) := dk_180 0 9 (by decide +kernel)
theorem dX4_copyFrom_8 : decode cX4_copyFrom 8 = .ok (.invokestatic 30, 3) := dk_184 0 30 (by decide +kernel)
theorem dX4_copyFrom_11 : decode cX4_copyFrom 11 = .ok (.aload_n 1, 1) := dk_43 (by decide +kernel)
theorem dX4_copyFrom_12 : decode cX4_copyFrom 12 = .ok (.getfield 15, 3) := dk_180 0 15 (by decide +kernel)
theorem dX4_copyFrom_15 : decode cX4_copyFrom 15 = .ok (.aload_n 0, 1) := dk_42 (by decide +kernel)
theorem dX4_copyFrom_16 : decode cX4_copyFrom 16 = .ok (.getfield 15, 3) := dk_180 0 15 (by decide +kernel)
theorem dX4_copyFrom_19 : decode cX4_copyFrom 19 = .ok (.invokestatic 30, 3) := dk_184 0 30 (by decide +kernel)
theorem dX4_copyFrom_22 : decode cX4_copyFrom 22 = .ok (.aload_n 1, 1) := dk_43 (by decide +kernel)
theorem dX4_copyFrom_23 : decode cX4_copyFrom 23 = .ok (.getfield 18, 3) := dk_180 0 18 (by decide +kernel)
theorem dX4_copyFrom_26 : decode cX4_copyFrom 26 = .ok (.aload_n 0, 1) := dk_42 (by decide +kernel)
theorem dX4_copyFrom_27 : decode cX4_copyFrom 27 = .ok (.getfield 18, 3) := dk_180 0 18 (by decide +kernel)
theorem dX4_copyFrom_30 : decode cX4_copyFrom 30 = .ok (.invokestatic 30, 3) := dk_184 0 30 (by decide +kernel)
theorem dX4_copyFrom_33 : decode cX4_copyFrom 33 = .ok (.aload_n 0, 1) := dk_42 (by decide +kernel)
theorem dX4_copyFrom_34 : decode cX4_copyFrom 34 = .ok (.aload_n 1, 1) := dk_43 (by decide +kernel)
theorem dX4_copyFrom_35 : decode cX4_copyFrom 35 = .ok (.getfield 34, 3) := dk_180 0 34 (by decide +kernel)
theorem dX4_copyFrom_38 : decode cX4_copyFrom 38 = .ok (.putfield 34, 3) := dk_181 0 34 (by decide +kernel)
theorem dX4_copyFrom_41 : decode cX4_copyFrom 41 = .ok (.aload_n 1, 1) := dk_43 (by decide +kernel)
theorem dX4_copyFrom_42 : decode cX4_copyFrom 42 = .ok (.getfield 21, 3) := dk_180 0 21 (by decide +kernel)
theorem dX4_copyFrom_45 : decode cX4_copyFrom 45 = .ok (.aload_n 0, 1) := dk_42 (by decide +kernel)
theorem dX4_copyFrom_46 : decode cX4_copyFrom 46 = .ok (.getfield 21, 3) := dk_180 0 21 (by decide +kernel)
theorem dX4_copyFrom_49 : decode cX4_copyFrom 49 = .ok (.invokestatic 30, 3) := dk_184 0 30 (by decide +kernel)
theorem dX4_copyFrom_52 : decode cX4_copyFrom 52 = .ok (.aload_n 0, 1) := dk_42 (by decide +kernel)
theorem dX4_copyFrom_53 : decode cX4_copyFrom 53 = .ok (.aload_n 1, 1) := dk_43 (by decide +kernel)
theorem dX4_copyFrom_54 : decode cX4_copyFrom 54 = .ok (.getfield 38, 3) := dk_180 0 38 (by decide +kernel)
theorem dX4_copyFrom_57 : decode cX4_copyFrom 57 = .ok (.putfield 38, 3) := dk_181 0 38 (by decide +kernel)
theorem dX4_copyFrom_60 : decode cX4_copyFrom 60 = .ok (.return_, 1) := dk_177 (by decide +kernel)
set_option maxRecDepth 8000 in
theorem e_cfb_readers {g : ch_G} {A R : Nat} (hC : ck_Cx g A R) {d : Nat} {K : Option ck_V → ck_W → Prop} {w : ck_W} (h : K none (ck_up (ck_cp (ck_up (ck_cp (ck_cp (ck_cp w 35 11 1200) 36 12 4) 37 13 4) 10 3 (w 34 3)) 38 14 144) 10 5 (w 34 5))) : ck_Ex (ch_C g A R) (d + 2) mX4_copyFrom [.inr (.inr 10), .inr (.inr 34)] w K :=
  ck_entry hC.1 [some (.inr (.inr 10)), some (.inr (.inr 34))] (by decide) (Nat.le_of_ble_eq_true rfl) rfl (fun q => q) (ck_in (fun hl => (ck_aload_n 1 rfl 1 dX4_copyFrom_0 rfl rfl (ck_getr 4 rfl dX4_copyFrom_1 fl_X4_9 sh_34 rfl (ck_aload_n 5 rfl 0 dX4_copyFrom_4 rfl rfl (ck_getr 8 rfl dX4_copyFrom_5 fl_X4_9 sh_10 rfl (ck_callSN 11 rfl [.inr (.inr 35), .inr (.inr 11)] [] dX4_copyFrom_8 cn_X4_30 rfl rfl (Nat.le_of_ble_eq_true rfl) (And.intro True.intro (And.intro True.intro True.intro)) (p_copyRow hC sh_35 sh_11 (shn_35 hC) (fun _ => (ck_aload_n 12 rfl 1 dX4_copyFrom_11 rfl rfl (ck_getr 15 rfl dX4_copyFrom_12 fl_X4_15 sh_34 rfl (ck_aload_n 16 rfl 0 dX4_copyFrom_15 rfl rfl (ck_getr 19 rfl dX4_copyFrom_16 fl_X4_15 sh_10 rfl (ck_callSN 22 rfl [.inr (.inr 36), .inr (.inr 12)] [] dX4_copyFrom_19 cn_X4_30 rfl rfl (Nat.le_of_ble_eq_true rfl) (And.intro True.intro (And.intro True.intro True.intro)) (p_copyRow hC sh_36 sh_12 (shn_36 hC) (fun _ => (ck_aload_n 23 rfl 1 dX4_copyFrom_22 rfl rfl (ck_getr 26 rfl dX4_copyFrom_23 fl_X4_18 sh_34 rfl (ck_aload_n 27 rfl 0 dX4_copyFrom_26 rfl rfl (ck_getr 30 rfl dX4_copyFrom_27 fl_X4_18 sh_10 rfl (ck_callSN 33 rfl [.inr (.inr 37), .inr (.inr 13)] [] dX4_copyFrom_30 cn_X4_30 rfl rfl (Nat.le_of_ble_eq_true rfl) (And.intro True.intro (And.intro True.intro True.intro)) (p_copyRow hC sh_37 sh_13 (shn_37 hC) (fun _ => (ck_aload_n 34 rfl 0 dX4_copyFrom_33 rfl rfl (ck_aload_n 35 rfl 1 dX4_copyFrom_34 rfl rfl (ck_geti 38 rfl 3 dX4_copyFrom_35 fl_X4_34 sh_34 rfl rfl _ rfl (fun (q1 : ck_i (w 34 3)) => (ck_puti 41 rfl 3 dX4_copyFrom_38 fp_X4_34 sh_10 rfl rfl q1 (ck_aload_n 42 rfl 1 dX4_copyFrom_41 rfl rfl (ck_getr 45 rfl dX4_copyFrom_42 fl_X4_21 sh_34 rfl (ck_aload_n 46 rfl 0 dX4_copyFrom_45 rfl rfl (ck_getr 49 rfl dX4_copyFrom_46 fl_X4_21 sh_10 rfl (ck_callSN 52 rfl [.inr (.inr 38), .inr (.inr 14)] [] dX4_copyFrom_49 cn_X4_30 rfl rfl (Nat.le_of_ble_eq_true rfl) (And.intro True.intro (And.intro True.intro True.intro)) (p_copyRow hC sh_38 sh_14 (shn_38 hC) (fun _ => (ck_aload_n 53 rfl 0 dX4_copyFrom_52 rfl rfl (ck_aload_n 54 rfl 1 dX4_copyFrom_53 rfl rfl (ck_geti 57 rfl 5 dX4_copyFrom_54 fl_X4_38 sh_34 rfl rfl _ rfl (fun (q2 : ck_i (w 34 5)) => (ck_puti 60 rfl 5 dX4_copyFrom_57 fp_X4_38 sh_10 rfl rfl q2 (ck_vret dX4_copyFrom_60 rfl h)))))))))))))))))))))))))))))))))))))))))
theorem dX2_copyFrom_0 : decode cX2_copyFrom 0 = .ok (.aload_n 1, 1) := dk_43 (by decide +kernel)
theorem dX2_copyFrom_1 : decode cX2_copyFrom 1 = .ok (.getfield 9, 3) := dk_180 0 9 (by decide +kernel)
theorem dX2_copyFrom_4 : decode cX2_copyFrom 4 = .ok (.aload_n 0, 1) := dk_42 (by decide +kernel)
theorem dX2_copyFrom_5 : decode cX2_copyFrom 5 = .ok (.getfield 9, 3) := dk_180 0 9 (by decide +kernel)
theorem dX2_copyFrom_8 : decode cX2_copyFrom 8 = .ok (.invokestatic 31, 3) := dk_184 0 31 (by decide +kernel)
theorem dX2_copyFrom_11 : decode cX2_copyFrom 11 = .ok (.aload_n 1, 1) := dk_43 (by decide +kernel)
theorem dX2_copyFrom_12 : decode cX2_copyFrom 12 = .ok (.getfield 15, 3) := dk_180 0 15 (by decide +kernel)
theorem dX2_copyFrom_15 : decode cX2_copyFrom 15 = .ok (.aload_n 0, 1) := dk_42 (by decide +kernel)
theorem dX2_copyFrom_16 : decode cX2_copyFrom 16 = .ok (.getfield 15, 3) := dk_180 0 15 (by decide +kernel)
theorem dX2_copyFrom_19 : decode cX2_copyFrom 19 = .ok (.invokestatic 31, 3) := dk_184 0 31 (by decide +kernel)
theorem dX2_copyFrom_22 : decode cX2_copyFrom 22 = .ok (.aload_n 0, 1) := dk_42 (by decide +kernel)
theorem dX2_copyFrom_23 : decode cX2_copyFrom 23 = .ok (.aload_n 1, 1) := dk_43 (by decide +kernel)
theorem dX2_copyFrom_24 : decode cX2_copyFrom 24 = .ok (.getfield 35, 3) := dk_180 0 35 (by decide +kernel)
theorem dX2_copyFrom_27 : decode cX2_copyFrom 27 = .ok (.putfield 35, 3) := dk_181 0 35 (by decide +kernel)
theorem dX2_copyFrom_30 : decode cX2_copyFrom 30 = .ok (.aload_n 1, 1) := dk_43 (by decide +kernel)
theorem dX2_copyFrom_31 : decode cX2_copyFrom 31 = .ok (.getfield 18, 3) := dk_180 0 18 (by decide +kernel)
theorem dX2_copyFrom_34 : decode cX2_copyFrom 34 = .ok (.aload_n 0, 1) := dk_42 (by decide +kernel)
theorem dX2_copyFrom_35 : decode cX2_copyFrom 35 = .ok (.getfield 18, 3) := dk_180 0 18 (by decide +kernel)
theorem dX2_copyFrom_38 : decode cX2_copyFrom 38 = .ok (.invokestatic 31, 3) := dk_184 0 31 (by decide +kernel)
theorem dX2_copyFrom_41 : decode cX2_copyFrom 41 = .ok (.aload_n 1, 1) := dk_43 (by decide +kernel)
theorem dX2_copyFrom_42 : decode cX2_copyFrom 42 = .ok (.getfield 21, 3) := dk_180 0 21 (by decide +kernel)
theorem dX2_copyFrom_45 : decode cX2_copyFrom 45 = .ok (.aload_n 0, 1) := dk_42 (by decide +kernel)
theorem dX2_copyFrom_46 : decode cX2_copyFrom 46 = .ok (.getfield 21, 3) := dk_180 0 21 (by decide +kernel)
theorem dX2_copyFrom_49 : decode cX2_copyFrom 49 = .ok (.invokestatic 31, 3) := dk_184 0 31 (by decide +kernel)
theorem dX2_copyFrom_52 : decode cX2_copyFrom 52 = .ok (.aload_n 0, 1) := dk_42 (by decide +kernel)
theorem dX2_copyFrom_53 : decode cX2_copyFrom 53 = .ok (.aload_n 1, 1) := dk_43 (by decide +kernel)
theorem dX2_copyFrom_54 : decode cX2_copyFrom 54 = .ok (.getfield 38, 3) := dk_180 0 38 (by decide +kernel)
theorem dX2_copyFrom_57 : decode cX2_copyFrom 57 = .ok (.putfield 38, 3) := dk_181 0 38 (by decide +kernel)
theorem dX2_copyFrom_60 : decode cX2_copyFrom 60 = .ok (.aload_n 0, 1) := dk_42 (by decide +kernel)
theorem dX2_copyFrom_61 : decode cX2_copyFrom 61 = .ok (.aload_n 1, 1) := dk_43 (by decide +kernel)
theorem dX2_copyFrom_62 : decode cX2_copyFrom 62 = .ok (.getfield 24, 3) := dk_180 0 24 (by decide +kernel)
theorem dX2_copyFrom_65 : decode cX2_copyFrom 65 = .ok (.putfield 24, 3) := dk_181 0 24 (by decide +kernel)
theorem dX2_copyFrom_68 : decode cX2_copyFrom 68 = .ok (.aload_n 0, 1) := dk_42 (by decide +kernel)
theorem dX2_copyFrom_69 : decode cX2_copyFrom 69 = .ok (.aload_n 1, 1) := dk_43 (by decide +kernel)
theorem dX2_copyFrom_70 : decode cX2_copyFrom 70 = .ok (.getfield 28, 3) := dk_180 0 28 (by decide +kernel)
theorem dX2_copyFrom_73 : decode cX2_copyFrom 73 = .ok (.putfield 28, 3) := dk_181 0 28 (by decide +kernel)
theorem dX2_copyFrom_76 : decode cX2_copyFrom 76 = .ok (.return_, 1) := dk_177 (by decide +kernel)
set_option maxRecDepth 8000 in
theorem e_cfb_lexicon {g : ch_G} {A R : Nat} (hC : ck_Cx g A R) {d : Nat} {K : Option ck_V → ck_W → Prop} {w : ck_W} (h : K none (ck_up (ck_up (ck_up (ck_cp (ck_cp (ck_up (ck_cp (ck_cp w 40 16 12) 41 17 12) 15 2 (w 39 2)) 42 18 36) 43 19 12) 15 5 (w 39 5)) 15 6 (w 39 6)) 15 7 (w 39 7))) : ck_Ex (ch_C g A R) (d + 2) mX2_copyFrom [.inr (.inr 15), .inr (.inr 39)] w K :=
  ck_entry hC.1 [some (.inr (.inr 15)), some (.inr (.inr 39))] (by decide) (Nat.le_of_ble_eq_true rfl) rfl (fun q => q) (ck_in (fun hl => (ck_aload_n 1 rfl 1 dX2_copyFrom_0 rfl rfl (ck_getr 4 rfl dX2_copyFrom_1 fl_X2_9 sh_39 rfl (ck_aload_n 5 rfl 0 dX2_copyFrom_4 rfl rfl (ck_getr 8 rfl dX2_copyFrom_5 fl_X2_9 sh_15 rfl (ck_callSN 11 rfl [.inr (.inr 40), .inr (.inr 16)] [] dX2_copyFrom_8 cn_X2_31 rfl rfl (Nat.le_of_ble_eq_true rfl) (And.intro True.intro (And.intro True.intro True.intro)) (p_copyRow hC sh_40 sh_16 (shn_40 hC) (fun _ => (ck_aload_n 12 rfl 1 dX2_copyFrom_11 rfl rfl (ck_getr 15 rfl dX2_copyFrom_12 fl_X2_15 sh_39 rfl (ck_aload_n 16 rfl 0 dX2_copyFrom_15 rfl rfl (ck_getr 19 rfl dX2_copyFrom_16 fl_X2_15 sh_15 rfl (ck_callSN 22 rfl [.inr (.inr 41), .inr (.inr 17)] [] dX2_copyFrom_19 cn_X2_31 rfl rfl (Nat.le_of_ble_eq_true rfl) (And.intro True.intro (And.intro True.intro True.intro)) (p_copyRow hC sh_41 sh_17 (shn_41 hC) (fun _ => (ck_aload_n 23 rfl 0 dX2_copyFrom_22 rfl rfl (ck_aload_n 24 rfl 1 dX2_copyFrom_23 rfl rfl (ck_geti 27 rfl 2 dX2_copyFrom_24 fl_X2_35 sh_39 rfl rfl _ rfl (fun (q1 : ck_i (w 39 2)) => (ck_puti 30 rfl 2 dX2_copyFrom_27 fp_X2_35 sh_15 rfl rfl q1 (ck_aload_n 31 rfl 1 dX2_copyFrom_30 rfl rfl (ck_getr 34 rfl dX2_copyFrom_31 fl_X2_18 sh_39 rfl (ck_aload_n 35 rfl 0 dX2_copyFrom_34 rfl rfl (ck_getr 38 rfl dX2_copyFrom_35 fl_X2_18 sh_15 rfl (ck_callSN 41 rfl [.inr (.inr 42), .inr (.inr 18)] [] dX2_copyFrom_38 cn_X2_31 rfl rfl (Nat.le_of_ble_eq_true rfl) (And.intro True.intro (And.intro True.intro True.intro)) (p_copyRow hC sh_42 sh_18 (shn_42 hC) (fun _ => (ck_aload_n 42 rfl 1 dX2_copyFrom_41 rfl rfl (ck_getr 45 rfl dX2_copyFrom_42 fl_X2_21 sh_39 rfl (ck_aload_n 46 rfl 0 dX2_copyFrom_45 rfl rfl (ck_getr 49 rfl dX2_copyFrom_46 fl_X2_21 sh_15 rfl (ck_callSN 52 rfl [.inr (.inr 43), .inr (.inr 19)] [] dX2_copyFrom_49 cn_X2_31 rfl rfl (Nat.le_of_ble_eq_true rfl) (And.intro True.intro (And.intro True.intro True.intro)) (p_copyRow hC sh_43 sh_19 (shn_43 hC) (fun _ => (ck_aload_n 53 rfl 0 dX2_copyFrom_52 rfl rfl (ck_aload_n 54 rfl 1 dX2_copyFrom_53 rfl rfl (ck_geti 57 rfl 5 dX2_copyFrom_54 fl_X2_38 sh_39 rfl rfl _ rfl (fun (q2 : ck_i (w 39 5)) => (ck_puti 60 rfl 5 dX2_copyFrom_57 fp_X2_38 sh_15 rfl rfl q2 (ck_aload_n 61 rfl 0 dX2_copyFrom_60 rfl rfl (ck_aload_n 62 rfl 1 dX2_copyFrom_61 rfl rfl (ck_geti 65 rfl 6 dX2_copyFrom_62 fl_X2_24 sh_39 rfl rfl _ rfl (fun (q3 : ck_i (w 39 6)) => (ck_puti 68 rfl 6 dX2_copyFrom_65 fp_X2_24 sh_15 rfl rfl q3 (ck_aload_n 69 rfl 0 dX2_copyFrom_68 rfl rfl (ck_aload_n 70 rfl 1 dX2_copyFrom_69 rfl rfl (ck_geti 73 rfl 7 dX2_copyFrom_70 fl_X2_28 sh_39 rfl rfl _ rfl (fun (q4 : ck_i (w 39 7)) => (ck_puti 76 rfl 7 dX2_copyFrom_73 fp_X2_28 sh_15 rfl rfl q4 (ck_vret dX2_copyFrom_76 rfl h)))))))))))))))))))))))))))))))))))))))))))))))))))
theorem dX3_copyFrom_0 : decode cX3_copyFrom 0 = .ok (.aload_n 1, 1) := dk_43 (by decide +kernel)
theorem dX3_copyFrom_1 : decode cX3_copyFrom 1 = .ok (.getfield 11, 3) := dk_180 0 11 (by decide +kernel)
theorem dX3_copyFrom_4 : decode cX3_copyFrom 4 = .ok (.aload_n 0, 1) := dk_42 (by decide +kernel)
theorem dX3_copyFrom_5 : decode cX3_copyFrom 5 = .ok (.getfield 11, 3) := dk_180 0 11 (by decide +kernel)
theorem dX3_copyFrom_8 : decode cX3_copyFrom 8 = .ok (.invokestatic 30, 3) := dk_184 0 30 (by decide +kernel)
theorem dX3_copyFrom_11 : decode cX3_copyFrom 11 = .ok (.aload_n 1, 1) := dk_43 (by decide +kernel)
theorem dX3_copyFrom_12 : decode cX3_copyFrom 12 = .ok (.getfield 15, 3) := dk_180 0 15 (by decide +kernel)
theorem dX3_copyFrom_15 : decode cX3_copyFrom 15 = .ok (.aload_n 0, 1) := dk_42 (by decide +kernel)
theorem dX3_copyFrom_16 : decode cX3_copyFrom 16 = .ok (.getfield 15, 3) := dk_180 0 15 (by decide +kernel)
theorem dX3_copyFrom_19 : decode cX3_copyFrom 19 = .ok (.invokestatic 30, 3) := dk_184 0 30 (by decide +kernel)
theorem dX3_copyFrom_22 : decode cX3_copyFrom 22 = .ok (.aload_n 1, 1) := dk_43 (by decide +kernel)
theorem dX3_copyFrom_23 : decode cX3_copyFrom 23 = .ok (.getfield 18, 3) := dk_180 0 18 (by decide +kernel)
theorem dX3_copyFrom_26 : decode cX3_copyFrom 26 = .ok (.aload_n 0, 1) := dk_42 (by decide +kernel)
theorem dX3_copyFrom_27 : decode cX3_copyFrom 27 = .ok (.getfield 18, 3) := dk_180 0 18 (by decide +kernel)
theorem dX3_copyFrom_30 : decode cX3_copyFrom 30 = .ok (.invokestatic 30, 3) := dk_184 0 30 (by decide +kernel)
theorem dX3_copyFrom_33 : decode cX3_copyFrom 33 = .ok (.aload_n 0, 1) := dk_42 (by decide +kernel)
theorem dX3_copyFrom_34 : decode cX3_copyFrom 34 = .ok (.aload_n 1, 1) := dk_43 (by decide +kernel)
theorem dX3_copyFrom_35 : decode cX3_copyFrom 35 = .ok (.getfield 34, 3) := dk_180 0 34 (by decide +kernel)
theorem dX3_copyFrom_38 : decode cX3_copyFrom 38 = .ok (.putfield 34, 3) := dk_181 0 34 (by decide +kernel)
theorem dX3_copyFrom_41 : decode cX3_copyFrom 41 = .ok (.aload_n 1, 1) := dk_43 (by decide +kernel)
theorem dX3_copyFrom_42 : decode cX3_copyFrom 42 = .ok (.getfield 21, 3) := dk_180 0 21 (by decide +kernel)
theorem dX3_copyFrom_45 : decode cX3_copyFrom 45 = .ok (.aload_n 0, 1) := dk_42 (by decide +kernel)
theorem dX3_copyFrom_46 : decode cX3_copyFrom 46 = .ok (.getfield 21, 3) := dk_180 0 21 (by decide +kernel)
theorem dX3_copyFrom_49 : decode cX3_copyFrom 49 = .ok (.invokestatic 30, 3) := dk_184 0 30 (by decide +kernel)
theorem dX3_copyFrom_52 : decode cX3_copyFrom 52 = .ok (.return_, 1) := dk_177 (by decide +kernel)
set_option maxRecDepth 8000 in
theorem e_cfb_parts {g : ch_G} {A R : Nat} (hC : ck_Cx g A R) {d : Nat} {K : Option ck_V → ck_W → Prop} {w : ck_W} (h : K none (ck_cp (ck_up (ck_cp (ck_cp (ck_cp w 45 21 16) 46 22 16) 47 23 16) 20 3 (w 44 3)) 48 24 4)) : ck_Ex (ch_C g A R) (d + 2) mX3_copyFrom [.inr (.inr 20), .inr (.inr 44)] w K :=
  ck_entry hC.1 [some (.inr (.inr 20)), some (.inr (.inr 44))] (by decide) (Nat.le_of_ble_eq_true rfl) rfl (fun q => q) (ck_in (fun hl => (ck_aload_n 1 rfl 1 dX3_copyFrom_0 rfl rfl (ck_getr 4 rfl dX3_copyFrom_1 fl_X3_11 sh_44 rfl (ck_aload_n 5 rfl 0 dX3_copyFrom_4 rfl rfl (ck_getr 8 rfl dX3_copyFrom_5 fl_X3_11 sh_20 rfl (ck_callSN 11 rfl [.inr (.inr 45), .inr (.inr 21)] [] dX3_copyFrom_8 cn_X3_30 rfl rfl (Nat.le_of_ble_eq_true rfl) (And.intro True.intro (And.intro True.intro True.intro)) (p_copyRow hC sh_45 sh_21 (shn_45 hC) (fun _ => (ck_aload_n 12 rfl 1 dX3_copyFrom_11 rfl rfl (ck_getr 15 rfl dX3_copyFrom_12 fl_X3_15 sh_44 rfl (ck_aload_n 16 rfl 0 dX3_copyFrom_15 rfl rfl (ck_getr 19 rfl dX3_copyFrom_16 fl_X3_15 sh_20 rfl (ck_callSN 22 rfl [.inr (.inr 46), .inr (.inr 22)] [] dX3_copyFrom_19 cn_X3_30 rfl rfl (Nat.le_of_ble_eq_true rfl) (And.intro True.intro (And.intro True.intro True.intro)) (p_copyRow hC sh_46 sh_22 (shn_46 hC) (fun _ => (ck_aload_n 23 rfl 1 dX3_copyFrom_22 rfl rfl (ck_getr 26 rfl dX3_copyFrom_23 fl_X3_18 sh_44 rfl (ck_aload_n 27 rfl 0 dX3_copyFrom_26 rfl rfl (ck_getr 30 rfl dX3_copyFrom_27 fl_X3_18 sh_20 rfl (ck_callSN 33 rfl [.inr (.inr 47), .inr (.inr 23)] [] dX3_copyFrom_30 cn_X3_30 rfl rfl (Nat.le_of_ble_eq_true rfl) (And.intro True.intro (And.intro True.intro True.intro)) (p_copyRow hC sh_47 sh_23 (shn_47 hC) (fun _ => (ck_aload_n 34 rfl 0 dX3_copyFrom_33 rfl rfl (ck_aload_n 35 rfl 1 dX3_copyFrom_34 rfl rfl (ck_geti 38 rfl 3 dX3_copyFrom_35 fl_X3_34 sh_44 rfl rfl _ rfl (fun (q1 : ck_i (w 44 3)) => (ck_puti 41 rfl 3 dX3_copyFrom_38 fp_X3_34 sh_20 rfl rfl q1 (ck_aload_n 42 rfl 1 dX3_copyFrom_41 rfl rfl (ck_getr 45 rfl dX3_copyFrom_42 fl_X3_21 sh_44 rfl (ck_aload_n 46 rfl 0 dX3_copyFrom_45 rfl rfl (ck_getr 49 rfl dX3_copyFrom_46 fl_X3_21 sh_20 rfl (ck_callSN 52 rfl [.inr (.inr 48), .inr (.inr 24)] [] dX3_copyFrom_49 cn_X3_30 rfl rfl (Nat.le_of_ble_eq_true rfl) (And.intro True.intro (And.intro True.intro True.intro)) (p_copyRow hC sh_48 sh_24 (shn_48 hC) (fun _ => (ck_vret dX3_copyFrom_52 rfl h))))))))))))))))))))))))))))))))))))
theorem dX8_copyFrom_0 : decode cX8_copyFrom 0 = .ok (.aload_n 0, 1) := dk_42 (by decide +kernel)
theorem dX8_copyFrom_1 : decode cX8_copyFrom 1 = .ok (.getfield 42, 3) := dk_180 0 42 (by decide +kernel)
theorem dX8_copyFrom_4 : decode cX8_copyFrom 4 = .ok (.aload_n 1, 1) := dk_43 (by decide +kernel)
theorem dX8_copyFrom_5 : decode cX8_copyFrom 5 = .ok (.getfield 42, 3) := dk_180 0 42 (by decide +kernel)
theorem dX8_copyFrom_8 : decode cX8_copyFrom 8 = .ok (.invokevirtual 46, 3) := dk_182 0 46 (by decide +kernel)
theorem dX8_copyFrom_11 : decode cX8_copyFrom 11 = .ok (.aload_n 0, 1) := dk_42 (by decide +kernel)
theorem dX8_copyFrom_12 : decode cX8_copyFrom 12 = .ok (.getfield 10, 3) := dk_180 0 10 (by decide +kernel)
theorem dX8_copyFrom_15 : decode cX8_copyFrom 15 = .ok (.aload_n 1, 1) := dk_43 (by decide +kernel)
theorem dX8_copyFrom_16 : decode cX8_copyFrom 16 = .ok (.getfield 10, 3) := dk_180 0 10 (by decide +kernel)
theorem dX8_copyFrom_19 : decode cX8_copyFrom 19 = .ok (.invokevirtual 50, 3) := dk_182 0 50 (by decide +kernel)
theorem dX8_copyFrom_22 : decode cX8_copyFrom 22 = .ok (.aload_n 0, 1) := dk_42 (by decide +kernel)
theorem dX8_copyFrom_23 : decode cX8_copyFrom 23 = .ok (.getfield 19, 3) := dk_180 0 19 (by decide +kernel)
theorem dX8_copyFrom_26 : decode cX8_copyFrom 26 = .ok (.aload_n 1, 1) := dk_43 (by decide +kernel)
theorem dX8_copyFrom_27 : decode cX8_copyFrom 27 = .ok (.getfield 19, 3) := dk_180 0 19 (by decide +kernel)
theorem dX8_copyFrom_30 : decode cX8_copyFrom 30 = .ok (.invokevirtual 53, 3) := dk_182 0 53 (by decide +kernel)
theorem dX8_copyFrom_33 : decode cX8_copyFrom 33 = .ok (.aload_n 0, 1) := dk_42 (by decide +kernel)
theorem dX8_copyFrom_34 : decode cX8_copyFrom 34 = .ok (.getfield 26, 3) := dk_180 0 26 (by decide +kernel)
theorem dX8_copyFrom_37 : decode cX8_copyFrom 37 = .ok (.aload_n 1, 1) := dk_43 (by decide +kernel)
theorem dX8_copyFrom_38 : decode cX8_copyFrom 38 = .ok (.getfield 26, 3) := dk_180 0 26 (by decide +kernel)
theorem dX8_copyFrom_41 : decode cX8_copyFrom 41 = .ok (.invokevirtual 56, 3) := dk_182 0 56 (by decide +kernel)
theorem dX8_copyFrom_44 : decode cX8_copyFrom 44 = .ok (.aload_n 0, 1) := dk_42 (by decide +kernel)
theorem dX8_copyFrom_45 : decode cX8_copyFrom 45 = .ok (.getfield 33, 3) := dk_180 0 33 (by decide +kernel)
theorem dX8_copyFrom_48 : decode cX8_copyFrom 48 = .ok (.aload_n 1, 1) := dk_43 (by decide +kernel)
theorem dX8_copyFrom_49 : decode cX8_copyFrom 49 = .ok (.getfield 33, 3) := dk_180 0 33 (by decide +kernel)
theorem dX8_copyFrom_52 : decode cX8_copyFrom 52 = .ok (.invokevirtual 59, 3) := dk_182 0 59 (by decide +kernel)
theorem dX8_copyFrom_55 : decode cX8_copyFrom 55 = .ok (.return_, 1) := dk_177 (by decide +kernel)
set_option maxRecDepth 8000 in
theorem e_cfb {g : ch_G} {A R : Nat} (hC : ck_Cx g A R) {d : Nat} {K : Option ck_V → ck_W → Prop} {w : ck_W} (h : ck_CN (ch_C g A R) d mX5_copyFrom [.inr (.inr 3), .inr (.inr 27)] w (fun w1 => ck_CN (ch_C g A R) d mX9_copyFrom [.inr (.inr 8), .inr (.inr 32)] w1 (fun w2 => ck_CN (ch_C g A R) d mX4_copyFrom [.inr (.inr 10), .inr (.inr 34)] w2 (fun w3 => ck_CN (ch_C g A R) d mX2_copyFrom [.inr (.inr 15), .inr (.inr 39)] w3 (fun w4 => ck_CN (ch_C g A R) d mX3_copyFrom [.inr (.inr 20), .inr (.inr 44)] w4 (fun w5 => K none w5)))))) : ck_Ex (ch_C g A R) (d + 1) mX8_copyFrom [.inr (.inr 1), .inr (.inr 2)] w K :=
  ck_entry hC.1 [some (.inr (.inr 1)), some (.inr (.inr 2))] (by decide) (Nat.le_of_ble_eq_true rfl) rfl (fun q => q) (ck_in (fun hl => (ck_aload_n 1 rfl 0 dX8_copyFrom_0 rfl rfl (ck_getr 4 rfl dX8_copyFrom_1 fl_X8_42 sh_1 rfl (ck_aload_n 5 rfl 1 dX8_copyFrom_4 rfl rfl (ck_getr 8 rfl dX8_copyFrom_5 fl_X8_42 sh_2 rfl (ck_callV 11 rfl [.inr (.inr 27)] [] dX8_copyFrom_8 cv_X8_46 sh_3 rfl rfl (Nat.le_of_ble_eq_true rfl) (And.intro True.intro True.intro) (ck_mN h (fun w1 h10 => (ck_aload_n 12 rfl 0 dX8_copyFrom_11 rfl rfl (ck_getr 15 rfl dX8_copyFrom_12 fl_X8_10 sh_1 rfl (ck_aload_n 16 rfl 1 dX8_copyFrom_15 rfl rfl (ck_getr 19 rfl dX8_copyFrom_16 fl_X8_10 sh_2 rfl (ck_callV 22 rfl [.inr (.inr 32)] [] dX8_copyFrom_19 cv_X8_50 sh_8 rfl rfl (Nat.le_of_ble_eq_true rfl) (And.intro True.intro True.intro) (ck_mN h10 (fun w2 h9 => (ck_aload_n 23 rfl 0 dX8_copyFrom_22 rfl rfl (ck_getr 26 rfl dX8_copyFrom_23 fl_X8_19 sh_1 rfl (ck_aload_n 27 rfl 1 dX8_copyFrom_26 rfl rfl (ck_getr 30 rfl dX8_copyFrom_27 fl_X8_19 sh_2 rfl (ck_callV 33 rfl [.inr (.inr 34)] [] dX8_copyFrom_30 cv_X8_53 sh_10 rfl rfl (Nat.le_of_ble_eq_true rfl) (And.intro True.intro True.intro) (ck_mN h9 (fun w3 h8 => (ck_aload_n 34 rfl 0 dX8_copyFrom_33 rfl rfl (ck_getr 37 rfl dX8_copyFrom_34 fl_X8_26 sh_1 rfl (ck_aload_n 38 rfl 1 dX8_copyFrom_37 rfl rfl (ck_getr 41 rfl dX8_copyFrom_38 fl_X8_26 sh_2 rfl (ck_callV 44 rfl [.inr (.inr 39)] [] dX8_copyFrom_41 cv_X8_56 sh_15 rfl rfl (Nat.le_of_ble_eq_true rfl) (And.intro True.intro True.intro) (ck_mN h8 (fun w4 h7 => (ck_aload_n 45 rfl 0 dX8_copyFrom_44 rfl rfl (ck_getr 48 rfl dX8_copyFrom_45 fl_X8_33 sh_1 rfl (ck_aload_n 49 rfl 1 dX8_copyFrom_48 rfl rfl (ck_getr 52 rfl dX8_copyFrom_49 fl_X8_33 sh_2 rfl (ck_callV 55 rfl [.inr (.inr 44)] [] dX8_copyFrom_52 cv_X8_59 sh_20 rfl rfl (Nat.le_of_ble_eq_true rfl) (And.intro True.intro True.intro) (ck_mN h7 (fun w5 h6 => (ck_vret dX8_copyFrom_55 rfl h6))))))))))))))))))))))))))))))))))))))
set_option maxRecDepth 8000 in
theorem e_cfi_scan {g : ch_G} {A R : Nat} (hC : ck_Cx g A R) {d : Nat} {K : Option ck_V → ck_W → Prop} {w : ck_W} (h : K none (ck_up (ck_cp (ck_cp (ck_cp (ck_cp w 4 28 (6 * A * R)) 5 29 (6 * A * R)) 6 30 6) 7 31 144) 27 6 (w 3 6))) : ck_Ex (ch_C g A R) (d + 2) mX5_copyFrom [.inr (.inr 27), .inr (.inr 3)] w K :=
  ck_entry hC.1 [some (.inr (.inr 27)), some (.inr (.inr 3))] (by decide) (Nat.le_of_ble_eq_true rfl) rfl (fun q => q) (ck_in (fun hl => (ck_aload_n 1 rfl 1 dX5_copyFrom_0 rfl rfl (ck_getr 4 rfl dX5_copyFrom_1 fl_X5_34 sh_3 rfl (ck_aload_n 5 rfl 0 dX5_copyFrom_4 rfl rfl (ck_getr 8 rfl dX5_copyFrom_5 fl_X5_34 sh_27 rfl (ck_callSN 11 rfl [.inr (.inr 4), .inr (.inr 28)] [] dX5_copyFrom_8 cn_X5_46 rfl rfl (Nat.le_of_ble_eq_true rfl) (And.intro True.intro (And.intro True.intro True.intro)) (p_copyRow hC sh_4 sh_28 (shn_4 hC) (fun _ => (ck_aload_n 12 rfl 1 dX5_copyFrom_11 rfl rfl (ck_getr 15 rfl dX5_copyFrom_12 fl_X5_37 sh_3 rfl (ck_aload_n 16 rfl 0 dX5_copyFrom_15 rfl rfl (ck_getr 19 rfl dX5_copyFrom_16 fl_X5_37 sh_27 rfl (ck_callSN 22 rfl [.inr (.inr 5), .inr (.inr 29)] [] dX5_copyFrom_19 cn_X5_46 rfl rfl (Nat.le_of_ble_eq_true rfl) (And.intro True.intro (And.intro True.intro True.intro)) (p_copyRow hC sh_5 sh_29 (shn_5 hC) (fun _ => (ck_aload_n 23 rfl 1 dX5_copyFrom_22 rfl rfl (ck_getr 26 rfl dX5_copyFrom_23 fl_X5_9 sh_3 rfl (ck_aload_n 27 rfl 0 dX5_copyFrom_26 rfl rfl (ck_getr 30 rfl dX5_copyFrom_27 fl_X5_9 sh_27 rfl (ck_callSN 33 rfl [.inr (.inr 6), .inr (.inr 30)] [] dX5_copyFrom_30 cn_X5_46 rfl rfl (Nat.le_of_ble_eq_true rfl) (And.intro True.intro (And.intro True.intro True.intro)) (p_copyRow hC sh_6 sh_30 (shn_6 hC) (fun _ => (ck_aload_n 34 rfl 1 dX5_copyFrom_33 rfl rfl (ck_getr 37 rfl dX5_copyFrom_34 fl_X5_15 sh_3 rfl (ck_aload_n 38 rfl 0 dX5_copyFrom_37 rfl rfl (ck_getr 41 rfl dX5_copyFrom_38 fl_X5_15 sh_27 rfl (ck_callSN 44 rfl [.inr (.inr 7), .inr (.inr 31)] [] dX5_copyFrom_41 cn_X5_46 rfl rfl (Nat.le_of_ble_eq_true rfl) (And.intro True.intro (And.intro True.intro True.intro)) (p_copyRow hC sh_7 sh_31 (shn_7 hC) (fun _ => (ck_aload_n 45 rfl 0 dX5_copyFrom_44 rfl rfl (ck_aload_n 46 rfl 1 dX5_copyFrom_45 rfl rfl (ck_geti 49 rfl 6 dX5_copyFrom_46 fl_X5_50 sh_3 rfl rfl _ rfl (fun (q1 : ck_i (w 3 6)) => (ck_puti 52 rfl 6 dX5_copyFrom_49 fp_X5_50 sh_27 rfl rfl q1 (ck_vret dX5_copyFrom_52 rfl h))))))))))))))))))))))))))))))))))))
set_option maxRecDepth 8000 in
theorem e_cfi_walk {g : ch_G} {A R : Nat} (hC : ck_Cx g A R) {d : Nat} {K : Option ck_V → ck_W → Prop} {w : ck_W} (h : K none (ck_up (ck_up (ck_cp w 9 33 30) 32 1 (w 8 1)) 32 2 (w 8 2))) : ck_Ex (ch_C g A R) (d + 2) mX9_copyFrom [.inr (.inr 32), .inr (.inr 8)] w K :=
  ck_entry hC.1 [some (.inr (.inr 32)), some (.inr (.inr 8))] (by decide) (Nat.le_of_ble_eq_true rfl) rfl (fun q => q) (ck_in (fun hl => (ck_aload_n 1 rfl 1 dX9_copyFrom_0 rfl rfl (ck_getr 4 rfl dX9_copyFrom_1 fl_X9_9 sh_8 rfl (ck_aload_n 5 rfl 0 dX9_copyFrom_4 rfl rfl (ck_getr 8 rfl dX9_copyFrom_5 fl_X9_9 sh_32 rfl (ck_callSN 11 rfl [.inr (.inr 9), .inr (.inr 33)] [] dX9_copyFrom_8 cn_X9_19 rfl rfl (Nat.le_of_ble_eq_true rfl) (And.intro True.intro (And.intro True.intro True.intro)) (p_copyRow hC sh_9 sh_33 (shn_9 hC) (fun _ => (ck_aload_n 12 rfl 0 dX9_copyFrom_11 rfl rfl (ck_aload_n 13 rfl 1 dX9_copyFrom_12 rfl rfl (ck_geti 16 rfl 1 dX9_copyFrom_13 fl_X9_23 sh_8 rfl rfl _ rfl (fun (q1 : ck_i (w 8 1)) => (ck_puti 19 rfl 1 dX9_copyFrom_16 fp_X9_23 sh_32 rfl rfl q1 (ck_aload_n 20 rfl 0 dX9_copyFrom_19 rfl rfl (ck_aload_n 21 rfl 1 dX9_copyFrom_20 rfl rfl (ck_geti 24 rfl 2 dX9_copyFrom_21 fl_X9_15 sh_8 rfl rfl _ rfl (fun (q2 : ck_i (w 8 2)) => (ck_puti 27 rfl 2 dX9_copyFrom_24 fp_X9_15 sh_32 rfl rfl q2 (ck_vret dX9_copyFrom_27 rfl h))))))))))))))))))))
set_option maxRecDepth 8000 in
theorem e_cfi_readers {g : ch_G} {A R : Nat} (hC : ck_Cx g A R) {d : Nat} {K : Option ck_V → ck_W → Prop} {w : ck_W} (h : K none (ck_up (ck_cp (ck_up (ck_cp (ck_cp (ck_cp w 11 35 1200) 12 36 4) 13 37 4) 34 3 (w 10 3)) 14 38 144) 34 5 (w 10 5))) : ck_Ex (ch_C g A R) (d + 2) mX4_copyFrom [.inr (.inr 34), .inr (.inr 10)] w K :=
  ck_entry hC.1 [some (.inr (.inr 34)), some (.inr (.inr 10))] (by decide) (Nat.le_of_ble_eq_true rfl) rfl (fun q => q) (ck_in (fun hl => (ck_aload_n 1 rfl 1 dX4_copyFrom_0 rfl rfl (ck_getr 4 rfl dX4_copyFrom_1 fl_X4_9 sh_10 rfl (ck_aload_n 5 rfl 0 dX4_copyFrom_4 rfl rfl (ck_getr 8 rfl dX4_copyFrom_5 fl_X4_9 sh_34 rfl (ck_callSN 11 rfl [.inr (.inr 11), .inr (.inr 35)] [] dX4_copyFrom_8 cn_X4_30 rfl rfl (Nat.le_of_ble_eq_true rfl) (And.intro True.intro (And.intro True.intro True.intro)) (p_copyRow hC sh_11 sh_35 (shn_11 hC) (fun _ => (ck_aload_n 12 rfl 1 dX4_copyFrom_11 rfl rfl (ck_getr 15 rfl dX4_copyFrom_12 fl_X4_15 sh_10 rfl (ck_aload_n 16 rfl 0 dX4_copyFrom_15 rfl rfl (ck_getr 19 rfl dX4_copyFrom_16 fl_X4_15 sh_34 rfl (ck_callSN 22 rfl [.inr (.inr 12), .inr (.inr 36)] [] dX4_copyFrom_19 cn_X4_30 rfl rfl (Nat.le_of_ble_eq_true rfl) (And.intro True.intro (And.intro True.intro True.intro)) (p_copyRow hC sh_12 sh_36 (shn_12 hC) (fun _ => (ck_aload_n 23 rfl 1 dX4_copyFrom_22 rfl rfl (ck_getr 26 rfl dX4_copyFrom_23 fl_X4_18 sh_10 rfl (ck_aload_n 27 rfl 0 dX4_copyFrom_26 rfl rfl (ck_getr 30 rfl dX4_copyFrom_27 fl_X4_18 sh_34 rfl (ck_callSN 33 rfl [.inr (.inr 13), .inr (.inr 37)] [] dX4_copyFrom_30 cn_X4_30 rfl rfl (Nat.le_of_ble_eq_true rfl) (And.intro True.intro (And.intro True.intro True.intro)) (p_copyRow hC sh_13 sh_37 (shn_13 hC) (fun _ => (ck_aload_n 34 rfl 0 dX4_copyFrom_33 rfl rfl (ck_aload_n 35 rfl 1 dX4_copyFrom_34 rfl rfl (ck_geti 38 rfl 3 dX4_copyFrom_35 fl_X4_34 sh_10 rfl rfl _ rfl (fun (q1 : ck_i (w 10 3)) => (ck_puti 41 rfl 3 dX4_copyFrom_38 fp_X4_34 sh_34 rfl rfl q1 (ck_aload_n 42 rfl 1 dX4_copyFrom_41 rfl rfl (ck_getr 45 rfl dX4_copyFrom_42 fl_X4_21 sh_10 rfl (ck_aload_n 46 rfl 0 dX4_copyFrom_45 rfl rfl (ck_getr 49 rfl dX4_copyFrom_46 fl_X4_21 sh_34 rfl (ck_callSN 52 rfl [.inr (.inr 14), .inr (.inr 38)] [] dX4_copyFrom_49 cn_X4_30 rfl rfl (Nat.le_of_ble_eq_true rfl) (And.intro True.intro (And.intro True.intro True.intro)) (p_copyRow hC sh_14 sh_38 (shn_14 hC) (fun _ => (ck_aload_n 53 rfl 0 dX4_copyFrom_52 rfl rfl (ck_aload_n 54 rfl 1 dX4_copyFrom_53 rfl rfl (ck_geti 57 rfl 5 dX4_copyFrom_54 fl_X4_38 sh_10 rfl rfl _ rfl (fun (q2 : ck_i (w 10 5)) => (ck_puti 60 rfl 5 dX4_copyFrom_57 fp_X4_38 sh_34 rfl rfl q2 (ck_vret dX4_copyFrom_60 rfl h)))))))))))))))))))))))))))))))))))))))))
set_option maxRecDepth 8000 in
theorem e_cfi_lexicon {g : ch_G} {A R : Nat} (hC : ck_Cx g A R) {d : Nat} {K : Option ck_V → ck_W → Prop} {w : ck_W} (h : K none (ck_up (ck_up (ck_up (ck_cp (ck_cp (ck_up (ck_cp (ck_cp w 16 40 12) 17 41 12) 39 2 (w 15 2)) 18 42 36) 19 43 12) 39 5 (w 15 5)) 39 6 (w 15 6)) 39 7 (w 15 7))) : ck_Ex (ch_C g A R) (d + 2) mX2_copyFrom [.inr (.inr 39), .inr (.inr 15)] w K :=
  ck_entry hC.1 [some (.inr (.inr 39)), some (.inr (.inr 15))] (by decide) (Nat.le_of_ble_eq_true rfl) rfl (fun q => q) (ck_in (fun hl => (ck_aload_n 1 rfl 1 dX2_copyFrom_0 rfl rfl (ck_getr 4 rfl dX2_copyFrom_1 fl_X2_9 sh_15 rfl (ck_aload_n 5 rfl 0 dX2_copyFrom_4 rfl rfl (ck_getr 8 rfl dX2_copyFrom_5 fl_X2_9 sh_39 rfl (ck_callSN 11 rfl [.inr (.inr 16), .inr (.inr 40)] [] dX2_copyFrom_8 cn_X2_31 rfl rfl (Nat.le_of_ble_eq_true rfl) (And.intro True.intro (And.intro True.intro True.intro)) (p_copyRow hC sh_16 sh_40 (shn_16 hC) (fun _ => (ck_aload_n 12 rfl 1 dX2_copyFrom_11 rfl rfl (ck_getr 15 rfl dX2_copyFrom_12 fl_X2_15 sh_15 rfl (ck_aload_n 16 rfl 0 dX2_copyFrom_15 rfl rfl (ck_getr 19 rfl dX2_copyFrom_16 fl_X2_15 sh_39 rfl (ck_callSN 22 rfl [.inr (.inr 17), .inr (.inr 41)] [] dX2_copyFrom_19 cn_X2_31 rfl rfl (Nat.le_of_ble_eq_true rfl) (And.intro True.intro (And.intro True.intro True.intro)) (p_copyRow hC sh_17 sh_41 (shn_17 hC) (fun _ => (ck_aload_n 23 rfl 0 dX2_copyFrom_22 rfl rfl (ck_aload_n 24 rfl 1 dX2_copyFrom_23 rfl rfl (ck_geti 27 rfl 2 dX2_copyFrom_24 fl_X2_35 sh_15 rfl rfl _ rfl (fun (q1 : ck_i (w 15 2)) => (ck_puti 30 rfl 2 dX2_copyFrom_27 fp_X2_35 sh_39 rfl rfl q1 (ck_aload_n 31 rfl 1 dX2_copyFrom_30 rfl rfl (ck_getr 34 rfl dX2_copyFrom_31 fl_X2_18 sh_15 rfl (ck_aload_n 35 rfl 0 dX2_copyFrom_34 rfl rfl (ck_getr 38 rfl dX2_copyFrom_35 fl_X2_18 sh_39 rfl (ck_callSN 41 rfl [.inr (.inr 18), .inr (.inr 42)] [] dX2_copyFrom_38 cn_X2_31 rfl rfl (Nat.le_of_ble_eq_true rfl) (And.intro True.intro (And.intro True.intro True.intro)) (p_copyRow hC sh_18 sh_42 (shn_18 hC) (fun _ => (ck_aload_n 42 rfl 1 dX2_copyFrom_41 rfl rfl (ck_getr 45 rfl dX2_copyFrom_42 fl_X2_21 sh_15 rfl (ck_aload_n 46 rfl 0 dX2_copyFrom_45 rfl rfl (ck_getr 49 rfl dX2_copyFrom_46 fl_X2_21 sh_39 rfl (ck_callSN 52 rfl [.inr (.inr 19), .inr (.inr 43)] [] dX2_copyFrom_49 cn_X2_31 rfl rfl (Nat.le_of_ble_eq_true rfl) (And.intro True.intro (And.intro True.intro True.intro)) (p_copyRow hC sh_19 sh_43 (shn_19 hC) (fun _ => (ck_aload_n 53 rfl 0 dX2_copyFrom_52 rfl rfl (ck_aload_n 54 rfl 1 dX2_copyFrom_53 rfl rfl (ck_geti 57 rfl 5 dX2_copyFrom_54 fl_X2_38 sh_15 rfl rfl _ rfl (fun (q2 : ck_i (w 15 5)) => (ck_puti 60 rfl 5 dX2_copyFrom_57 fp_X2_38 sh_39 rfl rfl q2 (ck_aload_n 61 rfl 0 dX2_copyFrom_60 rfl rfl (ck_aload_n 62 rfl 1 dX2_copyFrom_61 rfl rfl (ck_geti 65 rfl 6 dX2_copyFrom_62 fl_X2_24 sh_15 rfl rfl _ rfl (fun (q3 : ck_i (w 15 6)) => (ck_puti 68 rfl 6 dX2_copyFrom_65 fp_X2_24 sh_39 rfl rfl q3 (ck_aload_n 69 rfl 0 dX2_copyFrom_68 rfl rfl (ck_aload_n 70 rfl 1 dX2_copyFrom_69 rfl rfl (ck_geti 73 rfl 7 dX2_copyFrom_70 fl_X2_28 sh_15 rfl rfl _ rfl (fun (q4 : ck_i (w 15 7)) => (ck_puti 76 rfl 7 dX2_copyFrom_73 fp_X2_28 sh_39 rfl rfl q4 (ck_vret dX2_copyFrom_76 rfl h)))))))))))))))))))))))))))))))))))))))))))))))))))
set_option maxRecDepth 8000 in
theorem e_cfi_parts {g : ch_G} {A R : Nat} (hC : ck_Cx g A R) {d : Nat} {K : Option ck_V → ck_W → Prop} {w : ck_W} (h : K none (ck_cp (ck_up (ck_cp (ck_cp (ck_cp w 21 45 16) 22 46 16) 23 47 16) 44 3 (w 20 3)) 24 48 4)) : ck_Ex (ch_C g A R) (d + 2) mX3_copyFrom [.inr (.inr 44), .inr (.inr 20)] w K :=
  ck_entry hC.1 [some (.inr (.inr 44)), some (.inr (.inr 20))] (by decide) (Nat.le_of_ble_eq_true rfl) rfl (fun q => q) (ck_in (fun hl => (ck_aload_n 1 rfl 1 dX3_copyFrom_0 rfl rfl (ck_getr 4 rfl dX3_copyFrom_1 fl_X3_11 sh_20 rfl (ck_aload_n 5 rfl 0 dX3_copyFrom_4 rfl rfl (ck_getr 8 rfl dX3_copyFrom_5 fl_X3_11 sh_44 rfl (ck_callSN 11 rfl [.inr (.inr 21), .inr (.inr 45)] [] dX3_copyFrom_8 cn_X3_30 rfl rfl (Nat.le_of_ble_eq_true rfl) (And.intro True.intro (And.intro True.intro True.intro)) (p_copyRow hC sh_21 sh_45 (shn_21 hC) (fun _ => (ck_aload_n 12 rfl 1 dX3_copyFrom_11 rfl rfl (ck_getr 15 rfl dX3_copyFrom_12 fl_X3_15 sh_20 rfl (ck_aload_n 16 rfl 0 dX3_copyFrom_15 rfl rfl (ck_getr 19 rfl dX3_copyFrom_16 fl_X3_15 sh_44 rfl (ck_callSN 22 rfl [.inr (.inr 22), .inr (.inr 46)] [] dX3_copyFrom_19 cn_X3_30 rfl rfl (Nat.le_of_ble_eq_true rfl) (And.intro True.intro (And.intro True.intro True.intro)) (p_copyRow hC sh_22 sh_46 (shn_22 hC) (fun _ => (ck_aload_n 23 rfl 1 dX3_copyFrom_22 rfl rfl (ck_getr 26 rfl dX3_copyFrom_23 fl_X3_18 sh_20 rfl (ck_aload_n 27 rfl 0 dX3_copyFrom_26 rfl rfl (ck_getr 30 rfl dX3_copyFrom_27 fl_X3_18 sh_44 rfl (ck_callSN 33 rfl [.inr (.inr 23), .inr (.inr 47)] [] dX3_copyFrom_30 cn_X3_30 rfl rfl (Nat.le_of_ble_eq_true rfl) (And.intro True.intro (And.intro True.intro True.intro)) (p_copyRow hC sh_23 sh_47 (shn_23 hC) (fun _ => (ck_aload_n 34 rfl 0 dX3_copyFrom_33 rfl rfl (ck_aload_n 35 rfl 1 dX3_copyFrom_34 rfl rfl (ck_geti 38 rfl 3 dX3_copyFrom_35 fl_X3_34 sh_20 rfl rfl _ rfl (fun (q1 : ck_i (w 20 3)) => (ck_puti 41 rfl 3 dX3_copyFrom_38 fp_X3_34 sh_44 rfl rfl q1 (ck_aload_n 42 rfl 1 dX3_copyFrom_41 rfl rfl (ck_getr 45 rfl dX3_copyFrom_42 fl_X3_21 sh_20 rfl (ck_aload_n 46 rfl 0 dX3_copyFrom_45 rfl rfl (ck_getr 49 rfl dX3_copyFrom_46 fl_X3_21 sh_44 rfl (ck_callSN 52 rfl [.inr (.inr 24), .inr (.inr 48)] [] dX3_copyFrom_49 cn_X3_30 rfl rfl (Nat.le_of_ble_eq_true rfl) (And.intro True.intro (And.intro True.intro True.intro)) (p_copyRow hC sh_24 sh_48 (shn_24 hC) (fun _ => (ck_vret dX3_copyFrom_52 rfl h))))))))))))))))))))))))))))))))))))
set_option maxRecDepth 8000 in
theorem e_cfi {g : ch_G} {A R : Nat} (hC : ck_Cx g A R) {d : Nat} {K : Option ck_V → ck_W → Prop} {w : ck_W} (h : ck_CN (ch_C g A R) d mX5_copyFrom [.inr (.inr 27), .inr (.inr 3)] w (fun w1 => ck_CN (ch_C g A R) d mX9_copyFrom [.inr (.inr 32), .inr (.inr 8)] w1 (fun w2 => ck_CN (ch_C g A R) d mX4_copyFrom [.inr (.inr 34), .inr (.inr 10)] w2 (fun w3 => ck_CN (ch_C g A R) d mX2_copyFrom [.inr (.inr 39), .inr (.inr 15)] w3 (fun w4 => ck_CN (ch_C g A R) d mX3_copyFrom [.inr (.inr 44), .inr (.inr 20)] w4 (fun w5 => K none w5)))))) : ck_Ex (ch_C g A R) (d + 1) mX8_copyFrom [.inr (.inr 2), .inr (.inr 1)] w K :=
  ck_entry hC.1 [some (.inr (.inr 2)), some (.inr (.inr 1))] (by decide) (Nat.le_of_ble_eq_true rfl) rfl (fun q => q) (ck_in (fun hl => (ck_aload_n 1 rfl 0 dX8_copyFrom_0 rfl rfl (ck_getr 4 rfl dX8_copyFrom_1 fl_X8_42 sh_2 rfl (ck_aload_n 5 rfl 1 dX8_copyFrom_4 rfl rfl (ck_getr 8 rfl dX8_copyFrom_5 fl_X8_42 sh_1 rfl (ck_callV 11 rfl [.inr (.inr 3)] [] dX8_copyFrom_8 cv_X8_46 sh_27 rfl rfl (Nat.le_of_ble_eq_true rfl) (And.intro True.intro True.intro) (ck_mN h (fun w1 h10 => (ck_aload_n 12 rfl 0 dX8_copyFrom_11 rfl rfl (ck_getr 15 rfl dX8_copyFrom_12 fl_X8_10 sh_2 rfl (ck_aload_n 16 rfl 1 dX8_copyFrom_15 rfl rfl (ck_getr 19 rfl dX8_copyFrom_16 fl_X8_10 sh_1 rfl (ck_callV 22 rfl [.inr (.inr 8)] [] dX8_copyFrom_19 cv_X8_50 sh_32 rfl rfl (Nat.le_of_ble_eq_true rfl) (And.intro True.intro True.intro) (ck_mN h10 (fun w2 h9 => (ck_aload_n 23 rfl 0 dX8_copyFrom_22 rfl rfl (ck_getr 26 rfl dX8_copyFrom_23 fl_X8_19 sh_2 rfl (ck_aload_n 27 rfl 1 dX8_copyFrom_26 rfl rfl (ck_getr 30 rfl dX8_copyFrom_27 fl_X8_19 sh_1 rfl (ck_callV 33 rfl [.inr (.inr 10)] [] dX8_copyFrom_30 cv_X8_53 sh_34 rfl rfl (Nat.le_of_ble_eq_true rfl) (And.intro True.intro True.intro) (ck_mN h9 (fun w3 h8 => (ck_aload_n 34 rfl 0 dX8_copyFrom_33 rfl rfl (ck_getr 37 rfl dX8_copyFrom_34 fl_X8_26 sh_2 rfl (ck_aload_n 38 rfl 1 dX8_copyFrom_37 rfl rfl (ck_getr 41 rfl dX8_copyFrom_38 fl_X8_26 sh_1 rfl (ck_callV 44 rfl [.inr (.inr 15)] [] dX8_copyFrom_41 cv_X8_56 sh_39 rfl rfl (Nat.le_of_ble_eq_true rfl) (And.intro True.intro True.intro) (ck_mN h8 (fun w4 h7 => (ck_aload_n 45 rfl 0 dX8_copyFrom_44 rfl rfl (ck_getr 48 rfl dX8_copyFrom_45 fl_X8_33 sh_2 rfl (ck_aload_n 49 rfl 1 dX8_copyFrom_48 rfl rfl (ck_getr 52 rfl dX8_copyFrom_49 fl_X8_33 sh_1 rfl (ck_callV 55 rfl [.inr (.inr 20)] [] dX8_copyFrom_52 cv_X8_59 sh_44 rfl rfl (Nat.le_of_ble_eq_true rfl) (And.intro True.intro True.intro) (ck_mN h7 (fun w5 h6 => (ck_vret dX8_copyFrom_55 rfl h6))))))))))))))))))))))))))))))))))))))
theorem dX11_image_0 : decode cX11_image 0 = .ok (.aload_n 0, 1) := dk_42 (by decide +kernel)
theorem dX11_image_1 : decode cX11_image 1 = .ok (.getfield 18, 3) := dk_180 0 18 (by decide +kernel)
theorem dX11_image_4 : decode cX11_image 4 = .ok (.aload_n 0, 1) := dk_42 (by decide +kernel)
theorem dX11_image_5 : decode cX11_image 5 = .ok (.getfield 14, 3) := dk_180 0 14 (by decide +kernel)
theorem dX11_image_8 : decode cX11_image 8 = .ok (.invokevirtual 341, 3) := dk_182 1 85 (by decide +kernel)
theorem dX11_image_11 : decode cX11_image 11 = .ok (.aload_n 0, 1) := dk_42 (by decide +kernel)
theorem dX11_image_12 : decode cX11_image 12 = .ok (.getfield 14, 3) := dk_180 0 14 (by decide +kernel)
theorem dX11_image_15 : decode cX11_image 15 = .ok (.getfield 56, 3) := dk_180 0 56 (by decide +kernel)
theorem dX11_image_18 : decode cX11_image 18 = .ok (.getfield 212, 3) := dk_180 0 212 (by decide +kernel)
theorem dX11_image_21 : decode cX11_image 21 = .ok (.ireturn, 1) := dk_172 (by decide +kernel)
set_option maxRecDepth 8000 in
theorem e_X11_image {g : ch_G} {A R : Nat} (hC : ck_Cx g A R) {d : Nat} {K : Option ck_V → ck_W → Prop} {w : ck_W} (h : ck_CN (ch_C g A R) d mX8_copyFrom [.inr (.inr 2), .inr (.inr 1)] w (fun w1 => K (some (.inl (w1 10 5))) w1)) : ck_Ex (ch_C g A R) (d + 1) mX11_image [.inr (.inr 0)] w K :=
  ck_entry hC.1 [some (.inr (.inr 0))] (by decide) (Nat.le_of_ble_eq_true rfl) rfl (fun q => q) (ck_in (fun hl => (ck_aload_n 1 rfl 0 dX11_image_0 rfl rfl (ck_getr 4 rfl dX11_image_1 fl_X11_18 sh_0 rfl (ck_aload_n 5 rfl 0 dX11_image_4 rfl rfl (ck_getr 8 rfl dX11_image_5 fl_X11_14 sh_0 rfl (ck_callV 11 rfl [.inr (.inr 1)] [] dX11_image_8 cv_X11_341 sh_2 rfl rfl (Nat.le_of_ble_eq_true rfl) (And.intro True.intro True.intro) (ck_mN h (fun w1 h3 => (ck_aload_n 12 rfl 0 dX11_image_11 rfl rfl (ck_getr 15 rfl dX11_image_12 fl_X11_14 sh_0 rfl (ck_getr 18 rfl dX11_image_15 fl_X11_56 sh_1 rfl (ck_geti 21 rfl 5 dX11_image_18 fl_X11_212 sh_10 rfl rfl _ rfl (fun (q2 : ck_i (w1 10 5)) => (ck_iret dX11_image_21 rfl q2 h3)))))))))))))))
theorem dX11_back_0 : decode cX11_back 0 = .ok (.aload_n 0, 1) := dk_42 (by decide +kernel)
theorem dX11_back_1 : decode cX11_back 1 = .ok (.getfield 14, 3) := dk_180 0 14 (by decide +kernel)
theorem dX11_back_4 : decode cX11_back 4 = .ok (.aload_n 0, 1) := dk_42 (by decide +kernel)
theorem dX11_back_5 : decode cX11_back 5 = .ok (.getfield 18, 3) := dk_180 0 18 (by decide +kernel)
theorem dX11_back_8 : decode cX11_back 8 = .ok (.invokevirtual 341, 3) := dk_182 1 85 (by decide +kernel)
theorem dX11_back_11 : decode cX11_back 11 = .ok (.iconst 0, 1) := dk_3 (by decide +kernel)
theorem dX11_back_12 : decode cX11_back 12 = .ok (.istore_n 1, 1) := dk_60 (by decide +kernel)
theorem dX11_back_13 : decode cX11_back 13 = .ok (.iload_n 1, 1) := dk_27 (by decide +kernel)
theorem dX11_back_14 : decode cX11_back 14 = .ok (.bipush 6, 2) := dk_16 6 (by decide +kernel)
theorem dX11_back_16 : decode cX11_back 16 = .ok (.if_icmp .ge 17, 3) := dk_162 0 17 (by decide +kernel)
theorem dX11_back_19 : decode cX11_back 19 = .ok (.aload_n 0, 1) := dk_42 (by decide +kernel)
theorem dX11_back_20 : decode cX11_back 20 = .ok (.getfield 30, 3) := dk_180 0 30 (by decide +kernel)
theorem dX11_back_23 : decode cX11_back 23 = .ok (.iload_n 1, 1) := dk_27 (by decide +kernel)
theorem dX11_back_24 : decode cX11_back 24 = .ok (.invokevirtual 93, 3) := dk_182 0 93 (by decide +kernel)
theorem dX11_back_27 : decode cX11_back 27 = .ok (.iinc 1 1, 3) := dk_132 1 (by decide +kernel)
theorem dX11_back_30 : decode cX11_back 30 = .ok (.goto (-17), 3) := dk_167 255 239 (by decide +kernel)
theorem dX11_back_33 : decode cX11_back 33 = .ok (.aload_n 0, 1) := dk_42 (by decide +kernel)
theorem dX11_back_34 : decode cX11_back 34 = .ok (.getfield 14, 3) := dk_180 0 14 (by decide +kernel)
theorem dX11_back_37 : decode cX11_back 37 = .ok (.getfield 56, 3) := dk_180 0 56 (by decide +kernel)
theorem dX11_back_40 : decode cX11_back 40 = .ok (.getfield 212, 3) := dk_180 0 212 (by decide +kernel)
theorem dX11_back_43 : decode cX11_back 43 = .ok (.ireturn, 1) := dk_172 (by decide +kernel)
set_option maxRecDepth 8000 in
theorem e_X11_back {g : ch_G} {A R : Nat} (hC : ck_Cx g A R) {d : Nat} {K : Option ck_V → ck_W → Prop} {w : ck_W} (h : ck_CN (ch_C g A R) d mX8_copyFrom [.inr (.inr 1), .inr (.inr 2)] w (fun w1 => ck_At (ch_C g A R) (d + 1) mX11_back K 13 [some (.inr (.inr 0)), some (.inl 0)] [] w1)) : ck_Ex (ch_C g A R) (d + 1) mX11_back [.inr (.inr 0)] w K :=
  ck_entry hC.1 [some (.inr (.inr 0)), none] (by decide) (Nat.le_of_ble_eq_true rfl) rfl (fun q => q) (ck_in (fun hl => (ck_aload_n 1 rfl 0 dX11_back_0 rfl rfl (ck_getr 4 rfl dX11_back_1 fl_X11_14 sh_0 rfl (ck_aload_n 5 rfl 0 dX11_back_4 rfl rfl (ck_getr 8 rfl dX11_back_5 fl_X11_18 sh_0 rfl (ck_callV 11 rfl [.inr (.inr 2)] [] dX11_back_8 cv_X11_341 sh_1 rfl rfl (Nat.le_of_ble_eq_true rfl) (And.intro True.intro True.intro) (ck_mN h (fun w1 h2 => (ck_iconst 12 rfl dX11_back_11 rfl (ck_istore_n 13 rfl 1 [some (.inr (.inr 0)), some (.inl 0)] dX11_back_12 rfl (Nat.le_of_ble_eq_true rfl) rfl rfl (show ck_i 0 by decide) h2)))))))))))
set_option maxRecDepth 8000 in
theorem r_X11_back_13 {g : ch_G} {A R : Nat} (hC : ck_Cx g A R) {d : Nat} {K : Option ck_V → ck_W → Prop} {w : ck_W} {a1 : Int} (h : (6 ≤ a1 → K (some (.inl (w 10 5))) w) ∧ (¬ 6 ≤ a1 → ck_CN (ch_C g A R) d mX10_forget [.inr (.inr 51), .inl a1] w (fun w2 => ck_i (a1 + 1) ∧ (ck_At (ch_C g A R) (d + 1) mX11_back K 13 [some (.inr (.inr 0)), some (.inl (a1 + 1))] [] w2)))) : ck_At (ch_C g A R) (d + 1) mX11_back K 13 [some (.inr (.inr 0)), some (.inl a1)] [] w :=
  ck_in (fun hl => (ck_iload_n 14 rfl 1 dX11_back_13 rfl rfl (ck_bipush 16 rfl dX11_back_14 rfl (ck_icmp_ge 19 rfl 33 dX11_back_16 rfl hl.2.1 (show ck_i 6 by decide) (fun c5 => (ck_aload_n 34 rfl 0 dX11_back_33 rfl rfl (ck_getr 37 rfl dX11_back_34 fl_X11_14 sh_0 rfl (ck_getr 40 rfl dX11_back_37 fl_X11_56 sh_1 rfl (ck_geti 43 rfl 5 dX11_back_40 fl_X11_212 sh_10 rfl rfl _ rfl (fun (q1 : ck_i (w 10 5)) => (ck_iret dX11_back_43 rfl q1 (h.1 c5)))))))) (fun c6 => (ck_aload_n 20 rfl 0 dX11_back_19 rfl rfl (ck_getr 23 rfl dX11_back_20 fl_X11_30 sh_0 rfl (ck_iload_n 24 rfl 1 dX11_back_23 rfl rfl (ck_callV 27 rfl [.inl a1] [] dX11_back_24 cv_X11_93 sh_51 rfl rfl (Nat.le_of_ble_eq_true rfl) (And.intro hl.2.1 True.intro) (ck_mN (h.2 c6) (fun w2 h4 => (have h8 := h4; have o3 := h8.1; have h7 := h8.2; (ck_iinc 30 rfl [some (.inr (.inr 0)), some (.inl (a1 + 1))] dX11_back_27 rfl (Nat.le_of_ble_eq_true rfl) rfl rfl o3 (ck_goto 13 dX11_back_30 rfl h7))))))))))))))
/-- a row is the same in two worlds, at two places -/
def cs_er (w w' : ck_W) (a b n : Nat) : Prop := ∀ j, 0 ≤ j → j < (n : Int) → w' b j = w a j
/-- what an image keeps is the same: of w at o, of w' at p -/
def cs_eq (A R : Nat) (w w' : ck_W) (o p : Nat) : Prop := (cs_er w w' (4 + o) (4 + p) (6 * A * R) ∧ cs_er w w' (5 + o) (5 + p) (6 * A * R) ∧ cs_er w w' (6 + o) (6 + p) 6 ∧ cs_er w w' (7 + o) (7 + p) 144 ∧ cs_er w w' (9 + o) (9 + p) 30) ∧ (cs_er w w' (11 + o) (11 + p) 1200 ∧ cs_er w w' (12 + o) (12 + p) 4 ∧ cs_er w w' (13 + o) (13 + p) 4 ∧ cs_er w w' (14 + o) (14 + p) 144) ∧ (cs_er w w' (16 + o) (16 + p) 12 ∧ cs_er w w' (17 + o) (17 + p) 12 ∧ cs_er w w' (18 + o) (18 + p) 36 ∧ cs_er w w' (19 + o) (19 + p) 12) ∧ (cs_er w w' (21 + o) (21 + p) 16 ∧ cs_er w w' (22 + o) (22 + p) 16 ∧ cs_er w w' (23 + o) (23 + p) 16 ∧ cs_er w w' (24 + o) (24 + p) 4) ∧ (w' (3 + p) 6 = w (3 + o) 6 ∧ w' (8 + p) 1 = w (8 + o) 1 ∧ w' (8 + p) 2 = w (8 + o) 2 ∧ w' (10 + p) 3 = w (10 + o) 3 ∧ w' (10 + p) 5 = w (10 + o) 5 ∧ w' (15 + p) 2 = w (15 + o) 2 ∧ w' (15 + p) 5 = w (15 + o) 5 ∧ w' (15 + p) 6 = w (15 + o) 6 ∧ w' (15 + p) 7 = w (15 + o) 7 ∧ w' (20 + p) 3 = w (20 + o) 3)
theorem S_cfi {g : ch_G} {A R : Nat} (hC : ck_Cx g A R) {d : Nat} {K : Option ck_V → ck_W → Prop} {w : ck_W} (h : ∀ w', (∀ k, k < 27 ∨ 51 ≤ k → w' k = w k) → (w' 27 0 = w 27 0 ∧ w' 27 1 = w 27 1) → cs_eq A R w w' 0 24 → K none w') : ck_Ex (ch_C g A R) (d + 4) mX8_copyFrom [.inr (.inr 2), .inr (.inr 1)] w K := by
  refine e_cfi hC (e_cfi_scan hC ⟨rfl, e_cfi_walk hC ⟨rfl, e_cfi_readers hC ⟨rfl, e_cfi_lexicon hC ⟨rfl, e_cfi_parts hC ⟨rfl, h _ (fun k hk => ?_) ⟨?_, ?_⟩ ⟨⟨?_, ?_, ?_, ?_, ?_⟩, ⟨?_, ?_, ?_, ?_⟩, ⟨?_, ?_, ?_, ?_⟩, ⟨?_, ?_, ?_, ?_⟩, ?_, ?_, ?_, ?_, ?_, ?_, ?_, ?_, ?_, ?_⟩⟩⟩⟩⟩⟩)
  · have n : ∀ q : Nat, 27 ≤ q → q < 51 → k ≠ q := fun q _ _ => by omega
    simp only [ck_up_ne, ck_cp_ne, n _ (show 27 ≤ 27 by decide) (by decide), n 28 (by decide) (by decide), n 29 (by decide) (by decide), n 30 (by decide) (by decide), n 31 (by decide) (by decide), n 32 (by decide) (by decide), n 33 (by decide) (by decide), n 34 (by decide) (by decide), n 35 (by decide) (by decide), n 36 (by decide) (by decide), n 37 (by decide) (by decide), n 38 (by decide) (by decide), n 39 (by decide) (by decide), n 40 (by decide) (by decide), n 41 (by decide) (by decide), n 42 (by decide) (by decide), n 43 (by decide) (by decide), n 44 (by decide) (by decide), n 45 (by decide) (by decide), n 46 (by decide) (by decide), n 47 (by decide) (by decide), n 48 (by decide) (by decide), ne_eq, not_false_eq_true]
  all_goals first | (simp [ck_up, ck_cp]; done) | (intro j j0 j1; generalize 6 * A * R = n at *; simp [ck_up, ck_cp]; intro z; omega)
theorem S_cfb {g : ch_G} {A R : Nat} (hC : ck_Cx g A R) {d : Nat} {K : Option ck_V → ck_W → Prop} {w : ck_W} (h : ∀ w', (∀ k, k < 3 ∨ 25 ≤ k → w' k = w k) → (w' 3 0 = w 3 0 ∧ w' 3 1 = w 3 1) → cs_eq A R w w' 24 0 → K none w') : ck_Ex (ch_C g A R) (d + 4) mX8_copyFrom [.inr (.inr 1), .inr (.inr 2)] w K := by
  refine e_cfb hC (e_cfb_scan hC ⟨rfl, e_cfb_walk hC ⟨rfl, e_cfb_readers hC ⟨rfl, e_cfb_lexicon hC ⟨rfl, e_cfb_parts hC ⟨rfl, h _ (fun k hk => ?_) ⟨?_, ?_⟩ ⟨⟨?_, ?_, ?_, ?_, ?_⟩, ⟨?_, ?_, ?_, ?_⟩, ⟨?_, ?_, ?_, ?_⟩, ⟨?_, ?_, ?_, ?_⟩, ?_, ?_, ?_, ?_, ?_, ?_, ?_, ?_, ?_, ?_⟩⟩⟩⟩⟩⟩)
  · have n : ∀ q : Nat, 3 ≤ q → q < 25 → k ≠ q := fun q _ _ => by omega
    simp only [ck_up_ne, ck_cp_ne, n 3 (by decide) (by decide), n 4 (by decide) (by decide), n 5 (by decide) (by decide), n 6 (by decide) (by decide), n 7 (by decide) (by decide), n 8 (by decide) (by decide), n 9 (by decide) (by decide), n 10 (by decide) (by decide), n 11 (by decide) (by decide), n 12 (by decide) (by decide), n 13 (by decide) (by decide), n 14 (by decide) (by decide), n 15 (by decide) (by decide), n 16 (by decide) (by decide), n 17 (by decide) (by decide), n 18 (by decide) (by decide), n 19 (by decide) (by decide), n 20 (by decide) (by decide), n 21 (by decide) (by decide), n 22 (by decide) (by decide), n 23 (by decide) (by decide), n 24 (by decide) (by decide), ne_eq, not_false_eq_true]
  all_goals first | (simp [ck_up, ck_cp]; done) | (intro j j0 j1; generalize 6 * A * R = n at *; simp [ck_up, ck_cp]; intro z; omega)
theorem C_image {g : ch_G} {A R : Nat} (hC : ck_Cx g A R) {d : Nat} {K : Option ck_V → ck_W → Prop} {w : ck_W} (h : ∀ w', (∀ k, k < 27 ∨ 51 ≤ k → w' k = w k) → (w' 27 0 = w 27 0 ∧ w' 27 1 = w 27 1) → cs_eq A R w w' 0 24 → K (some (.inl (w 10 5))) w') : ck_Ex (ch_C g A R) (d + 5) mX11_image [.inr (.inr 0)] w K :=
  e_X11_image hC (S_cfi hC (fun w' k1 k2 k3 => ⟨rfl, by dsimp only; rw [k1 10 (by decide)]; exact h w' k1 k2 k3⟩))
theorem C_back {g : ch_G} {A R : Nat} (hC : ck_Cx g A R) {d : Nat} {K : Option ck_V → ck_W → Prop} {w : ck_W} (h : ∀ w', (∀ k, k < 3 ∨ (25 ≤ k ∧ k ≠ 59) → w' k = w k) → (w' 3 0 = w 3 0 ∧ w' 3 1 = w 3 1) → (∀ z, 0 ≤ z → z ≤ 5 → w' 59 z = 0) → cs_eq A R w w' 24 0 → K (some (.inl (w 34 5))) w') : ck_Ex (ch_C g A R) (d + 5) mX11_back [.inr (.inr 0)] w K := by
  refine e_X11_back hC (S_cfb hC (fun w1 k1 k2 k3 => ⟨rfl, ?_⟩))
  have e5 : w1 10 5 = w 34 5 := k3.2.2.2.2.2.2.2.2.1
  have lp : ∀ (n : Nat) (a1 : Int) (u : ck_W), 6 - a1 = n → 0 ≤ a1 → (∀ k, k ≠ 59 → u k = w1 k) → (∀ z, 0 ≤ z → z < a1 → u 59 z = 0) → ck_At (ch_C g A R) (d + 5) mX11_back K 13 [some (.inr (.inr 0)), some (.inl a1)] [] u := by
    intro n
    induction n with
    | zero =>
      intro a1 u g1 g2 g3 g4
      refine r_X11_back_13 hC ⟨fun _ => ?_, fun q => absurd (by omega) q⟩
      rw [g3 10 (by decide), e5]
      refine h u (fun k hk => by rw [g3 k (by omega)]; exact k1 k (by omega)) (by rw [g3 3 (by decide)]; exact k2) (fun z a b => g4 z a (by omega)) ?_
      unfold cs_eq cs_er at k3 ⊢
      simp only [Nat.add_zero] at k3 ⊢
      rw [g3 3 (by decide), g3 4 (by decide), g3 5 (by decide), g3 6 (by decide), g3 7 (by decide), g3 8 (by decide), g3 9 (by decide), g3 10 (by decide), g3 11 (by decide), g3 12 (by decide), g3 13 (by decide), g3 14 (by decide), g3 15 (by decide), g3 16 (by decide), g3 17 (by decide), g3 18 (by decide), g3 19 (by decide), g3 20 (by decide), g3 21 (by decide), g3 22 (by decide), g3 23 (by decide), g3 24 (by decide)]
      exact k3
    | succ n ih =>
      intro a1 u g1 g2 g3 g4
      refine r_X11_back_13 hC ⟨fun q => absurd q (by omega), fun _ => e_X10_forget hC ⟨fun _ => ⟨by omega, rfl, by constructor <;> omega, ih (a1 + 1) _ (by omega) (by omega) (fun k hk => by rw [ck_up_ne hk]; exact g3 k hk) (fun z a b => ?_)⟩, fun q => absurd (by omega) q⟩⟩
      rw [ck_up_at]
      split
      · rfl
      · exact g4 z a (by omega)
  exact lp 6 0 w1 (by omega) (by omega) (fun _ _ => rfl) (fun z a b => by omega)
