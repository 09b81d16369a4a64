/-! ===== texts: rows of the two constants ===== -/
/-- a byte of a text -/
def sx (i : Nat) (j : Int) : Int := ((ch_sb.getD i []).getD j.toNat 0).toInt
theorem sx_rng (i : Nat) (j : Int) : ck_i (sx i j) := ck_rng _
section CHX
variable {X : ch_X} {d : Nat} {y : ch_M} {K : Option Value → ch_W → Prop} {pc : Nat} {L : ch_Lo} {S : List Value} {w : ch_W}
theorem ch_ldcS0 (hd : decode y.2.1 pc = .ok (.ldc 100, 2)) (hy : y.1.cls = "CharredRoll$Script") (k : ch_At X d y K (pc + 2) L (.ref 97 :: S) w) : ch_At X d y K pc L S w := by
  intro p e s m args below meth c E H locs ls hP hS hl
  obtain ⟨hx, hb, hr, hml, hts, hown, hlocks, hK, hB, hO, hN⟩ := id E
  rw [hy] at hown
  exact va_ldcS hx hb hown hN.2.1.1 hd (k p e s m args below meth c E H locs ls hP hS hl)
theorem ch_ldcS1 (hd : decode y.2.1 pc = .ok (.ldc 120, 2)) (hy : y.1.cls = "CharredRoll$Script") (k : ch_At X d y K (pc + 2) L (.ref 98 :: S) w) : ch_At X d y K pc L S w := by
  intro p e s m args below meth c E H locs ls hP hS hl
  obtain ⟨hx, hb, hr, hml, hts, hown, hlocks, hK, hB, hO, hN⟩ := id E
  rw [hy] at hown
  exact va_ldcS hx hb hown hN.2.1.2 hd (k p e s m args below meth c E H locs ls hP hS hl)
theorem tx_fv : Cond.fieldLink "java/lang/String" 9 "java/lang/String" "value" "[B" ∈ ch_T := ch_mem (ch_t8 71 rfl) rfl
theorem tx_fc : Cond.fieldLink "java/lang/String" 15 "java/lang/String" "coder" "B" ∈ ch_T := ch_mem (ch_t8 72 rfl) rfl
theorem tx_fs : Cond.fieldLink "java/lang/String" 38 "java/lang/String" "COMPACT_STRINGS" "Z" ∈ ch_T := ch_mem (ch_t4 24 rfl) rfl
theorem tx_fq : Cond.fieldLink "java/lang/String" 1053 "jdk/internal/util/Preconditions" "SIOOBE_FORMATTER" "Ljava/util/function/BiFunction;" ∈ ch_T := ch_mem (ch_t4 40 rfl) rfl
theorem ch_getSv (hd : decode y.2.1 pc = .ok (.getfield 9, 3)) (hy : y.1.cls = "java/lang/String") {i : Nat} (hi : i < 2) (k : ch_At X d y K (pc + 3) L (.ref (99 + i) :: S) w) : ch_At X d y K pc L (.ref (97 + i) :: S) w := by
  intro p e s m args below meth c E H locs ls hP hS hl
  obtain ⟨hx, hb, hr, hml, hts, hown, hlocks, hK, hB, hO, hN⟩ := id E
  rw [hy] at hown
  exact vk_getf hx hb (hN.2.2.1.1 i hi).2.2.1 hS hown (hts _ tx_fv) (fun _ h => h) hd (k p e s m args below meth c E H locs ls hP hS hl)
theorem ch_getSc (hd : decode y.2.1 pc = .ok (.getfield 15, 3)) (hy : y.1.cls = "java/lang/String") {i : Nat} (hi : i < 2) (k : ch_At X d y K (pc + 3) L (.int 0 :: S) w) : ch_At X d y K pc L (.ref (97 + i) :: S) w := by
  intro p e s m args below meth c E H locs ls hP hS hl
  obtain ⟨hx, hb, hr, hml, hts, hown, hlocks, hK, hB, hO, hN⟩ := id E
  rw [hy] at hown
  exact vk_getf hx hb (hN.2.2.1.1 i hi).2.1 hS hown (hts _ tx_fc) (fun _ h => h) hd (k p e s m args below meth c E H locs ls hP hS hl)
theorem ch_getsS (hd : decode y.2.1 pc = .ok (.getstatic 38, 3)) (hy : y.1.cls = "java/lang/String") (k : ch_At X d y K (pc + 3) L (.int 1 :: S) w) : ch_At X d y K pc L S w := by
  intro p e s m args below meth c E H locs ls hP hS hl
  obtain ⟨hx, hb, hr, hml, hts, hown, hlocks, hK, hB, hO, hN⟩ := id E
  rw [hy] at hown
  exact va_gets hx hb hN.2.2.2.1 hS hown (hts _ tx_fs) (fun _ h => h) hd (k p e s m args below meth c E H locs ls hP hS hl)
theorem ch_getsq (hd : decode y.2.1 pc = .ok (.getstatic 1053, 3)) (hy : y.1.cls = "java/lang/String") (k : ∀ v : Value, v = .null ∨ v = .ref 101 → ch_At X d y K (pc + 3) L (v :: S) w) : ch_At X d y K pc L S w := by
  intro p e s m args below meth c E H locs ls hP hS hl
  obtain ⟨hx, hb, hr, hml, hts, hown, hlocks, hK, hB, hO, hN⟩ := id E
  rw [hy] at hown
  rcases hN.2.2.2.2 with h | h
  · exact va_gets hx hb h hS hown (hts _ tx_fq) (fun _ h => h) hd (k .null (Or.inl rfl) p e s m args below meth c E H locs ls hP hS hl)
  · exact va_gets hx hb h hS hown (hts _ tx_fq) (fun _ h => h) hd (k (.ref 101) (Or.inr rfl) p e s m args below meth c E H locs ls hP hS hl)
theorem ch_alenS (hd : decode y.2.1 pc = .ok (.arraylength, 1)) {i : Nat} (hi : i < 2) {v : Int32} (hv : Int32.ofNat (ch_sl.getD i 0) = v) (k : ch_At X d y K (pc + 1) L (.int v :: S) w) : ch_At X d y K pc L (.ref (99 + i) :: S) w := by
  intro p e s m args below meth c E H locs ls hP hS hl
  obtain ⟨hx, hb, hr, hml, hts, hown, hlocks, hK, hB, hO, hN⟩ := id E
  exact va_tlen hx hb (hN.2.2.1.1 i hi).2.2.2 hS hv hd (k p e s m args below meth c E H locs ls hP hS hl)
theorem ch_baldS (hd : decode y.2.1 pc = .ok (.baload, 1)) {i : Nat} (hi : i < 2) {j v : Int32} (hin : vp_in j (ch_sl.getD i 0)) (hv : (ch_sb.getD i []).getD j.toNatClampNeg 0 = v) (k : ch_At X d y K (pc + 1) L (.int v :: S) w) : ch_At X d y K pc L (.int j :: .ref (99 + i) :: S) w := by
  intro p e s m args below meth c E H locs ls hP hS hl
  obtain ⟨hx, hb, hr, hml, hts, hown, hlocks, hK, hB, hO, hN⟩ := id E
  exact va_tb hx hb (hN.2.2.1.1 i hi).2.2.2 hS hin (by rw [hv]; rfl) hd (k p e s m args below meth c E H locs ls hP hS hl)
def ch_CVS (own : String) (index n : Nat) (z : ch_M) : Prop := Cond.methodLink own index z.1 ∈ ch_T ∧ Cond.instanceMethod z.1 ∈ ch_T ∧ Cond.selects z.1.cls z.1 z.1 ∈ ch_T ∧ Cond.initialized z.1.cls ∈ ch_T ∧ Cond.code z.1 z.2.1 z.2.2.1 z.2.2.2 ∈ ch_T ∧ (z.1.cls ≠ "java/lang/invoke/MethodHandle" ∧ z.1.cls ≠ "java/lang/invoke/VarHandle" ∧ (parseMethodDescriptor z.1.desc).map (fun d => d.parameters.length) = some n) ∧ z.2.2.1 ≤ 21 ∧ z.1.cls = "java/lang/String"
theorem ch_callVS {z : ch_M} {index n i : Nat} (As S : List Value) {S0 : List Value} (hd : decode y.2.1 pc = .ok (.invokevirtual index, 3)) (hc : ch_CVS y.1.cls index n z) (hi : i < 2) (hn : As.length = n) (h0 : S0 = As.reverse ++ .ref (97 + i) :: S) (h8 : (S.map fun v => v.category).sum ≤ 8)
    (kk : ch_Ex X d z (.ref (97 + i) :: As) w (fun r w' => ch_At X (d + 1) y K (pc + 3) L (r.toList ++ S) w')) : ch_At X (d + 1) y K pc L S0 w := by
  intro p e s m args below meth c E H locs ls hP hS hl
  obtain ⟨hx, hb, hr, hml, hts, hown, hlocks, hK, hB, hO, hN⟩ := id E
  obtain ⟨c1, c2, c2b, c3, c4, c5, c6, c7⟩ := hc
  subst h0
  have rc := vk_recv hN.2.2.1 hi hS
  rw [← c7] at rc
  refine ch_back (z := z) (As := As) (n := 0) rfl E hS hl (va_runV (n := n) (C := z.1.cls) (b := X.2.2.2.1 (97 + i)) (As := As.map (ch_re X)) (rest := S.map (ch_re X)) (Ts := ch_T) (own := y.1.cls) (nL := y.2.2.1) ⟨hx, hb, hml, hown, hts⟩ kk ⟨callB_of n hts (ch_good (fun _ h => h) c4) rfl rfl rfl (hts _ c3) (hts _ c1) c5 ⟨Nat.le_refl _, ?_⟩, hts _ c2, hts _ c2b⟩ ⟨ch_blind, rc, fun U hU hW => ⟨rfl, by rw [hU]; exact hP, by rw [hU]; exact ch_B.of hO hB hS, va_K.moved hW.alike hK, hN.warm hW hU hS⟩⟩ rfl (by simp [hn]) hl.1 (by simp [ch_re]) (lv_room ?_) hd ⟨Nat.zero_le _, Nat.zero_le _⟩)
  · show 8 + (z.2.2.1 + 11) + 40 * d ≤ 40 * (d + 1)
    omega
  · have : (S.map (ch_re X)).map (fun v => v.category) = S.map (fun v => v.category) := by simp [ch_re_cat]
    rw [this]; exact h8
end CHX
section CKX
variable {X : ch_X} {d : Nat} {y : ch_M} {K : Option ck_V → ck_W → Prop} {pc : Nat} {L : ck_L} {S : List ck_V} {w : ck_W}
theorem ck_ldcS0 (nx : Nat) (hp : pc + 2 = nx) (hd : decode y.2.1 pc = .ok (.ldc 100, 2)) (hy : y.1.cls = "CharredRoll$Script") (k : ck_At X d y K nx L (.inr (.inr 97) :: S) w) : ck_At X d y K pc L S w := by
  subst hp; intro hw hl; exact ch_ldcS0 hd hy (k hw hl)
theorem ck_ldcS1 (nx : Nat) (hp : pc + 2 = nx) (hd : decode y.2.1 pc = .ok (.ldc 120, 2)) (hy : y.1.cls = "CharredRoll$Script") (k : ck_At X d y K nx L (.inr (.inr 98) :: S) w) : ck_At X d y K pc L S w := by
  subst hp; intro hw hl; exact ch_ldcS1 hd hy (k hw hl)
theorem ck_getSv (nx : Nat) (hp : pc + 3 = nx) (hd : decode y.2.1 pc = .ok (.getfield 9, 3)) (hy : y.1.cls = "java/lang/String") {i : Nat} (hi : i < 2) (k : ck_At X d y K nx L (.inr (.inr (99 + i)) :: S) w) : ck_At X d y K pc L (.inr (.inr (97 + i)) :: S) w := by
  subst hp; intro hw hl; exact ch_getSv hd hy hi (k hw hl)
theorem ck_getSc (nx : Nat) (hp : pc + 3 = nx) (hd : decode y.2.1 pc = .ok (.getfield 15, 3)) (hy : y.1.cls = "java/lang/String") {i : Nat} (hi : i < 2) (k : ck_At X d y K nx L (.inl 0 :: S) w) : ck_At X d y K pc L (.inr (.inr (97 + i)) :: S) w := by
  subst hp; intro hw hl; exact ch_getSc hd hy hi (k hw hl)
theorem ck_getsS (nx : Nat) (hp : pc + 3 = nx) (hd : decode y.2.1 pc = .ok (.getstatic 38, 3)) (hy : y.1.cls = "java/lang/String") (k : ck_At X d y K nx L (.inl 1 :: S) w) : ck_At X d y K pc L S w := by
  subst hp; intro hw hl; exact ch_getsS hd hy (k hw hl)
theorem ck_alenS (nx : Nat) (hp : pc + 1 = nx) (hd : decode y.2.1 pc = .ok (.arraylength, 1)) {i : Nat} (hi : i < 2) {n : Nat} (hn : ch_sl.getD i 0 = n) (k : ck_At X d y K nx L (.inl (n : Int) :: S) w) : ck_At X d y K pc L (.inr (.inr (99 + i)) :: S) w := by
  subst hp; intro hw hl; exact ch_alenS hd hi (by rw [hn]; exact (kb_n n).symm) (k hw hl)
theorem ck_baldS (nx : Nat) (hp : pc + 1 = nx) (hd : decode y.2.1 pc = .ok (.baload, 1)) {i : Nat} (hi : i < 2) {n : Nat} (hn : ch_sl.getD i 0 = n) {j : Int} (hj : 0 ≤ j ∧ j < (n : Int)) (hm : n < 1000) (k : ck_At X d y K nx L (.inl (sx i j) :: S) w) : ck_At X d y K pc L (.inl j :: .inr (.inr (99 + i)) :: S) w := by
  subst hp; intro hw hl
  have hj2 : ck_i j := ⟨by omega, by omega⟩
  have e : (Int32.ofInt j).toNatClampNeg = j.toNat := by show (Int32.ofInt j).toInt.toNat = j.toNat; rw [ck_i32 hj2]
  refine ch_baldS hd hi (v := Int32.ofInt (sx i j)) (ch_in (by rw [ck_i32 hj2, hn]; exact hj)) ?_ (k hw hl)
  rw [e]
  unfold sx
  exact (Int32.ofInt_toInt _).symm
theorem ck_callVS (nx : Nat) (hp : pc + 3 = nx) {z : ch_M} {index n i : Nat} (As S : List ck_V) {S0 : List ck_V} (hd : decode y.2.1 pc = .ok (.invokevirtual index, 3)) (hc : ch_CVS y.1.cls index n z) (hi : i < 2) (hn : As.length = n) (h0 : S0 = As.reverse ++ .inr (.inr (97 + i)) :: S) (h8 : (S.map ck_cat).sum ≤ 8) (ha : ck_aok As) (kk : ck_Ex X d z (.inr (.inr (97 + i)) :: As) w (fun r w' => ck_aok r.toList → ck_At X (d + 1) y K nx L (r.toList ++ S) w')) : ck_At X (d + 1) y K pc L S0 w := by
  subst hp; intro hw hl; subst h0
  exact ch_callVS (As.map ck_v) (S.map ck_v) hd hc hi (by rw [List.length_map]; exact hn) (by simp [ck_v]) (by rw [ck_cats]; exact h8) (ck_exm (kk hw ⟨trivial, ha⟩) (fun _ _ ⟨r', w', h1, h2, h3, h4, h5⟩ => by subst h1; refine ck_tr h2 ?_; have h := h5 h4 h3 hl; cases r' <;> exact h))
theorem ck_nret {v : Int} {ty : FieldType} (hd : decode y.2.1 pc = .ok (.ireturn, 1)) (hr0 : y.2.2.2 = some ty) (hn : narrow ty (.int (Int32.ofInt v)) = .int (Int32.ofInt v)) (hv : ck_i v) (hK : K (some (.inl v)) w) : ck_At X d y K pc L [.inl v] w := by
  intro hw hl; exact ch_iret hd hr0 hn ⟨some (.inl v), w, rfl, rfl, hw, ⟨hv, trivial⟩, hK⟩
def ck_i2b (a : Int) : Int := ((Int32.ofInt a).toInt8.toInt32).toInt
theorem ch_i2b {X : ch_X} {d : Nat} {y : ch_M} {K : Option Value → ch_W → Prop} {pc : Nat} {L : ch_Lo} {S : List Value} {w : ch_W} {x : Int32} (hd : decode y.2.1 pc = .ok (.i2b, 1)) (k : ch_At X d y K (pc + 1) L (.int x.toInt8.toInt32 :: S) w) : ch_At X d y K pc L (.int x :: S) w := by
  intro p e s m args below meth c E H locs ls hP hS hl
  exact lv_i2b E.1 E.2.1 hd rfl (k p e s m args below meth c E H locs ls hP hS hl)
theorem ck_i2br (nx : Nat) (hp : pc + 1 = nx) {a : Int} (hd : decode y.2.1 pc = .ok (.i2b, 1)) (k : ck_At X d y K nx L (.inl (ck_i2b a) :: S) w) : ck_At X d y K pc L (.inl a :: S) w := by
  subst hp; intro hw hl; refine ch_i2b hd ?_; have h := k hw hl; simp only [List.map_cons, ck_v, ck_i2b, Int32.ofInt_toInt] at h; exact h
end CKX
abbrev mcoder : ch_M := (yJ0_coder_7d493, cJ0_coder_7d493, 1, some .byte)
theorem cl_X6_102 : Cond.methodLink RX6 102 yJ0_length_8abf5 ∈ ch_T := ch_mem (ch_t4 16 rfl) rfl
theorem ci_J0_length_8abf5 : Cond.instanceMethod yJ0_length_8abf5 ∈ ch_T := ch_mem (ch_t4 17 rfl) rfl
theorem cse_J0_length_8abf5 : Cond.selects "java/lang/String" yJ0_length_8abf5 yJ0_length_8abf5 ∈ ch_T := ch_mem (ch_t4 18 rfl) rfl
theorem cco_J0_length_8abf5 : Cond.code mJ0_length_8abf5.1 mJ0_length_8abf5.2.1 mJ0_length_8abf5.2.2.1 mJ0_length_8abf5.2.2.2 ∈ ch_T := ch_mem (ch_t4 19 rfl) rfl
theorem ci_str : Cond.initialized "java/lang/String" ∈ ch_T := ch_mem (ch_t1 16 rfl) rfl
theorem cz_X6_102 : ch_CVS RX6 102 0 mJ0_length_8abf5 := ⟨cl_X6_102, ci_J0_length_8abf5, cse_J0_length_8abf5, ci_str, cco_J0_length_8abf5, ⟨by decide +kernel, by decide +kernel, by decide +kernel⟩, by decide, rfl⟩
theorem cl_J0_335 : Cond.methodLink RJ0 335 yJ0_coder_7d493 ∈ ch_T := ch_mem (ch_t4 20 rfl) rfl
theorem ci_J0_coder_7d493 : Cond.instanceMethod yJ0_coder_7d493 ∈ ch_T := ch_mem (ch_t4 21 rfl) rfl
theorem cse_J0_coder_7d493 : Cond.selects "java/lang/String" yJ0_coder_7d493 yJ0_coder_7d493 ∈ ch_T := ch_mem (ch_t4 22 rfl) rfl
theorem cco_J0_coder_7d493 : Cond.code mcoder.1 mcoder.2.1 mcoder.2.2.1 mcoder.2.2.2 ∈ ch_T := ch_mem (ch_t4 23 rfl) rfl
theorem cz_J0_335 : ch_CVS RJ0 335 0 mcoder := ⟨cl_J0_335, ci_J0_coder_7d493, cse_J0_coder_7d493, ci_str, cco_J0_coder_7d493, ⟨by decide +kernel, by decide +kernel, by decide +kernel⟩, by decide, rfl⟩
theorem cl_X6_107 : Cond.methodLink RX6 107 yJ0_charAt_5068e ∈ ch_T := ch_mem (ch_t4 26 rfl) rfl
theorem ci_J0_charAt_5068e : Cond.instanceMethod yJ0_charAt_5068e ∈ ch_T := ch_mem (ch_t4 27 rfl) rfl
theorem cse_J0_charAt_5068e : Cond.selects "java/lang/String" yJ0_charAt_5068e yJ0_charAt_5068e ∈ ch_T := ch_mem (ch_t4 28 rfl) rfl
theorem cco_J0_charAt_5068e : Cond.code mJ0_charAt_5068e.1 mJ0_charAt_5068e.2.1 mJ0_charAt_5068e.2.2.1 mJ0_charAt_5068e.2.2.2 ∈ ch_T := ch_mem (ch_t4 29 rfl) rfl
theorem cz_X6_107 : ch_CVS RX6 107 1 mJ0_charAt_5068e := ⟨cl_X6_107, ci_J0_charAt_5068e, cse_J0_charAt_5068e, ci_str, cco_J0_charAt_5068e, ⟨by decide +kernel, by decide +kernel, by decide +kernel⟩, by decide, rfl⟩
theorem cl_J0_492 : Cond.methodLink RJ0 492 yJ0_isLatin1_aae02 ∈ ch_T := ch_mem (ch_t4 30 rfl) rfl
theorem ci_J0_isLatin1_aae02 : Cond.instanceMethod yJ0_isLatin1_aae02 ∈ ch_T := ch_mem (ch_t4 31 rfl) rfl
theorem cse_J0_isLatin1_aae02 : Cond.selects "java/lang/String" yJ0_isLatin1_aae02 yJ0_isLatin1_aae02 ∈ ch_T := ch_mem (ch_t4 32 rfl) rfl
theorem cco_J0_isLatin1_aae02 : Cond.code mJ0_isLatin1_aae02.1 mJ0_isLatin1_aae02.2.1 mJ0_isLatin1_aae02.2.2.1 mJ0_isLatin1_aae02.2.2.2 ∈ ch_T := ch_mem (ch_t4 33 rfl) rfl
theorem cz_J0_492 : ch_CVS RJ0 492 0 mJ0_isLatin1_aae02 := ⟨cl_J0_492, ci_J0_isLatin1_aae02, cse_J0_isLatin1_aae02, ci_str, cco_J0_isLatin1_aae02, ⟨by decide +kernel, by decide +kernel, by decide +kernel⟩, by decide, rfl⟩
theorem cl_X6_122 : Cond.methodLink RX6 122 yJ0_indexOf_0f7a4 ∈ ch_T := ch_mem (ch_t4 81 rfl) rfl
theorem ci_J0_indexOf_0f7a4 : Cond.instanceMethod yJ0_indexOf_0f7a4 ∈ ch_T := ch_mem (ch_t4 82 rfl) rfl
theorem cse_J0_indexOf_0f7a4 : Cond.selects "java/lang/String" yJ0_indexOf_0f7a4 yJ0_indexOf_0f7a4 ∈ ch_T := ch_mem (ch_t4 83 rfl) rfl
theorem cco_J0_indexOf_0f7a4 : Cond.code mJ0_indexOf_0f7a4.1 mJ0_indexOf_0f7a4.2.1 mJ0_indexOf_0f7a4.2.2.1 mJ0_indexOf_0f7a4.2.2.2 ∈ ch_T := ch_mem (ch_t4 84 rfl) rfl
theorem cz_X6_122 : ch_CVS RX6 122 1 mJ0_indexOf_0f7a4 := ⟨cl_X6_122, ci_J0_indexOf_0f7a4, cse_J0_indexOf_0f7a4, ci_str, cco_J0_indexOf_0f7a4, ⟨by decide +kernel, by decide +kernel, by decide +kernel⟩, by decide, rfl⟩
theorem cl_J0_633 : Cond.methodLink RJ0 633 yJ0_indexOf_7cf53 ∈ ch_T := ch_mem (ch_t4 85 rfl) rfl
theorem ci_J0_indexOf_7cf53 : Cond.instanceMethod yJ0_indexOf_7cf53 ∈ ch_T := ch_mem (ch_t4 86 rfl) rfl
theorem cse_J0_indexOf_7cf53 : Cond.selects "java/lang/String" yJ0_indexOf_7cf53 yJ0_indexOf_7cf53 ∈ ch_T := ch_mem (ch_t4 87 rfl) rfl
theorem cco_J0_indexOf_7cf53 : Cond.code mJ0_indexOf_7cf53.1 mJ0_indexOf_7cf53.2.1 mJ0_indexOf_7cf53.2.2.1 mJ0_indexOf_7cf53.2.2.2 ∈ ch_T := ch_mem (ch_t4 88 rfl) rfl
theorem cz_J0_633 : ch_CVS RJ0 633 2 mJ0_indexOf_7cf53 := ⟨cl_J0_633, ci_J0_indexOf_7cf53, cse_J0_indexOf_7cf53, ci_str, cco_J0_indexOf_7cf53, ⟨by decide +kernel, by decide +kernel, by decide +kernel⟩, by decide, rfl⟩
theorem cl_J0_505 : Cond.methodLink RJ0 505 yJ0_length_8abf5 ∈ ch_T := ch_mem (ch_t4 89 rfl) rfl
theorem cz_J0_505 : ch_CVS RJ0 505 0 mJ0_length_8abf5 := ⟨cl_J0_505, ci_J0_length_8abf5, cse_J0_length_8abf5, ci_str, cco_J0_length_8abf5, ⟨by decide +kernel, by decide +kernel, by decide +kernel⟩, by decide, rfl⟩
