/-! ===== printed by gen/ctor3.py: the law from its entry ===== -/
theorem dL_law_0 : decode code 0 = .ok (.new 7, 3) := dk_187 0 7 (by decide +kernel)
theorem dL_law_3 : decode code 3 = .ok (.dup, 1) := dk_89 (by decide +kernel)
theorem dL_law_4 : decode code 4 = .ok (.aload_n 0, 1) := dk_42 (by decide +kernel)
theorem dL_law_5 : decode code 5 = .ok (.iconst 0, 1) := dk_3 (by decide +kernel)
theorem dL_law_6 : decode code 6 = .ok (.invokestatic 9, 3) := dk_184 0 9 (by decide +kernel)
theorem dL_law_9 : decode code 9 = .ok (.aload_n 0, 1) := dk_42 (by decide +kernel)
theorem dL_law_10 : decode code 10 = .ok (.iconst 1, 1) := dk_4 (by decide +kernel)
theorem dL_law_11 : decode code 11 = .ok (.invokestatic 9, 3) := dk_184 0 9 (by decide +kernel)
theorem dL_law_14 : decode code 14 = .ok (.invokespecial 15, 3) := dk_183 0 15 (by decide +kernel)
theorem dL_law_17 : decode code 17 = .ok (.astore_n 1, 1) := dk_76 (by decide +kernel)
theorem dL_law_18 : decode code 18 = .ok (.new 18, 3) := dk_187 0 18 (by decide +kernel)
theorem dL_law_21 : decode code 21 = .ok (.dup, 1) := dk_89 (by decide +kernel)
theorem dL_law_22 : decode code 22 = .ok (.aload_n 0, 1) := dk_42 (by decide +kernel)
theorem dL_law_23 : decode code 23 = .ok (.iconst 0, 1) := dk_3 (by decide +kernel)
theorem dL_law_24 : decode code 24 = .ok (.invokestatic 9, 3) := dk_184 0 9 (by decide +kernel)
theorem dL_law_27 : decode code 27 = .ok (.aload_n 0, 1) := dk_42 (by decide +kernel)
theorem dL_law_28 : decode code 28 = .ok (.iconst 1, 1) := dk_4 (by decide +kernel)
theorem dL_law_29 : decode code 29 = .ok (.invokestatic 9, 3) := dk_184 0 9 (by decide +kernel)
theorem dL_law_32 : decode code 32 = .ok (.invokespecial 20, 3) := dk_183 0 20 (by decide +kernel)
theorem dL_law_35 : decode code 35 = .ok (.astore_n 2, 1) := dk_77 (by decide +kernel)
theorem dL_law_36 : decode code 36 = .ok (.iconst 2, 1) := dk_5 (by decide +kernel)
theorem dL_law_37 : decode code 37 = .ok (.istore_n 3, 1) := dk_62 (by decide +kernel)
theorem kn_of {s : State} {A : Array Value} (hts : ∀ w ∈ ch_T, w.before A s = true) {own : String} {idx ci N : Nat} {fs : List Value} (h : cn_NW own idx ci N fs) : ∃ p : ClassId × (Nat → Nat), ∀ q, vwCl[ci]? = some q → u_Kn s q.1 q.2.1 q.2.2 p.1 p.2 := by
  obtain ⟨C, T, hc, hin, hcl, hi, hi2, hty⟩ := h
  obtain ⟨cC, iS, h⟩ := u_known hts hin (hts _ hi)
  exact ⟨(cC, iS), fun q hq => by rw [hc] at hq; cases hq; exact h⟩
theorem ce_D {s : State} {A : Array Value} (hts : ∀ w ∈ ch_T, w.before A s = true) : ∃ D : va_G, ∀ (c : Nat) (q : vw_C), vwCl[c]? = some q → u_Kn s q.1 q.2.1 q.2.2 (D.1 c) (D.2 c) := by
  have h : ∀ c : Nat, ∃ p : ClassId × (Nat → Nat), ∀ q, vwCl[c]? = some q → u_Kn s q.1 q.2.1 q.2.2 p.1 p.2 := by
    intro c
    match c with
    | 0 => exact kn_of hts nw_X11_67
    | 1 => exact kn_of hts nw_X11_34
    | 2 => exact kn_of hts nw_X8_23
    | 3 => exact kn_of hts nw_X8_30
    | 4 => exact kn_of hts nw_X8_16
    | 5 => exact kn_of hts nw_X8_37
    | 6 => exact kn_of hts nw_X11_47
    | 7 => exact kn_of hts nw_X11_54
    | 8 => exact kn_of hts nw_X11_9
    | 9 => exact kn_of hts nw_X8_7
    | 10 => exact kn_of hts nw_X11_21
    | 11 => exact kn_of hts nw_L_7
    | 12 => exact kn_of hts nw_L_18
    | n + 13 =>
      obtain ⟨p, _⟩ := kn_of hts nw_X11_67
      exact ⟨p, fun q hq => by cases hq⟩
  obtain ⟨f, hf⟩ := Classical.axiomOfChoice h
  exact ⟨(fun c => (f c).1, fun c => (f c).2), fun c q hq => hf c q hq⟩
theorem ce_arr {s : State} {A : Array Value} {ty : FieldType} (h : (Cond.arrayClass ty).before A s = true) : ∃ cA : ClassId, ArrOfT s cA ty ∧ s.vm.findClass ("[" ++ ty.toString) = some cA := by
  obtain ⟨cA, kA, comp, h1, h2, h3⟩ := Cond.arrayClass_spec h
  exact ⟨cA, fun n z => ⟨(fun k h => (by cases h)), kA, h2, comp, h3⟩, h1⟩
def ce_tm (i : Nat) : Term := Term.string "CharredRoll$Script" (if i = 0 then 100 else 120)
theorem ce_el0 : ∀ j ∈ List.range 68, Cond.eq (.elem (.field (ce_tm 0) "java/lang/String" "value" "[B") (.int (Int32.ofNat j))) (.int ((ch_sb.getD 0 []).getD j 0)) ∈ flatC (Jvm.Cond.and given_1 narrow_1) := by decide +kernel
theorem ce_el1 : ∀ j ∈ List.range 13, Cond.eq (.elem (.field (ce_tm 1) "java/lang/String" "value" "[B") (.int (Int32.ofNat j))) (.int ((ch_sb.getD 1 []).getD j 0)) ∈ flatC (Jvm.Cond.and given_1 narrow_1) := by decide +kernel
theorem ce_text {args : Array Value} {s : State} {A : Nat → Prop} (hgv : (Jvm.Cond.and given_1 narrow_1).before args s = true) (hA : ∀ a : Nat, a < s.heap.size → ¬ A a) : ∃ adK adV : Nat → Nat, vk_S 2 ch_sl ch_sb adK adV A s s.heap ∧ ∀ i : Nat, i < 2 → (ce_tm i).eval args s none [] s = some (.ref (adK i)) := by
  have hs := flat_of_before _ hgv
  have two : ∀ i : Nat, i < 2 → i = 0 ∨ i = 1 := fun i h => by omega
  refine vk_Sof (tm := ce_tm) (fun i hi => ?_) (fun i hi => ?_) (fun i hi => ?_) (fun i hi => ?_) (fun i hi => ?_) (fun i hi j hj => ?_) (fun i j hi hj hij => ?_) hA
  · rcases two i hi with rfl | rfl <;> decide
  · rcases two i hi with rfl | rfl
    · exact hs _ (by decide +kernel)
    · exact hs _ (by decide +kernel)
  · rcases two i hi with rfl | rfl
    · exact hs _ (by decide +kernel)
    · exact hs _ (by decide +kernel)
  · rcases two i hi with rfl | rfl
    · exact hs _ (by decide +kernel)
    · exact hs _ (by decide +kernel)
  · rcases two i hi with rfl | rfl
    · exact hs _ (by decide +kernel)
    · exact hs _ (by decide +kernel)
  · rcases two i hi with rfl | rfl
    · exact hs _ (ce_el0 j (List.mem_range.mpr hj))
    · exact hs _ (ce_el1 j (List.mem_range.mpr hj))
  · rcases two i hi with rfl | rfl
    · rcases two j hj with rfl | rfl
      · exact absurd rfl hij
      · exact Or.inl (hs _ (by decide +kernel))
    · rcases two j hj with rfl | rfl
      · exact Or.inr (hs _ (by decide +kernel))
      · exact absurd rfl hij
theorem ce_facts {l : Launch} {s : State} {b : Nat} (hts : ∀ w ∈ lw_tbl, w.before #[Value.ref b] s = true) (hgv : (Jvm.Cond.and given_1 narrow_1).before #[Value.ref b] s = true) : ∃ X : ch_X, X.1 = l ∧ X.2.2.2.2.1 = s.heap ∧ X.2.2.2.1 102 = b ∧ ch_K X s ∧ cn_NS X s := by
  have hT : ∀ w ∈ ch_T, w.before #[Value.ref b] s = true := fun w h => hts w (ch_T_lw h)
  have hs := flat_of_before _ hgv
  obtain ⟨D, hD⟩ := ce_D hT
  obtain ⟨c1, a1, r1⟩ := ce_arr (hT _ wc_aint)
  obtain ⟨c2, a2, r2⟩ := ce_arr (hT _ wc_along)
  obtain ⟨c3, a3, r3⟩ := ce_arr (hT _ wc_aboolean)
  have hA : ∀ a : Nat, a < s.heap.size → ¬ s.heap.size ≤ a := fun a h => Nat.not_le.mpr h
  obtain ⟨adK, adV, hS, hE⟩ := ce_text (A := fun q => s.heap.size ≤ q) hgv hA
  have hZ : va_Z "java/lang/String" "COMPACT_STRINGS" "Z" (.int 1) (fun q => s.heap.size ≤ q) s s.heap := va_Zof (hts _ (by decide +kernel)) (hts _ (by decide +kernel)) (va_eqi (hs _ (by decide +kernel))) hA
  have hZq : va_Zq "jdk/internal/util/Preconditions" "SIOOBE_FORMATTER" "Ljava/util/function/BiFunction;" (fun q => s.heap.size ≤ q) s s.heap := va_Zqof (hts _ (by decide +kernel)) (hts _ (by decide +kernel)) (hs _ (by decide +kernel)) hA
  have hR0 : vk_R "CharredRoll$Script" 100 ch_tx0 (adK 0) s := vk_R.of (A := #[Value.ref b]) (hts _ (by decide +kernel)) (hE 0 (by decide))
  have hR1 : vk_R "CharredRoll$Script" 120 ch_tx1 (adK 1) s := vk_R.of (A := #[Value.ref b]) (hts _ (by decide +kernel)) (hE 1 (by decide))
  have main : ∀ t : Nat, (va_Z "jdk/internal/util/Preconditions" "SIOOBE_FORMATTER" "Ljava/util/function/BiFunction;" .null (fun q => s.heap.size ≤ q) s s.heap ∨ va_Z "jdk/internal/util/Preconditions" "SIOOBE_FORMATTER" "Ljava/util/function/BiFunction;" (.ref t) (fun q => s.heap.size ≤ q) s s.heap) → ∃ X : ch_X, X.1 = l ∧ X.2.2.2.2.1 = s.heap ∧ X.2.2.2.1 102 = b ∧ ch_K X s ∧ cn_NS X s := by
    intro t ht
    refine ⟨(l, D, (fun ty => match ty with | .int => c1 | .long => c2 | _ => c3), (fun k => if k = 97 then adK 0 else if k = 98 then adK 1 else if k = 99 then adV 0 else if k = 100 then adV 1 else if k = 101 then t else b), s.heap, []), rfl, rfl, rfl, ⟨hD, fun k q hk => ?_⟩, ch_Nw.of hts, ⟨hR0, hR1⟩, ⟨fun i hi => ?_, fun i j hi hj e => ?_⟩, hZ, ht⟩
    · match k with
      | 0 => cases hk; exact ⟨a1, r1⟩
      | 1 => cases hk; exact ⟨a2, r2⟩
      | 2 => cases hk; exact ⟨a3, r3⟩
      | n + 3 => cases hk
    · rcases (by omega : i = 0 ∨ i = 1) with rfl | rfl
      · exact hS.1 0 (by decide)
      · exact hS.1 1 (by decide)
    · rcases (by omega : i = 0 ∨ i = 1) with rfl | rfl
      · rcases (by omega : j = 0 ∨ j = 1) with rfl | rfl
        · rfl
        · exact hS.2 0 1 (by decide) (by decide) e
      · rcases (by omega : j = 0 ∨ j = 1) with rfl | rfl
        · exact hS.2 1 0 (by decide) (by decide) e
        · rfl
  rcases hZq with h | ⟨t, h⟩
  · exact main 0 (Or.inl h)
  · exact main t (Or.inr h)
theorem ce_locs {X : ch_X} {n : Nat} {f : Nat → Int32} {pc : Nat} {L L' : List (Nat × Value)} {St : List Value} {cells slots : Nat} {ws : va_W} (ks : List Nat) (h : lv_pick L ks = L') (k : ce_At X n f pc L' St cells slots ws) : ce_At X n f pc L St cells slots ws := by
  intro p e s m args below meth c E H locs ls hP hD hS hl
  exact k p e s m args below meth c E H locs ls hP hD hS (lv_sub hl ks h)
theorem ce_eqw {X : ch_X} {n : Nat} {f : Nat → Int32} {pc : Nat} {L : List (Nat × Value)} {St : List Value} {cells slots : Nat} {ws ws' : va_W} (h : ws = ws') (k : ce_At X n f pc L St cells slots ws') : ce_At X n f pc L St cells slots ws := by rw [h]; exact k
theorem z_rng {wr : va_W} {x : Nat × va_E} {n : Nat} (h : wr.length = n) : (List.range n).map (fun i => (wr ++ [x])[i]?) = wr.map some := by
  subst h
  refine List.ext_getElem? (fun i => ?_)
  rw [List.getElem?_map, List.getElem?_map]
  by_cases hi : i < wr.length
  · rw [List.getElem?_range hi, List.getElem?_eq_getElem hi]
    simp [List.getElem?_append_left hi, List.getElem?_eq_getElem hi]
  · rw [List.getElem?_eq_none (by simpa using hi), List.getElem?_eq_none (by simpa using hi)]
    rfl
theorem z_last {wr : va_W} {x : Nat × va_E} {n : Nat} (h : wr.length = n) : (wr ++ [x])[n]? = some x := by
  subst h
  simp
theorem z_of32 (x : Int32) : ∃ i : Int, ck_i i ∧ x = Int32.ofInt i := ⟨x.toInt, ck_rng x, (Int32.ofInt_toInt x).symm⟩

set_option maxRecDepth 8000 in
theorem L_start {X : ch_X} {n : Nat} {f : Nat → Int32} (hn : n < 2147483648) : ce_At X n f 0 [(0, .ref (X.2.2.2.1 102))] [] 0 0 [] := by
  obtain ⟨i1, hi1, e1⟩ := z_of32 (cl_cell f n 0)
  obtain ⟨i2, hi2, e2⟩ := z_of32 (cl_cell f n 1)
  obtain ⟨A, hA, hA1⟩ : ∃ A : Nat, (3 ≤ A ∧ A ≤ 6) ∧ max 3 (min 6 i1) = (A : Int) := ⟨(max 3 (min 6 i1)).toNat, by omega, by omega⟩
  obtain ⟨R, hR, hR1⟩ : ∃ R : Nat, (4 ≤ R ∧ R ≤ 12) ∧ max 4 (min 12 i2) = (R : Int) := ⟨(max 4 (min 12 i2)).toNat, by omega, by omega⟩
  refine ce_new (ws' := fun q => [(q, .inr (11, [.null, .null, .null, .null, .null, .null, .null]))]) dL_law_0 nw_L_7 (by decide) (by decide) (fun _ => rfl) (fun q => ?_)
  refine ce_dup dL_law_3 ?_
  refine ce_aload_n 0 0 dL_law_4 rfl rfl ?_
  refine ce_iconst (Int32.ofNat 0) dL_law_5 rfl ?_
  refine ce_cell 0 dL_law_6 cs_L_9 hn (by decide) (Nat.le_of_ble_eq_true rfl) (by decide) (by decide) ?_
  refine ce_aload_n 0 0 dL_law_9 rfl rfl ?_
  refine ce_iconst (Int32.ofNat 1) dL_law_10 rfl ?_
  refine ce_cell 1 dL_law_11 cs_L_9 hn (by decide) (Nat.le_of_ble_eq_true rfl) (by decide) (by decide) ?_
  rw [e1, e2]
  refine ce_init (dz := 4) (wc := [(q, .inr (11, [.null, .null, .null, .null, .null, .null, .null]))]) (wr := []) [.int (Int32.ofInt i1), .int (Int32.ofInt i2)] [0] [] dL_law_14 ci_L_15 rfl rfl (Nat.le_of_ble_eq_true rfl) rfl rfl rfl rfl rfl (by decide) (by decide) (by decide) (by decide) (n_X11 (d := 0) q hi1 hi2 hA hR hA1 hR1) (fun w1 h1 => ?_)
  obtain ⟨a1, wz, hq1, hz, hw1⟩ := h1
  refine ce_eqw (ws' := ch_ws (cn_X X a1 (cz11 A R)) (ck_w (zw11 A R wz))) (by rw [hw1, List.nil_append]) ?_
  clear hw1
  refine ce_astore_n 1 dL_law_17 rfl (by decide) rfl ?_
  have hlen : (ch_ws (cn_X X a1 (cz11 A R)) (ck_w (zw11 A R wz))).length = 76 := by
    rw [ch_ws, List.length_mapIdx]; rfl
  generalize hW : ch_ws (cn_X X a1 (cz11 A R)) (ck_w (zw11 A R wz)) = W1 at hlen ⊢
  refine ce_new (ws' := fun q2 => W1 ++ [(q2, .inr (12, [.int 0, .int 0, .int 0, .null, .null, .null, .null, .null, .null, .null, .null, .null, .null, .null, .null, .null, .int 0, .int 0, .int 0, .int 0, .int 0, .int 0, .int 0, .long 0, .int 0, .int 0, .int 0, .int 0, .null, .int 0, .int 0, .int 0, .null, .null, .null, .null, .null, .null]))]) dL_law_18 nw_L_18 (by decide) (by decide) (fun _ => rfl) (fun q2 => ?_)
  refine ce_dup dL_law_21 ?_
  refine ce_aload_n 0 1 dL_law_22 rfl rfl ?_
  refine ce_iconst (Int32.ofNat 0) dL_law_23 rfl ?_
  refine ce_cell 0 dL_law_24 cs_L_9 hn (by decide) (Nat.le_of_ble_eq_true rfl) (by decide) (by decide) ?_
  refine ce_aload_n 0 1 dL_law_27 rfl rfl ?_
  refine ce_iconst (Int32.ofNat 1) dL_law_28 rfl ?_
  refine ce_cell 1 dL_law_29 cs_L_9 hn (by decide) (Nat.le_of_ble_eq_true rfl) (by decide) (by decide) ?_
  rw [e1, e2]
  refine ce_init (dz := 3) (wc := [(q2, .inr (12, [.int 0, .int 0, .int 0, .null, .null, .null, .null, .null, .null, .null, .null, .null, .null, .null, .null, .null, .int 0, .int 0, .int 0, .int 0, .int 0, .int 0, .int 0, .long 0, .int 0, .int 0, .int 0, .int 0, .null, .int 0, .int 0, .int 0, .null, .null, .null, .null, .null, .null]))]) (wr := W1) [.int (Int32.ofInt i1), .int (Int32.ofInt i2)] [76] (List.range 76) dL_law_32 ci_L_20 rfl rfl (Nat.le_of_ble_eq_true rfl) (by rw [List.map_cons, List.map_nil, z_last hlen]; rfl) (by rw [List.filterMap_cons, List.filterMap_nil, z_last hlen]) (z_rng hlen) rfl (by decide +kernel) (by decide +kernel) (by decide) (by decide) (by decide) (n_X12 (d := 0) q2 hi1 hi2 hA hR hA1 hR1) (fun w1 h1 => ?_)
  obtain ⟨a2, wm, hq2, hm, hw2⟩ := h1
  refine ce_eqw (ws' := ch_ws (cn_X X (zad a1 a2) (ch_sh A R)) (ck_w (zw A R wz wm))) (by rw [hw2, ← hW]; exact zE97) ?_
  clear hw2 hW
  refine ce_astore_n 2 dL_law_35 rfl (by decide) rfl ?_
  refine ce_iconst (Int32.ofInt 2) dL_law_36 rfl ?_
  refine ce_istore_n 3 dL_law_37 rfl (by decide) rfl ?_
  subst hq1
  subst hq2
  refine ce_locs (L' := [(0, .ref (X.2.2.2.1 102)), (1, .ref (a1 0)), (2, .ref (a2 0)), (3, .int (Int32.ofInt 2))]) [3, 2, 1, 0] rfl ?_
  refine ce_loop (ad := zad a1 a2) (sh := ch_sh A R) (w := zw A R wz wm) (L' := [some (.inr (.inr 102)), some (.inr (.inr 0)), some (.inr (.inr 76)), some (.inl 2)]) (z_okI (zw_i hA hR hz hm)) ⟨trivial, trivial, trivial, (show ck_i 2 by decide), trivial⟩ rfl rfl (by decide) (by decide) (fun hO => ?_)
  exact L_loop (g := (X.1, X.2.1, X.2.2.1, (fun k => if k < 97 then zad a1 a2 k else X.2.2.2.1 k), X.2.2.2.2.1)) ⟨hO, hA.1, hA.2, hR.1, hR.2⟩ hn n 2 _ (by omega) (by omega) (zJ0 hA hR hz hm)
/-- from the entry, for every script that the claim allows, the law comes to its end with true -/
theorem whole_start {p : Program} {e : Env} {s : State} {m : MethodId} {below : List Frame} {meth : Method} {c : Code} (l : Launch) {b L : Nat} {xs : Nat → Int32} (hL : L ≤ 3074) (C0 : lw_At p s m meth c b L xs) : W p l e room_1 s m #[Value.ref b] below meth c s.heap [] 0 0 (lw_Z below #[Value.ref b] s) (entryFrame m ([Value.ref b] : List Value).toArray 4) := by
  obtain ⟨hx, hb, hr, hml, hown, hts, hX, hbl, hlocks, hgv⟩ := C0
  obtain ⟨X, rfl, hB, hb2, hK, hN⟩ := ce_facts (l := l) hts hgv
  have hl := lv_entry [.ref b] (n := 4) (Nat.le_of_ble_eq_true rfl)
  rw [lg_entry_eq]
  generalize (lg_sl [Value.ref b] ++ List.replicate (4 - (lg_sl [Value.ref b]).length) Slot.unset).toArray = ls at hl ⊢
  subst hb2
  exact L_start (X := X) (n := L) (f := xs) (by omega) p e s m _ below meth c ⟨hx, hb, hr, hml, fun w h => hts w (ch_T_lw h), hown, hlocks, hK, hB, hN, hX, hbl⟩ s.heap [] ls (fun k q h => (by cases h)) ⟨(fun i j p q h => (by cases h)), (fun k q h => (by cases h))⟩ va_S.rf hl
