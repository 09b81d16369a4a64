/-! ===== printed by gen/ctor.py: constructors without loops ===== -/
theorem wc_oc : Cond.code objectInit ⟨#[0xb1]⟩ 1 none ∈ ch_T := ch_mem (ch_t1 30 rfl) rfl
theorem wc_oi : Cond.instanceMethod objectInit ∈ ch_T := ch_mem (ch_t1 29 rfl) rfl
theorem wc_aint : Cond.arrayClass .int ∈ ch_T := ch_mem (ch_t1 59 rfl) rfl
theorem wc_along : Cond.arrayClass .long ∈ ch_T := ch_mem (ch_t2 214 rfl) rfl
theorem wc_aboolean : Cond.arrayClass .boolean ∈ ch_T := ch_mem (ch_t2 72 rfl) rfl
theorem cn_FQof {own : String} {index ci j N : Nat} {C : String} {T : u_T} {ty : FieldType} {fin : Bool} (h : ch_FL own index ci j) (hc : vwCl[ci]? = some (C, T, N)) (hfin : (T j).2.2.2 = fin) (hdecl : (T j).1 = own) (hdd : parseFieldDescriptor (T j).2.2.1 = some ty) (hty : ∃ ty0 : Nat → FieldType, ∀ k, k < N → parseFieldDescriptor (T k).2.2.1 = some (ty0 k)) (hnm : ∀ a, a < N → ∀ b, b < N → a ≠ b → (T a).2.1 ≠ (T b).2.1) : cn_FQ own index ci j ty fin := by
  obtain ⟨C1, T1, N1, h1, h2, h3, h4⟩ := h
  rw [hc] at h1
  cases h1
  exact ⟨C, T, N, hc, h2, h3, h4, hfin, hdecl, hdd, hty, hnm⟩
theorem fq_X9_9 : cn_FQ RX9 9 9 0 (tyX9 0) true := cn_FQof fl_X9_9 rfl rfl rfl (tyX9_ok 0 (by decide)) ⟨tyX9, tyX9_ok⟩ nmX9
theorem fq_X9_15 : cn_FQ RX9 15 9 2 (tyX9 2) false := cn_FQof fl_X9_15 rfl rfl rfl (tyX9_ok 2 (by decide)) ⟨tyX9, tyX9_ok⟩ nmX9
theorem n_X9 {X : ch_X} {d : Nat} (b : Nat) : cn_Ex X (d + 1) 1 30 mX9_init [.ref b] [(b, .inr (9, [.null, .int 0, .int 0]))] (fun ws' => ∃ q1, ws' = [(b, .inr (9, [.ref q1, .int 0, .int 5])), (q1, .inl (X.2.2.1 .int, 30, .inl (fun _ => 0)))]) := by
  refine cn_entry [(0, .ref b)] (by decide) (Nat.le_of_ble_eq_true rfl) rfl ?_
  refine cn_aload_n 0 0 (ch_at tX9_init 0 rfl) rfl rfl ?_
  refine cn_objInit (ch_at tX9_init 1 rfl) (ch_mem (ch_t1 42 rfl) rfl) wc_oi wc_oc (by omega) ?_
  refine cn_aload_n 0 0 (ch_at tX9_init 2 rfl) rfl rfl ?_
  refine cn_bipush (30) (ch_at tX9_init 3 rfl) rfl ?_
  refine cn_newI 30 (ws' := fun q1 => [(b, .inr (9, [.null, .int 0, .int 0])), (q1, .inl (X.2.2.1 .int, 30, .inl (fun _ => 0)))]) (ch_at tX9_init 4 rfl) wc_aint (by decide) (by decide) (by decide) (by decide) (by decide) (fun _ => rfl) (fun q1 => ?_)
  refine cn_putF (ws' := [(b, .inr (9, [.ref q1, .int 0, .int 0])), (q1, .inl (X.2.2.1 .int, 30, .inl (fun _ => 0)))]) 0 (ch_at tX9_init 5 rfl) fq_X9_9 rfl rfl rfl rfl (Nat.le_of_ble_eq_true rfl) rfl ?_
  refine cn_aload_n 0 0 (ch_at tX9_init 6 rfl) rfl rfl ?_
  refine cn_iconst (5) (ch_at tX9_init 7 rfl) rfl ?_
  refine cn_put (ws' := [(b, .inr (9, [.ref q1, .int 0, .int 5])), (q1, .inl (X.2.2.1 .int, 30, .inl (fun _ => 0)))]) 0 (ch_at tX9_init 8 rfl) fq_X9_15 rfl rfl rfl (Nat.le_of_ble_eq_true rfl) rfl ?_
  exact cn_ret (ch_at tX9_init 9 rfl) rfl (by decide) (by decide) ⟨q1, rfl⟩
theorem fq_X2_9 : cn_FQ RX2 9 2 0 (tyX2 0) true := cn_FQof fl_X2_9 rfl rfl rfl (tyX2_ok 0 (by decide)) ⟨tyX2, tyX2_ok⟩ nmX2
theorem fq_X2_15 : cn_FQ RX2 15 2 1 (tyX2 1) true := cn_FQof fl_X2_15 rfl rfl rfl (tyX2_ok 1 (by decide)) ⟨tyX2, tyX2_ok⟩ nmX2
theorem fq_X2_18 : cn_FQ RX2 18 2 3 (tyX2 3) true := cn_FQof fl_X2_18 rfl rfl rfl (tyX2_ok 3 (by decide)) ⟨tyX2, tyX2_ok⟩ nmX2
theorem fq_X2_21 : cn_FQ RX2 21 2 4 (tyX2 4) true := cn_FQof fl_X2_21 rfl rfl rfl (tyX2_ok 4 (by decide)) ⟨tyX2, tyX2_ok⟩ nmX2
theorem fq_X2_24 : cn_FQ RX2 24 2 6 (tyX2 6) false := cn_FQof fl_X2_24 rfl rfl rfl (tyX2_ok 6 (by decide)) ⟨tyX2, tyX2_ok⟩ nmX2
theorem fq_X2_28 : cn_FQ RX2 28 2 7 (tyX2 7) false := cn_FQof fl_X2_28 rfl rfl rfl (tyX2_ok 7 (by decide)) ⟨tyX2, tyX2_ok⟩ nmX2
theorem n_X2 {X : ch_X} {d : Nat} (b : Nat) : cn_Ex X (d + 1) 4 72 mX2_init [.ref b] [(b, .inr (2, [.null, .null, .int 0, .null, .null, .int 0, .int 0, .int 0]))] (fun ws' => ∃ q1 q2 q3 q4, ws' = [(b, .inr (2, [.ref q1, .ref q2, .int 0, .ref q3, .ref q4, .int 0, .int 3, .int 1])), (q1, .inl (X.2.2.1 .int, 12, .inl (fun _ => 0))), (q2, .inl (X.2.2.1 .int, 12, .inl (fun _ => 0))), (q3, .inl (X.2.2.1 .int, 36, .inl (fun _ => 0))), (q4, .inl (X.2.2.1 .int, 12, .inl (fun _ => 0)))]) := by
  refine cn_entry [(0, .ref b)] (by decide) (Nat.le_of_ble_eq_true rfl) rfl ?_
  refine cn_aload_n 0 0 (ch_at tX2_init 0 rfl) rfl rfl ?_
  refine cn_objInit (ch_at tX2_init 1 rfl) (ch_mem (ch_t1 101 rfl) rfl) wc_oi wc_oc (by omega) ?_
  refine cn_aload_n 0 0 (ch_at tX2_init 2 rfl) rfl rfl ?_
  refine cn_bipush (12) (ch_at tX2_init 3 rfl) rfl ?_
  refine cn_newI 12 (ws' := fun q1 => [(b, .inr (2, [.null, .null, .int 0, .null, .null, .int 0, .int 0, .int 0])), (q1, .inl (X.2.2.1 .int, 12, .inl (fun _ => 0)))]) (ch_at tX2_init 4 rfl) wc_aint (by decide) (by decide) (by decide) (by decide) (by decide) (fun _ => rfl) (fun q1 => ?_)
  refine cn_putF (ws' := [(b, .inr (2, [.ref q1, .null, .int 0, .null, .null, .int 0, .int 0, .int 0])), (q1, .inl (X.2.2.1 .int, 12, .inl (fun _ => 0)))]) 0 (ch_at tX2_init 5 rfl) fq_X2_9 rfl rfl rfl rfl (Nat.le_of_ble_eq_true rfl) rfl ?_
  refine cn_aload_n 0 0 (ch_at tX2_init 6 rfl) rfl rfl ?_
  refine cn_bipush (12) (ch_at tX2_init 7 rfl) rfl ?_
  refine cn_newI 12 (ws' := fun q2 => [(b, .inr (2, [.ref q1, .null, .int 0, .null, .null, .int 0, .int 0, .int 0])), (q1, .inl (X.2.2.1 .int, 12, .inl (fun _ => 0))), (q2, .inl (X.2.2.1 .int, 12, .inl (fun _ => 0)))]) (ch_at tX2_init 8 rfl) wc_aint (by decide) (by decide) (by decide) (by decide) (by decide) (fun _ => rfl) (fun q2 => ?_)
  refine cn_putF (ws' := [(b, .inr (2, [.ref q1, .ref q2, .int 0, .null, .null, .int 0, .int 0, .int 0])), (q1, .inl (X.2.2.1 .int, 12, .inl (fun _ => 0))), (q2, .inl (X.2.2.1 .int, 12, .inl (fun _ => 0)))]) 0 (ch_at tX2_init 9 rfl) fq_X2_15 rfl rfl rfl rfl (Nat.le_of_ble_eq_true rfl) rfl ?_
  refine cn_aload_n 0 0 (ch_at tX2_init 10 rfl) rfl rfl ?_
  refine cn_bipush (36) (ch_at tX2_init 11 rfl) rfl ?_
  refine cn_newI 36 (ws' := fun q3 => [(b, .inr (2, [.ref q1, .ref q2, .int 0, .null, .null, .int 0, .int 0, .int 0])), (q1, .inl (X.2.2.1 .int, 12, .inl (fun _ => 0))), (q2, .inl (X.2.2.1 .int, 12, .inl (fun _ => 0))), (q3, .inl (X.2.2.1 .int, 36, .inl (fun _ => 0)))]) (ch_at tX2_init 12 rfl) wc_aint (by decide) (by decide) (by decide) (by decide) (by decide) (fun _ => rfl) (fun q3 => ?_)
  refine cn_putF (ws' := [(b, .inr (2, [.ref q1, .ref q2, .int 0, .ref q3, .null, .int 0, .int 0, .int 0])), (q1, .inl (X.2.2.1 .int, 12, .inl (fun _ => 0))), (q2, .inl (X.2.2.1 .int, 12, .inl (fun _ => 0))), (q3, .inl (X.2.2.1 .int, 36, .inl (fun _ => 0)))]) 0 (ch_at tX2_init 13 rfl) fq_X2_18 rfl rfl rfl rfl (Nat.le_of_ble_eq_true rfl) rfl ?_
  refine cn_aload_n 0 0 (ch_at tX2_init 14 rfl) rfl rfl ?_
  refine cn_bipush (12) (ch_at tX2_init 15 rfl) rfl ?_
  refine cn_newI 12 (ws' := fun q4 => [(b, .inr (2, [.ref q1, .ref q2, .int 0, .ref q3, .null, .int 0, .int 0, .int 0])), (q1, .inl (X.2.2.1 .int, 12, .inl (fun _ => 0))), (q2, .inl (X.2.2.1 .int, 12, .inl (fun _ => 0))), (q3, .inl (X.2.2.1 .int, 36, .inl (fun _ => 0))), (q4, .inl (X.2.2.1 .int, 12, .inl (fun _ => 0)))]) (ch_at tX2_init 16 rfl) wc_aint (by decide) (by decide) (by decide) (by decide) (by decide) (fun _ => rfl) (fun q4 => ?_)
  refine cn_putF (ws' := [(b, .inr (2, [.ref q1, .ref q2, .int 0, .ref q3, .ref q4, .int 0, .int 0, .int 0])), (q1, .inl (X.2.2.1 .int, 12, .inl (fun _ => 0))), (q2, .inl (X.2.2.1 .int, 12, .inl (fun _ => 0))), (q3, .inl (X.2.2.1 .int, 36, .inl (fun _ => 0))), (q4, .inl (X.2.2.1 .int, 12, .inl (fun _ => 0)))]) 0 (ch_at tX2_init 17 rfl) fq_X2_21 rfl rfl rfl rfl (Nat.le_of_ble_eq_true rfl) rfl ?_
  refine cn_aload_n 0 0 (ch_at tX2_init 18 rfl) rfl rfl ?_
  refine cn_iconst (3) (ch_at tX2_init 19 rfl) rfl ?_
  refine cn_put (ws' := [(b, .inr (2, [.ref q1, .ref q2, .int 0, .ref q3, .ref q4, .int 0, .int 3, .int 0])), (q1, .inl (X.2.2.1 .int, 12, .inl (fun _ => 0))), (q2, .inl (X.2.2.1 .int, 12, .inl (fun _ => 0))), (q3, .inl (X.2.2.1 .int, 36, .inl (fun _ => 0))), (q4, .inl (X.2.2.1 .int, 12, .inl (fun _ => 0)))]) 0 (ch_at tX2_init 20 rfl) fq_X2_24 rfl rfl rfl (Nat.le_of_ble_eq_true rfl) rfl ?_
  refine cn_aload_n 0 0 (ch_at tX2_init 21 rfl) rfl rfl ?_
  refine cn_iconst (1) (ch_at tX2_init 22 rfl) rfl ?_
  refine cn_put (ws' := [(b, .inr (2, [.ref q1, .ref q2, .int 0, .ref q3, .ref q4, .int 0, .int 3, .int 1])), (q1, .inl (X.2.2.1 .int, 12, .inl (fun _ => 0))), (q2, .inl (X.2.2.1 .int, 12, .inl (fun _ => 0))), (q3, .inl (X.2.2.1 .int, 36, .inl (fun _ => 0))), (q4, .inl (X.2.2.1 .int, 12, .inl (fun _ => 0)))]) 0 (ch_at tX2_init 23 rfl) fq_X2_28 rfl rfl rfl (Nat.le_of_ble_eq_true rfl) rfl ?_
  exact cn_ret (ch_at tX2_init 24 rfl) rfl (by decide) (by decide) ⟨q1, q2, q3, q4, rfl⟩
theorem fq_X3_11 : cn_FQ RX3 11 3 0 (tyX3 0) true := cn_FQof fl_X3_11 rfl rfl rfl (tyX3_ok 0 (by decide)) ⟨tyX3, tyX3_ok⟩ nmX3
theorem fq_X3_15 : cn_FQ RX3 15 3 1 (tyX3 1) true := cn_FQof fl_X3_15 rfl rfl rfl (tyX3_ok 1 (by decide)) ⟨tyX3, tyX3_ok⟩ nmX3
theorem fq_X3_18 : cn_FQ RX3 18 3 2 (tyX3 2) true := cn_FQof fl_X3_18 rfl rfl rfl (tyX3_ok 2 (by decide)) ⟨tyX3, tyX3_ok⟩ nmX3
theorem fq_X3_21 : cn_FQ RX3 21 3 4 (tyX3 4) true := cn_FQof fl_X3_21 rfl rfl rfl (tyX3_ok 4 (by decide)) ⟨tyX3, tyX3_ok⟩ nmX3
theorem fq_X3_24 : cn_FQ RX3 24 3 5 (tyX3 5) true := cn_FQof fl_X3_24 rfl rfl rfl (tyX3_ok 5 (by decide)) ⟨tyX3, tyX3_ok⟩ nmX3
theorem fq_X3_27 : cn_FQ RX3 27 3 6 (tyX3 6) true := cn_FQof fl_X3_27 rfl rfl rfl (tyX3_ok 6 (by decide)) ⟨tyX3, tyX3_ok⟩ nmX3
theorem n_X3 {X : ch_X} {d : Nat} (b : Nat) : cn_Ex X (d + 1) 6 854 mX3_init [.ref b] [(b, .inr (3, [.null, .null, .null, .int 0, .null, .null, .null]))] (fun ws' => ∃ q1 q2 q3 q4 q5 q6, ws' = [(b, .inr (3, [.ref q1, .ref q2, .ref q3, .int 0, .ref q4, .ref q5, .ref q6])), (q1, .inl (X.2.2.1 .int, 16, .inl (fun _ => 0))), (q2, .inl (X.2.2.1 .int, 16, .inl (fun _ => 0))), (q3, .inl (X.2.2.1 .int, 16, .inl (fun _ => 0))), (q4, .inl (X.2.2.1 .int, 4, .inl (fun _ => 0))), (q5, .inl (X.2.2.1 .int, 401, .inl (fun _ => 0))), (q6, .inl (X.2.2.1 .int, 401, .inl (fun _ => 0)))]) := by
  refine cn_entry [(0, .ref b)] (by decide) (Nat.le_of_ble_eq_true rfl) rfl ?_
  refine cn_aload_n 0 0 (ch_at tX3_init 0 rfl) rfl rfl ?_
  refine cn_objInit (ch_at tX3_init 1 rfl) (ch_mem (ch_t1 144 rfl) rfl) wc_oi wc_oc (by omega) ?_
  refine cn_aload_n 0 0 (ch_at tX3_init 2 rfl) rfl rfl ?_
  refine cn_bipush (16) (ch_at tX3_init 3 rfl) rfl ?_
  refine cn_newI 16 (ws' := fun q1 => [(b, .inr (3, [.null, .null, .null, .int 0, .null, .null, .null])), (q1, .inl (X.2.2.1 .int, 16, .inl (fun _ => 0)))]) (ch_at tX3_init 4 rfl) wc_aint (by decide) (by decide) (by decide) (by decide) (by decide) (fun _ => rfl) (fun q1 => ?_)
  refine cn_putF (ws' := [(b, .inr (3, [.ref q1, .null, .null, .int 0, .null, .null, .null])), (q1, .inl (X.2.2.1 .int, 16, .inl (fun _ => 0)))]) 0 (ch_at tX3_init 5 rfl) fq_X3_11 rfl rfl rfl rfl (Nat.le_of_ble_eq_true rfl) rfl ?_
  refine cn_aload_n 0 0 (ch_at tX3_init 6 rfl) rfl rfl ?_
  refine cn_bipush (16) (ch_at tX3_init 7 rfl) rfl ?_
  refine cn_newI 16 (ws' := fun q2 => [(b, .inr (3, [.ref q1, .null, .null, .int 0, .null, .null, .null])), (q1, .inl (X.2.2.1 .int, 16, .inl (fun _ => 0))), (q2, .inl (X.2.2.1 .int, 16, .inl (fun _ => 0)))]) (ch_at tX3_init 8 rfl) wc_aint (by decide) (by decide) (by decide) (by decide) (by decide) (fun _ => rfl) (fun q2 => ?_)
  refine cn_putF (ws' := [(b, .inr (3, [.ref q1, .ref q2, .null, .int 0, .null, .null, .null])), (q1, .inl (X.2.2.1 .int, 16, .inl (fun _ => 0))), (q2, .inl (X.2.2.1 .int, 16, .inl (fun _ => 0)))]) 0 (ch_at tX3_init 9 rfl) fq_X3_15 rfl rfl rfl rfl (Nat.le_of_ble_eq_true rfl) rfl ?_
  refine cn_aload_n 0 0 (ch_at tX3_init 10 rfl) rfl rfl ?_
  refine cn_bipush (16) (ch_at tX3_init 11 rfl) rfl ?_
  refine cn_newI 16 (ws' := fun q3 => [(b, .inr (3, [.ref q1, .ref q2, .null, .int 0, .null, .null, .null])), (q1, .inl (X.2.2.1 .int, 16, .inl (fun _ => 0))), (q2, .inl (X.2.2.1 .int, 16, .inl (fun _ => 0))), (q3, .inl (X.2.2.1 .int, 16, .inl (fun _ => 0)))]) (ch_at tX3_init 12 rfl) wc_aint (by decide) (by decide) (by decide) (by decide) (by decide) (fun _ => rfl) (fun q3 => ?_)
  refine cn_putF (ws' := [(b, .inr (3, [.ref q1, .ref q2, .ref q3, .int 0, .null, .null, .null])), (q1, .inl (X.2.2.1 .int, 16, .inl (fun _ => 0))), (q2, .inl (X.2.2.1 .int, 16, .inl (fun _ => 0))), (q3, .inl (X.2.2.1 .int, 16, .inl (fun _ => 0)))]) 0 (ch_at tX3_init 13 rfl) fq_X3_18 rfl rfl rfl rfl (Nat.le_of_ble_eq_true rfl) rfl ?_
  refine cn_aload_n 0 0 (ch_at tX3_init 14 rfl) rfl rfl ?_
  refine cn_iconst (4) (ch_at tX3_init 15 rfl) rfl ?_
  refine cn_newI 4 (ws' := fun q4 => [(b, .inr (3, [.ref q1, .ref q2, .ref q3, .int 0, .null, .null, .null])), (q1, .inl (X.2.2.1 .int, 16, .inl (fun _ => 0))), (q2, .inl (X.2.2.1 .int, 16, .inl (fun _ => 0))), (q3, .inl (X.2.2.1 .int, 16, .inl (fun _ => 0))), (q4, .inl (X.2.2.1 .int, 4, .inl (fun _ => 0)))]) (ch_at tX3_init 16 rfl) wc_aint (by decide) (by decide) (by decide) (by decide) (by decide) (fun _ => rfl) (fun q4 => ?_)
  refine cn_putF (ws' := [(b, .inr (3, [.ref q1, .ref q2, .ref q3, .int 0, .ref q4, .null, .null])), (q1, .inl (X.2.2.1 .int, 16, .inl (fun _ => 0))), (q2, .inl (X.2.2.1 .int, 16, .inl (fun _ => 0))), (q3, .inl (X.2.2.1 .int, 16, .inl (fun _ => 0))), (q4, .inl (X.2.2.1 .int, 4, .inl (fun _ => 0)))]) 0 (ch_at tX3_init 17 rfl) fq_X3_21 rfl rfl rfl rfl (Nat.le_of_ble_eq_true rfl) rfl ?_
  refine cn_aload_n 0 0 (ch_at tX3_init 18 rfl) rfl rfl ?_
  refine cn_sipush (401) (ch_at tX3_init 19 rfl) rfl ?_
  refine cn_newI 401 (ws' := fun q5 => [(b, .inr (3, [.ref q1, .ref q2, .ref q3, .int 0, .ref q4, .null, .null])), (q1, .inl (X.2.2.1 .int, 16, .inl (fun _ => 0))), (q2, .inl (X.2.2.1 .int, 16, .inl (fun _ => 0))), (q3, .inl (X.2.2.1 .int, 16, .inl (fun _ => 0))), (q4, .inl (X.2.2.1 .int, 4, .inl (fun _ => 0))), (q5, .inl (X.2.2.1 .int, 401, .inl (fun _ => 0)))]) (ch_at tX3_init 20 rfl) wc_aint (by decide) (by decide) (by decide) (by decide) (by decide) (fun _ => rfl) (fun q5 => ?_)
  refine cn_putF (ws' := [(b, .inr (3, [.ref q1, .ref q2, .ref q3, .int 0, .ref q4, .ref q5, .null])), (q1, .inl (X.2.2.1 .int, 16, .inl (fun _ => 0))), (q2, .inl (X.2.2.1 .int, 16, .inl (fun _ => 0))), (q3, .inl (X.2.2.1 .int, 16, .inl (fun _ => 0))), (q4, .inl (X.2.2.1 .int, 4, .inl (fun _ => 0))), (q5, .inl (X.2.2.1 .int, 401, .inl (fun _ => 0)))]) 0 (ch_at tX3_init 21 rfl) fq_X3_24 rfl rfl rfl rfl (Nat.le_of_ble_eq_true rfl) rfl ?_
  refine cn_aload_n 0 0 (ch_at tX3_init 22 rfl) rfl rfl ?_
  refine cn_sipush (401) (ch_at tX3_init 23 rfl) rfl ?_
  refine cn_newI 401 (ws' := fun q6 => [(b, .inr (3, [.ref q1, .ref q2, .ref q3, .int 0, .ref q4, .ref q5, .null])), (q1, .inl (X.2.2.1 .int, 16, .inl (fun _ => 0))), (q2, .inl (X.2.2.1 .int, 16, .inl (fun _ => 0))), (q3, .inl (X.2.2.1 .int, 16, .inl (fun _ => 0))), (q4, .inl (X.2.2.1 .int, 4, .inl (fun _ => 0))), (q5, .inl (X.2.2.1 .int, 401, .inl (fun _ => 0))), (q6, .inl (X.2.2.1 .int, 401, .inl (fun _ => 0)))]) (ch_at tX3_init 24 rfl) wc_aint (by decide) (by decide) (by decide) (by decide) (by decide) (fun _ => rfl) (fun q6 => ?_)
  refine cn_putF (ws' := [(b, .inr (3, [.ref q1, .ref q2, .ref q3, .int 0, .ref q4, .ref q5, .ref q6])), (q1, .inl (X.2.2.1 .int, 16, .inl (fun _ => 0))), (q2, .inl (X.2.2.1 .int, 16, .inl (fun _ => 0))), (q3, .inl (X.2.2.1 .int, 16, .inl (fun _ => 0))), (q4, .inl (X.2.2.1 .int, 4, .inl (fun _ => 0))), (q5, .inl (X.2.2.1 .int, 401, .inl (fun _ => 0))), (q6, .inl (X.2.2.1 .int, 401, .inl (fun _ => 0)))]) 0 (ch_at tX3_init 25 rfl) fq_X3_27 rfl rfl rfl rfl (Nat.le_of_ble_eq_true rfl) rfl ?_
  exact cn_ret (ch_at tX3_init 26 rfl) rfl (by decide) (by decide) ⟨q1, q2, q3, q4, q5, q6, rfl⟩
theorem fq_X6_9 : cn_FQ RX6 9 6 0 (tyX6 0) true := cn_FQof fl_X6_9 rfl rfl rfl (tyX6_ok 0 (by decide)) ⟨tyX6, tyX6_ok⟩ nmX6
theorem fq_X6_15 : cn_FQ RX6 15 6 2 (tyX6 2) false := cn_FQof fl_X6_15 rfl rfl rfl (tyX6_ok 2 (by decide)) ⟨tyX6, tyX6_ok⟩ nmX6
theorem fq_X6_19 : cn_FQ RX6 19 6 3 (tyX6 3) false := cn_FQof fl_X6_19 rfl rfl rfl (tyX6_ok 3 (by decide)) ⟨tyX6, tyX6_ok⟩ nmX6
theorem fq_X6_22 : cn_FQ RX6 22 6 15 (tyX6 15) true := cn_FQof fl_X6_22 rfl rfl rfl (tyX6_ok 15 (by decide)) ⟨tyX6, tyX6_ok⟩ nmX6
theorem n_X6 {X : ch_X} {d : Nat} (b : Nat) : cn_Ex X (d + 1) 2 364 mX6_init [.ref b] [(b, .inr (6, [.null, .int 0, .int 0, .int 0, .int 0, .int 0, .int 0, .int 0, .int 0, .int 0, .int 0, .int 0, .int 0, .int 0, .int 0, .null, .int 0]))] (fun ws' => ∃ q1 q2, ws' = [(b, .inr (6, [.ref q1, .int 0, .int (-1), .int (-1), .int 0, .int 0, .int 0, .int 0, .int 0, .int 0, .int 0, .int 0, .int 0, .int 0, .int 0, .ref q2, .int 0])), (q1, .inl (X.2.2.1 .int, 300, .inl (fun _ => 0))), (q2, .inl (X.2.2.1 .int, 64, .inl (fun _ => 0)))]) := by
  refine cn_entry [(0, .ref b)] (by decide) (Nat.le_of_ble_eq_true rfl) rfl ?_
  refine cn_aload_n 0 0 (ch_at tX6_init 0 rfl) rfl rfl ?_
  refine cn_objInit (ch_at tX6_init 1 rfl) (ch_mem (ch_t2 100 rfl) rfl) wc_oi wc_oc (by omega) ?_
  refine cn_aload_n 0 0 (ch_at tX6_init 2 rfl) rfl rfl ?_
  refine cn_sipush (300) (ch_at tX6_init 3 rfl) rfl ?_
  refine cn_newI 300 (ws' := fun q1 => [(b, .inr (6, [.null, .int 0, .int 0, .int 0, .int 0, .int 0, .int 0, .int 0, .int 0, .int 0, .int 0, .int 0, .int 0, .int 0, .int 0, .null, .int 0])), (q1, .inl (X.2.2.1 .int, 300, .inl (fun _ => 0)))]) (ch_at tX6_init 4 rfl) wc_aint (by decide) (by decide) (by decide) (by decide) (by decide) (fun _ => rfl) (fun q1 => ?_)
  refine cn_putF (ws' := [(b, .inr (6, [.ref q1, .int 0, .int 0, .int 0, .int 0, .int 0, .int 0, .int 0, .int 0, .int 0, .int 0, .int 0, .int 0, .int 0, .int 0, .null, .int 0])), (q1, .inl (X.2.2.1 .int, 300, .inl (fun _ => 0)))]) 0 (ch_at tX6_init 5 rfl) fq_X6_9 rfl rfl rfl rfl (Nat.le_of_ble_eq_true rfl) rfl ?_
  refine cn_aload_n 0 0 (ch_at tX6_init 6 rfl) rfl rfl ?_
  refine cn_iconst (-1) (ch_at tX6_init 7 rfl) rfl ?_
  refine cn_put (ws' := [(b, .inr (6, [.ref q1, .int 0, .int (-1), .int 0, .int 0, .int 0, .int 0, .int 0, .int 0, .int 0, .int 0, .int 0, .int 0, .int 0, .int 0, .null, .int 0])), (q1, .inl (X.2.2.1 .int, 300, .inl (fun _ => 0)))]) 0 (ch_at tX6_init 8 rfl) fq_X6_15 rfl rfl rfl (Nat.le_of_ble_eq_true rfl) rfl ?_
  refine cn_aload_n 0 0 (ch_at tX6_init 9 rfl) rfl rfl ?_
  refine cn_iconst (-1) (ch_at tX6_init 10 rfl) rfl ?_
  refine cn_put (ws' := [(b, .inr (6, [.ref q1, .int 0, .int (-1), .int (-1), .int 0, .int 0, .int 0, .int 0, .int 0, .int 0, .int 0, .int 0, .int 0, .int 0, .int 0, .null, .int 0])), (q1, .inl (X.2.2.1 .int, 300, .inl (fun _ => 0)))]) 0 (ch_at tX6_init 11 rfl) fq_X6_19 rfl rfl rfl (Nat.le_of_ble_eq_true rfl) rfl ?_
  refine cn_aload_n 0 0 (ch_at tX6_init 12 rfl) rfl rfl ?_
  refine cn_bipush (64) (ch_at tX6_init 13 rfl) rfl ?_
  refine cn_newI 64 (ws' := fun q2 => [(b, .inr (6, [.ref q1, .int 0, .int (-1), .int (-1), .int 0, .int 0, .int 0, .int 0, .int 0, .int 0, .int 0, .int 0, .int 0, .int 0, .int 0, .null, .int 0])), (q1, .inl (X.2.2.1 .int, 300, .inl (fun _ => 0))), (q2, .inl (X.2.2.1 .int, 64, .inl (fun _ => 0)))]) (ch_at tX6_init 14 rfl) wc_aint (by decide) (by decide) (by decide) (by decide) (by decide) (fun _ => rfl) (fun q2 => ?_)
  refine cn_putF (ws' := [(b, .inr (6, [.ref q1, .int 0, .int (-1), .int (-1), .int 0, .int 0, .int 0, .int 0, .int 0, .int 0, .int 0, .int 0, .int 0, .int 0, .int 0, .ref q2, .int 0])), (q1, .inl (X.2.2.1 .int, 300, .inl (fun _ => 0))), (q2, .inl (X.2.2.1 .int, 64, .inl (fun _ => 0)))]) 0 (ch_at tX6_init 15 rfl) fq_X6_22 rfl rfl rfl rfl (Nat.le_of_ble_eq_true rfl) rfl ?_
  exact cn_ret (ch_at tX6_init 16 rfl) rfl (by decide) (by decide) ⟨q1, q2, rfl⟩
theorem fq_X1_11 : cn_FQ RX1 11 1 3 (tyX1 3) true := cn_FQof fl_X1_11 rfl rfl rfl (tyX1_ok 3 (by decide)) ⟨tyX1, tyX1_ok⟩ nmX1
theorem fq_X1_15 : cn_FQ RX1 15 1 4 (tyX1 4) true := cn_FQof fl_X1_15 rfl rfl rfl (tyX1_ok 4 (by decide)) ⟨tyX1, tyX1_ok⟩ nmX1
theorem fq_X1_18 : cn_FQ RX1 18 1 0 (tyX1 0) true := cn_FQof fl_X1_18 rfl rfl rfl (tyX1_ok 0 (by decide)) ⟨tyX1, tyX1_ok⟩ nmX1
theorem fq_X1_22 : cn_FQ RX1 22 1 1 (tyX1 1) true := cn_FQof fl_X1_22 rfl rfl rfl (tyX1_ok 1 (by decide)) ⟨tyX1, tyX1_ok⟩ nmX1
theorem fq_X1_26 : cn_FQ RX1 26 1 2 (tyX1 2) true := cn_FQof fl_X1_26 rfl rfl rfl (tyX1_ok 2 (by decide)) ⟨tyX1, tyX1_ok⟩ nmX1
theorem n_X1 {X : ch_X} {d : Nat} (b a1 a2 a3 : Nat) : cn_Ex X (d + 1) 2 1860 mX1_init [.ref b, .ref a1, .ref a2, .ref a3] [(b, .inr (1, [.null, .null, .null, .null, .null]))] (fun ws' => ∃ q1 q2, ws' = [(b, .inr (1, [.ref a1, .ref a2, .ref a3, .ref q1, .ref q2])), (q1, .inl (X.2.2.1 .int, 1830, .inl (fun _ => 0))), (q2, .inl (X.2.2.1 .int, 30, .inl (fun _ => 0)))]) := by
  refine cn_entry [(0, .ref b), (1, .ref a1), (2, .ref a2), (3, .ref a3)] (by decide) (Nat.le_of_ble_eq_true rfl) rfl ?_
  refine cn_aload_n 0 0 (ch_at tX1_init 0 rfl) rfl rfl ?_
  refine cn_objInit (ch_at tX1_init 1 rfl) (ch_mem (ch_t2 78 rfl) rfl) wc_oi wc_oc (by omega) ?_
  refine cn_aload_n 0 0 (ch_at tX1_init 2 rfl) rfl rfl ?_
  refine cn_sipush (1830) (ch_at tX1_init 3 rfl) rfl ?_
  refine cn_newI 1830 (ws' := fun q1 => [(b, .inr (1, [.null, .null, .null, .null, .null])), (q1, .inl (X.2.2.1 .int, 1830, .inl (fun _ => 0)))]) (ch_at tX1_init 4 rfl) wc_aint (by decide) (by decide) (by decide) (by decide) (by decide) (fun _ => rfl) (fun q1 => ?_)
  refine cn_putF (ws' := [(b, .inr (1, [.null, .null, .null, .ref q1, .null])), (q1, .inl (X.2.2.1 .int, 1830, .inl (fun _ => 0)))]) 0 (ch_at tX1_init 5 rfl) fq_X1_11 rfl rfl rfl rfl (Nat.le_of_ble_eq_true rfl) rfl ?_
  refine cn_aload_n 0 0 (ch_at tX1_init 6 rfl) rfl rfl ?_
  refine cn_bipush (30) (ch_at tX1_init 7 rfl) rfl ?_
  refine cn_newI 30 (ws' := fun q2 => [(b, .inr (1, [.null, .null, .null, .ref q1, .null])), (q1, .inl (X.2.2.1 .int, 1830, .inl (fun _ => 0))), (q2, .inl (X.2.2.1 .int, 30, .inl (fun _ => 0)))]) (ch_at tX1_init 8 rfl) wc_aint (by decide) (by decide) (by decide) (by decide) (by decide) (fun _ => rfl) (fun q2 => ?_)
  refine cn_putF (ws' := [(b, .inr (1, [.null, .null, .null, .ref q1, .ref q2])), (q1, .inl (X.2.2.1 .int, 1830, .inl (fun _ => 0))), (q2, .inl (X.2.2.1 .int, 30, .inl (fun _ => 0)))]) 0 (ch_at tX1_init 9 rfl) fq_X1_15 rfl rfl rfl rfl (Nat.le_of_ble_eq_true rfl) rfl ?_
  refine cn_aload_n 0 0 (ch_at tX1_init 10 rfl) rfl rfl ?_
  refine cn_aload_n 1 1 (ch_at tX1_init 11 rfl) rfl rfl ?_
  refine cn_putF (ws' := [(b, .inr (1, [.ref a1, .null, .null, .ref q1, .ref q2])), (q1, .inl (X.2.2.1 .int, 1830, .inl (fun _ => 0))), (q2, .inl (X.2.2.1 .int, 30, .inl (fun _ => 0)))]) 0 (ch_at tX1_init 12 rfl) fq_X1_18 rfl rfl rfl rfl (Nat.le_of_ble_eq_true rfl) rfl ?_
  refine cn_aload_n 0 0 (ch_at tX1_init 13 rfl) rfl rfl ?_
  refine cn_aload_n 2 2 (ch_at tX1_init 14 rfl) rfl rfl ?_
  refine cn_putF (ws' := [(b, .inr (1, [.ref a1, .ref a2, .null, .ref q1, .ref q2])), (q1, .inl (X.2.2.1 .int, 1830, .inl (fun _ => 0))), (q2, .inl (X.2.2.1 .int, 30, .inl (fun _ => 0)))]) 0 (ch_at tX1_init 15 rfl) fq_X1_22 rfl rfl rfl rfl (Nat.le_of_ble_eq_true rfl) rfl ?_
  refine cn_aload_n 0 0 (ch_at tX1_init 16 rfl) rfl rfl ?_
  refine cn_aload_n 3 3 (ch_at tX1_init 17 rfl) rfl rfl ?_
  refine cn_putF (ws' := [(b, .inr (1, [.ref a1, .ref a2, .ref a3, .ref q1, .ref q2])), (q1, .inl (X.2.2.1 .int, 1830, .inl (fun _ => 0))), (q2, .inl (X.2.2.1 .int, 30, .inl (fun _ => 0)))]) 0 (ch_at tX1_init 18 rfl) fq_X1_26 rfl rfl rfl rfl (Nat.le_of_ble_eq_true rfl) rfl ?_
  exact cn_ret (ch_at tX1_init 19 rfl) rfl (by decide) (by decide) ⟨q1, q2, rfl⟩
theorem fq_X7_11 : cn_FQ RX7 11 7 3 (tyX7 3) true := cn_FQof fl_X7_11 rfl rfl rfl (tyX7_ok 3 (by decide)) ⟨tyX7, tyX7_ok⟩ nmX7
theorem fq_X7_15 : cn_FQ RX7 15 7 0 (tyX7 0) true := cn_FQof fl_X7_15 rfl rfl rfl (tyX7_ok 0 (by decide)) ⟨tyX7, tyX7_ok⟩ nmX7
theorem fq_X7_19 : cn_FQ RX7 19 7 1 (tyX7 1) true := cn_FQof fl_X7_19 rfl rfl rfl (tyX7_ok 1 (by decide)) ⟨tyX7, tyX7_ok⟩ nmX7
theorem fq_X7_23 : cn_FQ RX7 23 7 2 (tyX7 2) true := cn_FQof fl_X7_23 rfl rfl rfl (tyX7_ok 2 (by decide)) ⟨tyX7, tyX7_ok⟩ nmX7
theorem n_X7 {X : ch_X} {d : Nat} (b a1 a2 a3 : Nat) : cn_Ex X (d + 1) 1 64 mX7_init [.ref b, .ref a1, .ref a2, .ref a3] [(b, .inr (7, [.null, .null, .null, .null, .int 0]))] (fun ws' => ∃ q1, ws' = [(b, .inr (7, [.ref a1, .ref a2, .ref a3, .ref q1, .int 0])), (q1, .inl (X.2.2.1 .int, 64, .inl (fun _ => 0)))]) := by
  refine cn_entry [(0, .ref b), (1, .ref a1), (2, .ref a2), (3, .ref a3)] (by decide) (Nat.le_of_ble_eq_true rfl) rfl ?_
  refine cn_aload_n 0 0 (ch_at tX7_init 0 rfl) rfl rfl ?_
  refine cn_objInit (ch_at tX7_init 1 rfl) (ch_mem (ch_t2 162 rfl) rfl) wc_oi wc_oc (by omega) ?_
  refine cn_aload_n 0 0 (ch_at tX7_init 2 rfl) rfl rfl ?_
  refine cn_bipush (64) (ch_at tX7_init 3 rfl) rfl ?_
  refine cn_newI 64 (ws' := fun q1 => [(b, .inr (7, [.null, .null, .null, .null, .int 0])), (q1, .inl (X.2.2.1 .int, 64, .inl (fun _ => 0)))]) (ch_at tX7_init 4 rfl) wc_aint (by decide) (by decide) (by decide) (by decide) (by decide) (fun _ => rfl) (fun q1 => ?_)
  refine cn_putF (ws' := [(b, .inr (7, [.null, .null, .null, .ref q1, .int 0])), (q1, .inl (X.2.2.1 .int, 64, .inl (fun _ => 0)))]) 0 (ch_at tX7_init 5 rfl) fq_X7_11 rfl rfl rfl rfl (Nat.le_of_ble_eq_true rfl) rfl ?_
  refine cn_aload_n 0 0 (ch_at tX7_init 6 rfl) rfl rfl ?_
  refine cn_aload_n 1 1 (ch_at tX7_init 7 rfl) rfl rfl ?_
  refine cn_putF (ws' := [(b, .inr (7, [.ref a1, .null, .null, .ref q1, .int 0])), (q1, .inl (X.2.2.1 .int, 64, .inl (fun _ => 0)))]) 0 (ch_at tX7_init 8 rfl) fq_X7_15 rfl rfl rfl rfl (Nat.le_of_ble_eq_true rfl) rfl ?_
  refine cn_aload_n 0 0 (ch_at tX7_init 9 rfl) rfl rfl ?_
  refine cn_aload_n 2 2 (ch_at tX7_init 10 rfl) rfl rfl ?_
  refine cn_putF (ws' := [(b, .inr (7, [.ref a1, .ref a2, .null, .ref q1, .int 0])), (q1, .inl (X.2.2.1 .int, 64, .inl (fun _ => 0)))]) 0 (ch_at tX7_init 11 rfl) fq_X7_19 rfl rfl rfl rfl (Nat.le_of_ble_eq_true rfl) rfl ?_
  refine cn_aload_n 0 0 (ch_at tX7_init 12 rfl) rfl rfl ?_
  refine cn_aload_n 3 3 (ch_at tX7_init 13 rfl) rfl rfl ?_
  refine cn_putF (ws' := [(b, .inr (7, [.ref a1, .ref a2, .ref a3, .ref q1, .int 0])), (q1, .inl (X.2.2.1 .int, 64, .inl (fun _ => 0)))]) 0 (ch_at tX7_init 14 rfl) fq_X7_23 rfl rfl rfl rfl (Nat.le_of_ble_eq_true rfl) rfl ?_
  exact cn_ret (ch_at tX7_init 15 rfl) rfl (by decide) (by decide) ⟨q1, rfl⟩
