/-! ===== the law's loop ===== -/
theorem cl_CIm {X : ch_X} {d : Nat} {z : ch_M} {As : List ck_V} {w : ck_W} {Q Q2 : Int → ck_W → Prop} (h : ck_CI X d z As w Q) (hm : ∀ v w', Q v w' → Q2 v w') : ck_CI X d z As w Q2 := ck_mono h (fun r w' _ _ ⟨v, e, k⟩ => ⟨v, e, fun i => hm v w' (k i)⟩)
set_option maxRecDepth 8000 in
theorem L_loop {g : ch_G} {A R : Nat} (hC : ck_Cx g A R) {n : Nat} {f : Nat → Int32} (hn : n < 2147483648) : ∀ (m : Nat) (i : Int) (w : ck_W), 0 ≤ i → (n : Int) - i ≤ m → cj_J A R w → cq_At (ch_C g A R) (cl_M (ch_C g A R) n f) mL_law 38 [some (.inr (.inr 102)), some (.inr (.inr 0)), some (.inr (.inr 76)), some (.inl i)] [] w
  | 0, i, w, h0, h1, _ => r_L_38 hC hn ⟨⟨by omega, by omega⟩, fun _ => trivial, fun q => (show False by omega).elim⟩
  | m + 1, i, w, h0, h1, hJ => by
    refine r_L_38 hC hn ⟨⟨by omega, by omega⟩, fun _ => trivial, fun q => ⟨⟨by omega, by omega⟩, ?_⟩⟩
    have nx : ∀ u, cj_J A R u → cq_At (ch_C g A R) (cl_M (ch_C g A R) n f) mL_law 1470 [some (.inr (.inr 102)), some (.inr (.inr 0)), some (.inr (.inr 76)), some (.inl i)] [] u := fun u j => r_L_1470 hC hn ⟨⟨by omega, by omega⟩, L_loop hC hn m (i + 6) u (by omega) (by omega) j⟩
    refine ⟨fun _ => r_L_196 hC hn ⟨⟨by omega, by omega⟩, ⟨by omega, by omega⟩, ⟨by omega, by omega⟩, ⟨by omega, by omega⟩, ⟨by omega, by omega⟩, J_grey hC hJ  (fun v w2 j => nx w2 j)⟩, fun _ => ?_⟩
    refine ⟨fun _ => r_L_259 hC hn ⟨⟨by omega, by omega⟩, ⟨by omega, by omega⟩, ⟨by omega, by omega⟩, ⟨by omega, by omega⟩, J_column hC hJ  (fun v w2 j => nx w2 j)⟩, fun _ => ?_⟩
    refine ⟨fun _ => r_L_332 hC hn ⟨⟨by omega, by omega⟩, ⟨by omega, by omega⟩, J_wound hC hJ  (fun v w2 j => nx w2 j)⟩, fun _ => ?_⟩
    refine ⟨fun _ => r_L_365 hC hn ⟨⟨by omega, by omega⟩, ⟨by omega, by omega⟩, ⟨by omega, by omega⟩, J_pin hC hJ  (fun v w2 j => nx w2 j)⟩, fun _ => ?_⟩
    refine ⟨fun _ => r_L_408 hC hn ⟨⟨by omega, by omega⟩, ⟨by omega, by omega⟩, J_best hC hJ (cl_srng _ _) (fun v v2 w2 j => nx w2 j)⟩, fun _ => ?_⟩
    refine ⟨fun _ => r_L_441 hC hn ⟨⟨by omega, by omega⟩, J_step hC hJ  (fun v w2 j => nx w2 j)⟩, fun _ => ?_⟩
    refine ⟨fun _ => r_L_464 hC hn (J_unwalk hC hJ  (fun v w2 j => nx w2 j)), fun _ => ?_⟩
    refine ⟨fun _ => r_L_477 hC hn ⟨⟨by omega, by omega⟩, J_jump hC hJ  (fun v w2 j => nx w2 j)⟩, fun _ => ?_⟩
    refine ⟨fun _ => r_L_500 hC hn ⟨⟨by omega, by omega⟩, ⟨by omega, by omega⟩, ⟨by omega, by omega⟩, J_walked hC hJ  (fun v v2 w2 j => nx w2 j)⟩, fun _ => ?_⟩
    refine ⟨fun _ => r_L_543 hC hn ⟨⟨by omega, by omega⟩, ⟨by omega, by omega⟩, ⟨by omega, by omega⟩, J_flat hC hJ  (fun v v2 w2 j => nx w2 j)⟩, fun _ => ?_⟩
    refine ⟨fun _ => r_L_586 hC hn ⟨⟨by omega, by omega⟩, ⟨by omega, by omega⟩, ⟨by omega, by omega⟩, ⟨by omega, by omega⟩, ⟨by omega, by omega⟩, J_feed hC hJ  (fun v w2 j => nx w2 j)⟩, fun _ => ?_⟩
    refine ⟨fun _ => r_L_649 hC hn ⟨⟨by omega, by omega⟩, J_end hC hJ  (fun v w2 j => nx w2 j)⟩, fun _ => ?_⟩
    refine ⟨fun _ => r_L_672 hC hn (J_reader hC hJ  (fun v w2 j => nx w2 j)), fun _ => ?_⟩
    refine ⟨fun _ => r_L_685 hC hn ⟨⟨by omega, by omega⟩, J_fault hC hJ  (fun v w2 j => nx w2 j)⟩, fun _ => ?_⟩
    refine ⟨fun _ => r_L_708 hC hn ⟨⟨by omega, by omega⟩, ⟨by omega, by omega⟩, ⟨by omega, by omega⟩, J_ink hC hJ  (fun v v2 w2 j => nx w2 j)⟩, fun _ => ?_⟩
    refine ⟨fun _ => r_L_751 hC hn ⟨⟨by omega, by omega⟩, ⟨by omega, by omega⟩, ⟨by omega, by omega⟩, fun z => ⟨⟨by omega, by omega⟩, cl_CIm (J_bit hC hJ (P := (fun _ _ w2 => cq_At (ch_C g A R) (cl_M (ch_C g A R) n f) mL_law 1470 [some (.inr (.inr 102)), some (.inr (.inr 0)), some (.inr (.inr 76)), some (.inl i)] [] w2)) (fun v w2 j => nx w2 j)) (fun v w1 h => ⟨fun _ => h, fun x => absurd z x⟩)⟩, fun z => ⟨⟨by omega, by omega⟩, cl_CIm (J_bit hC hJ (P := (fun _ _ w2 => cq_At (ch_C g A R) (cl_M (ch_C g A R) n f) mL_law 1470 [some (.inr (.inr 102)), some (.inr (.inr 0)), some (.inr (.inr 76)), some (.inl i)] [] w2)) (fun v w2 j => nx w2 j)) (fun v w1 h => ⟨fun x => absurd x z, fun _ => h⟩)⟩⟩, fun _ => ?_⟩
    refine ⟨fun _ => r_L_820 hC hn ⟨⟨by omega, by omega⟩, ⟨by omega, by omega⟩, J_learnt hC hJ  (fun v w2 j => nx w2 j)⟩, fun _ => ?_⟩
    refine ⟨fun _ => r_L_853 hC hn ⟨⟨by omega, by omega⟩, ⟨by omega, by omega⟩, fun z => ⟨⟨by omega, by omega⟩, cl_CIm (J_right hC hJ (P := (fun _ _ w2 => cq_At (ch_C g A R) (cl_M (ch_C g A R) n f) mL_law 1470 [some (.inr (.inr 102)), some (.inr (.inr 0)), some (.inr (.inr 76)), some (.inl i)] [] w2)) (fun v v2 w2 j => nx w2 j)) (fun v w1 h => ⟨fun _ => h, fun x => absurd z x⟩)⟩, fun z => ⟨⟨by omega, by omega⟩, cl_CIm (J_right hC hJ (P := (fun _ _ w2 => cq_At (ch_C g A R) (cl_M (ch_C g A R) n f) mL_law 1470 [some (.inr (.inr 102)), some (.inr (.inr 0)), some (.inr (.inr 76)), some (.inl i)] [] w2)) (fun v v2 w2 j => nx w2 j)) (fun v w1 h => ⟨fun x => absurd x z, fun _ => h⟩)⟩⟩, fun _ => ?_⟩
    refine ⟨fun _ => r_L_912 hC hn ⟨⟨by omega, by omega⟩, ⟨by omega, by omega⟩, J_letter hC hJ  (fun v w2 j => nx w2 j)⟩, fun _ => ?_⟩
    refine ⟨fun _ => r_L_945 hC hn ⟨⟨by omega, by omega⟩, ⟨by omega, by omega⟩, ⟨by omega, by omega⟩, ⟨by omega, by omega⟩, J_word hC hJ  (fun v w2 j => nx w2 j)⟩, fun _ => ?_⟩
    refine ⟨fun _ => r_L_998 hC hn ⟨⟨by omega, by omega⟩, ⟨by omega, by omega⟩, J_chances hC hJ  (fun v w2 j => nx w2 j)⟩, fun _ => ?_⟩
    refine ⟨fun _ => r_L_1031 hC hn ⟨⟨by omega, by omega⟩, ⟨by omega, by omega⟩, ⟨by omega, by omega⟩, ⟨by omega, by omega⟩, J_box hC hJ (cl_srng _ _) (cl_srng _ _) (fun v v2 w2 j => nx w2 j)⟩, fun _ => ?_⟩
    refine ⟨fun _ => r_L_1084 hC hn ⟨⟨by omega, by omega⟩, ⟨by omega, by omega⟩, ⟨by omega, by omega⟩, ⟨by omega, by omega⟩, J_joined hC hJ (cl_srng _ _) (fun v v2 w2 j => nx w2 j)⟩, fun _ => ?_⟩
    refine ⟨fun _ => r_L_1137 hC hn ⟨⟨by omega, by omega⟩, ⟨by omega, by omega⟩, J_seen hC hJ  (fun v w2 j => nx w2 j)⟩, fun _ => ?_⟩
    refine ⟨fun _ => r_L_1170 hC hn ⟨⟨by omega, by omega⟩, ⟨by omega, by omega⟩, ⟨by omega, by omega⟩, ⟨by omega, by omega⟩, ⟨by omega, by omega⟩, J_printed hC hJ  (fun v v2 w2 j => nx w2 j)⟩, fun _ => ?_⟩
    refine ⟨fun _ => r_L_1233 hC hn ⟨⟨by omega, by omega⟩, ⟨by omega, by omega⟩, ⟨by omega, by omega⟩, ⟨by omega, by omega⟩, ⟨by omega, by omega⟩, fun z => (cl_CIm (J_length hC hJ (P := (fun _ _ w2 => cq_At (ch_C g A R) (cl_M (ch_C g A R) n f) mL_law 1470 [some (.inr (.inr 102)), some (.inr (.inr 0)), some (.inr (.inr 76)), some (.inl i)] [] w2)) (fun v w2 j => nx w2 j)) (fun v w1 h => ⟨fun _ => h, fun x => absurd z x⟩)), fun z => (cl_CIm (J_length hC hJ (P := (fun _ _ w2 => cq_At (ch_C g A R) (cl_M (ch_C g A R) n f) mL_law 1470 [some (.inr (.inr 102)), some (.inr (.inr 0)), some (.inr (.inr 76)), some (.inl i)] [] w2)) (fun v w2 j => nx w2 j)) (fun v w1 h => ⟨fun x => absurd x z, fun _ => h⟩))⟩, fun _ => ?_⟩
    refine ⟨fun _ => r_L_1312 hC hn ⟨⟨by omega, by omega⟩, ⟨by omega, by omega⟩, ⟨by omega, by omega⟩, J_part hC hJ  (fun v w2 j => nx w2 j)⟩, fun _ => ?_⟩
    refine ⟨fun _ => r_L_1355 hC hn ⟨⟨by omega, by omega⟩, ⟨by omega, by omega⟩, J_fetch hC hJ  (fun v w2 j => nx w2 j)⟩, fun _ => ?_⟩
    refine ⟨fun _ => r_L_1388 hC hn ⟨⟨by omega, by omega⟩, ⟨by omega, by omega⟩, J_plan hC hJ  (fun v v2 w2 j => nx w2 j)⟩, fun _ => ?_⟩
    refine ⟨fun _ => r_L_1421 hC hn (J_image hC hJ  (fun v w2 j => nx w2 j)), fun _ => ?_⟩
    refine ⟨fun _ => r_L_1434 hC hn (J_back hC hJ  (fun v w2 j => nx w2 j)), fun _ => ?_⟩
    refine ⟨fun _ => r_L_1447 hC hn ⟨⟨by omega, by omega⟩, J_about hC hJ (cl_srng _ _) (fun v w2 j => ⟨fun _ => nx w2 j, fun x => absurd rfl x⟩)⟩, fun _ => ?_⟩
    exact nx w hJ
