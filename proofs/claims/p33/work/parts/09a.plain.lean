/-! ===== no library method that is called has a row among the natives ===== -/
def pk_L : List MethodName := [yJ9_abs_0f7a4, yJ9_max_7cf53, yJ9_min_7cf53, yJ9_max_f86c9, yJ9_min_f86c9, yJ9_floorMod_7cf53, yJ9_floorDiv_7cf53, yJ0_coder_7d493, yJ0_length_8abf5, yJ0_isLatin1_aae02, yJ1_charAt_3b067, yJ0_charAt_5068e, yJ1_canEncode_9a6ad, yJ1_indexOfChar_4cfef, yJ1_indexOf_4cfef, yJ0_indexOf_7cf53, yJ0_indexOf_0f7a4, yJ0_checkIndex_df160, yJ3_checkIndex_8e157]
theorem pk_all : Jvm.natives.all (fun r => pk_L.all (fun x => !(r.name == x.name && r.cls == x.cls && r.desc == x.desc))) = true := by decide +kernel
theorem pk_of {x : MethodName} {i : Nat} (h : pk_L[i]? = some x) : plainFor x = true := by
  unfold plainFor
  rw [Bool.or_eq_true]
  right
  rw [Option.isNone_iff_eq_none]
  unfold NativeRow.find?
  rw [List.find?_eq_none]
  intro r hr hb
  have a : (!(r.name == x.name && r.cls == x.cls && r.desc == x.desc)) = true := List.all_eq_true.mp (List.all_eq_true.mp pk_all r hr) x (List.mem_of_getElem? h)
  rw [hb] at a
  exact absurd a (by decide)
