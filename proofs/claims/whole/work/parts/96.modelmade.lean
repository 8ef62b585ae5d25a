/-! the reference is made -/
set_option maxRecDepth 100000 in
set_option maxHeartbeats 4000000 in
theorem m12_init {X : gX} {h : gH} {z m : Nat} (ha : h m = some (.inr (10, [.int 0, .null, .int 0, .int 0, .null, .null, .null, .null, .null, .null, .int 0, .int 0, .int 0, .null, .int 0, .int 0, .int 0, .null, .int 0, .int 0, .int 0, .int 0, .null, .null, .null, .null]))) (hz : z = m + 1) : gMc X yX12_init cX12_init 1 (3, 24, 6811) [.ref m] h z (fun r h' z' => r = none ∧ z' = z + 24 ∧ MdB X h' m 0 (m + 2) (upd (fun _ => 0) 2 (-1)) (fun _ _ => 0) (fun _ => 0) ∧ MpB X h' (m + 2) (fun _ => 0) (fun _ _ => 0) (fun _ => 0) (fun _ => 0) ∧ NewB h h' m z) := by
  subst hz
  refine gMc.of px12 rfl (Nat.le_of_ble_eq_true rfl) ?_
  intro F hE hin
  refine g_aload_n dX12_init_0 rfl ?_
  refine g_obj woX12 wob.1 wob.2 (by decide) (Nat.le_of_ble_eq_true rfl) dX12_init_1 ?_
  refine g_aload_n dX12_init_4 rfl ?_
  refine g_sipush (nI 2000) dX12_init_5 (by decide) ?_
  refine g_newI wai (by decide) (by decide) (by decide) dX12_init_8 ?_
  refine g_putF fl12_9 hin rfl ((gset_ne (by omega)).trans ha) rfl rfl rfl (Nat.le_of_ble_eq_true rfl) dX12_init_10 ?_
  refine g_aload_n dX12_init_13 rfl ?_
  refine g_iconst (-1) dX12_init_14 (by decide) ?_
  refine g_putf fl12_13 gset_same rfl rfl rfl (Nat.le_of_ble_eq_true rfl) dX12_init_15 ?_
  refine g_aload_n dX12_init_18 rfl ?_
  refine g_new [.int 0, .null, .null, .null, .int 0, .null, .null, .null, .null, .null, .null, .null, .null, .int 0] cl9 (gm5 204 (by decide +kernel)) (gm5 205 (by decide +kernel)) (gm1 13 (by decide +kernel)) (by decide) (by decide) (by decide) dX12_init_19 ?_
  refine g_dup dX12_init_22 rfl ?_
  refine g_callN kX12_19 (m11_init gset_same rfl) rfl rfl (Nat.le_of_ble_eq_true rfl) (by decide) (by decide) (by decide) (by decide) dX12_init_23 ?_
  rintro v1 h4 z1 ⟨rfl, rfl, hP4, hN4⟩
  have k0 := (hN4 m (by omega) (by omega)).trans ((gset_ne (by omega)).trans gset_same)
  have k1 := (hN4 (m + 1) (by omega) (by omega)).trans ((gset_ne (by omega)).trans ((gset_ne (by omega)).trans ((gset_ne (by omega)).trans gset_same)))
  have k2 : ∀ x, x < m + 1 → x ≠ m → h4 x = h x := fun x a b => (hN4 x (by omega) (by omega)).trans ((gset_ne (by omega)).trans ((gset_ne b).trans ((gset_ne b).trans (gset_ne (by omega)))))
  refine g_putf fl12_20 k0 rfl rfl rfl (Nat.le_of_ble_eq_true rfl) dX12_init_26 ?_
  refine g_aload_n dX12_init_29 rfl ?_
  refine g_sipush (nI 401) dX12_init_30 (by decide) ?_
  refine g_newI wai (by decide) (by decide) (by decide) dX12_init_33 ?_
  refine g_putF fl12_24 hin rfl ((gset_ne (by omega)).trans gset_same) rfl rfl rfl (Nat.le_of_ble_eq_true rfl) dX12_init_35 ?_
  refine g_aload_n dX12_init_38 rfl ?_
  refine g_sipush (nI 401) dX12_init_39 (by decide) ?_
  refine g_newI wai (by decide) (by decide) (by decide) dX12_init_42 ?_
  refine g_putF fl12_27 hin rfl ((gset_ne (by omega)).trans gset_same) rfl rfl rfl (Nat.le_of_ble_eq_true rfl) dX12_init_44 ?_
  refine g_aload_n dX12_init_47 rfl ?_
  refine g_sipush (nI 401) dX12_init_48 (by decide) ?_
  refine g_newI wai (by decide) (by decide) (by decide) dX12_init_51 ?_
  refine g_putF fl12_30 hin rfl ((gset_ne (by omega)).trans gset_same) rfl rfl rfl (Nat.le_of_ble_eq_true rfl) dX12_init_53 ?_
  refine g_aload_n dX12_init_56 rfl ?_
  refine g_sipush (nI 401) dX12_init_57 (by decide) ?_
  refine g_newJ waj (by decide) (by decide) (by decide) dX12_init_60 ?_
  refine g_putF fl12_33 hin rfl ((gset_ne (by omega)).trans gset_same) rfl rfl rfl (Nat.le_of_ble_eq_true rfl) dX12_init_62 ?_
  refine g_aload_n dX12_init_65 rfl ?_
  refine g_sipush (nI 401) dX12_init_66 (by decide) ?_
  refine g_newI wai (by decide) (by decide) (by decide) dX12_init_69 ?_
  refine g_putF fl12_37 hin rfl ((gset_ne (by omega)).trans gset_same) rfl rfl rfl (Nat.le_of_ble_eq_true rfl) dX12_init_71 ?_
  refine g_aload_n dX12_init_74 rfl ?_
  refine g_bipush (nI 40) dX12_init_75 (by decide) ?_
  refine g_newI wai (by decide) (by decide) (by decide) dX12_init_77 ?_
  refine g_putF fl12_40 hin rfl ((gset_ne (by omega)).trans gset_same) rfl rfl rfl (Nat.le_of_ble_eq_true rfl) dX12_init_79 ?_
  refine g_aload_n dX12_init_82 rfl ?_
  refine g_bipush (nI 40) dX12_init_83 (by decide) ?_
  refine g_newI wai (by decide) (by decide) (by decide) dX12_init_85 ?_
  refine g_putF fl12_43 hin rfl ((gset_ne (by omega)).trans gset_same) rfl rfl rfl (Nat.le_of_ble_eq_true rfl) dX12_init_87 ?_
  refine g_aload_n dX12_init_90 rfl ?_
  refine g_bipush (nI 40) dX12_init_91 (by decide) ?_
  refine g_newI wai (by decide) (by decide) (by decide) dX12_init_93 ?_
  refine g_putF fl12_46 hin rfl ((gset_ne (by omega)).trans gset_same) rfl rfl rfl (Nat.le_of_ble_eq_true rfl) dX12_init_95 ?_
  refine g_aload_n dX12_init_98 rfl ?_
  refine g_bipush (nI 40) dX12_init_99 (by decide) ?_
  refine g_newI wai (by decide) (by decide) (by decide) dX12_init_101 ?_
  refine g_putF fl12_49 hin rfl ((gset_ne (by omega)).trans gset_same) rfl rfl rfl (Nat.le_of_ble_eq_true rfl) dX12_init_103 ?_
  refine g_aload_n dX12_init_106 rfl ?_
  refine g_sipush (nI 800) dX12_init_107 (by decide) ?_
  refine g_newI wai (by decide) (by decide) (by decide) dX12_init_110 ?_
  refine g_putF fl12_52 hin rfl ((gset_ne (by omega)).trans gset_same) rfl rfl rfl (Nat.le_of_ble_eq_true rfl) dX12_init_112 ?_
  refine g_aload_n dX12_init_115 rfl ?_
  refine g_bipush (nI 40) dX12_init_116 (by decide) ?_
  refine g_newI wai (by decide) (by decide) (by decide) dX12_init_118 ?_
  refine g_putF fl12_55 hin rfl ((gset_ne (by omega)).trans gset_same) rfl rfl rfl (Nat.le_of_ble_eq_true rfl) dX12_init_120 ?_
  refine g_cret hE ⟨rfl, rfl, ⟨gset_same, fun k hk => ?_, ?_⟩, ⟨?_, fun k hk => ?_, ?_, ?_⟩, fun q h1 h2 => ?_⟩ dX12_init_123 (by decide) (by decide)
  · rcases (show k = 0 ∨ k = 1 ∨ k = 2 ∨ k = 3 ∨ k = 4 ∨ k = 5 ∨ k = 6 ∨ k = 7 ∨ k = 8 ∨ k = 9 ∨ k = 10 by omega) with rfl | rfl | rfl | rfl | rfl | rfl | rfl | rfl | rfl | rfl | rfl
    · show gset _ _ _ (m + 1) = some (gIA X 2000 (fun _ => 0)); repeat (first | exact gset_same | exact k1 | refine (gset_ne (by omega)).trans ?_)
    · show gset _ _ _ (m + 14) = some (gIA X 401 (fun _ => 0)); repeat (first | exact gset_same | exact k1 | refine (gset_ne (by omega)).trans ?_)
    · show gset _ _ _ (m + 15) = some (gIA X 401 (fun _ => 0)); repeat (first | exact gset_same | exact k1 | refine (gset_ne (by omega)).trans ?_)
    · show gset _ _ _ (m + 16) = some (gIA X 401 (fun _ => 0)); repeat (first | exact gset_same | exact k1 | refine (gset_ne (by omega)).trans ?_)
    · show gset _ _ _ (m + 18) = some (gIA X 401 (fun _ => 0)); repeat (first | exact gset_same | exact k1 | refine (gset_ne (by omega)).trans ?_)
    · show gset _ _ _ (m + 19) = some (gIA X 40 (fun _ => 0)); repeat (first | exact gset_same | exact k1 | refine (gset_ne (by omega)).trans ?_)
    · show gset _ _ _ (m + 20) = some (gIA X 40 (fun _ => 0)); repeat (first | exact gset_same | exact k1 | refine (gset_ne (by omega)).trans ?_)
    · show gset _ _ _ (m + 21) = some (gIA X 40 (fun _ => 0)); repeat (first | exact gset_same | exact k1 | refine (gset_ne (by omega)).trans ?_)
    · show gset _ _ _ (m + 22) = some (gIA X 40 (fun _ => 0)); repeat (first | exact gset_same | exact k1 | refine (gset_ne (by omega)).trans ?_)
    · show gset _ _ _ (m + 23) = some (gIA X 800 (fun _ => 0)); repeat (first | exact gset_same | exact k1 | refine (gset_ne (by omega)).trans ?_)
    · show gset _ _ _ (m + 24) = some (gIA X 40 (fun _ => 0)); repeat (first | exact gset_same | exact k1 | refine (gset_ne (by omega)).trans ?_)
  · show gset _ _ _ (m + 17) = some (gJA X 401 (fun _ => 0)); repeat (first | exact gset_same | exact k1 | refine (gset_ne (by omega)).trans ?_)
  · repeat (first | exact hP4.1 | refine (gset_ne (by omega)).trans ?_)
  · have hi := po_in k hk
    repeat (first | exact hP4.2.1 k hk | refine (gset_ne (by omega)).trans ?_)
  · repeat (first | exact hP4.2.2.1 | refine (gset_ne (by omega)).trans ?_)
  · repeat (first | exact hP4.2.2.2 | refine (gset_ne (by omega)).trans ?_)
  · repeat (first | exact k2 q h1 h2 | refine (gset_ne (by omega)).trans ?_)
