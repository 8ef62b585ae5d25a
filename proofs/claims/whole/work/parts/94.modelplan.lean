/-! the reference: a plan is made; what its calls share -/
set_option maxRecDepth 100000 in
set_option maxHeartbeats 4000000 in
theorem m11_init {X : gX} {h : gH} {z a : Nat} (ha : h a = some (.inr (9, [.int 0, .null, .null, .null, .int 0, .null, .null, .null, .null, .null, .null, .null, .null, .int 0]))) (hz : z = a + 1) : gMc X yX11_init cX11_init 1 (2, 11, 1792) [.ref a] h z (fun r h' z' => r = none ∧ z' = z + 11 ∧ MpB X h' a (fun _ => 0) (fun _ _ => 0) (fun _ => 0) (fun _ => 0) ∧ NewB h h' a z) := by
  subst hz
  refine gMc.of px11 rfl (Nat.le_of_ble_eq_true rfl) ?_
  intro F hE hin
  refine g_aload_n dX11_init_0 rfl ?_
  refine g_obj woX11 wob.1 wob.2 (by decide) (Nat.le_of_ble_eq_true rfl) dX11_init_1 ?_
  refine g_aload_n dX11_init_4 rfl ?_
  refine g_bipush (nI 8) dX11_init_5 (by decide) ?_
  refine g_newJ waj (by decide) (by decide) (by decide) dX11_init_7 ?_
  refine g_putF fl11_9 hin rfl ((gset_ne (by omega)).trans ha) rfl rfl rfl (Nat.le_of_ble_eq_true rfl) dX11_init_9 ?_
  refine g_aload_n dX11_init_12 rfl ?_
  refine g_bipush (nI 8) dX11_init_13 (by decide) ?_
  refine g_newI wai (by decide) (by decide) (by decide) dX11_init_15 ?_
  refine g_putF fl11_15 hin rfl ((gset_ne (by omega)).trans gset_same) rfl rfl rfl (Nat.le_of_ble_eq_true rfl) dX11_init_17 ?_
  refine g_aload_n dX11_init_20 rfl ?_
  refine g_bipush (nI 80) dX11_init_21 (by decide) ?_
  refine g_newI wai (by decide) (by decide) (by decide) dX11_init_23 ?_
  refine g_putF fl11_19 hin rfl ((gset_ne (by omega)).trans gset_same) rfl rfl rfl (Nat.le_of_ble_eq_true rfl) dX11_init_25 ?_
  refine g_aload_n dX11_init_28 rfl ?_
  refine g_bipush (nI 16) dX11_init_29 (by decide) ?_
  refine g_newI wai (by decide) (by decide) (by decide) dX11_init_31 ?_
  refine g_putF fl11_22 hin rfl ((gset_ne (by omega)).trans gset_same) rfl rfl rfl (Nat.le_of_ble_eq_true rfl) dX11_init_33 ?_
  refine g_aload_n dX11_init_36 rfl ?_
  refine g_bipush (nI 16) dX11_init_37 (by decide) ?_
  refine g_newI wai (by decide) (by decide) (by decide) dX11_init_39 ?_
  refine g_putF fl11_25 hin rfl ((gset_ne (by omega)).trans gset_same) rfl rfl rfl (Nat.le_of_ble_eq_true rfl) dX11_init_41 ?_
  refine g_aload_n dX11_init_44 rfl ?_
  refine g_bipush (nI 16) dX11_init_45 (by decide) ?_
  refine g_newJ waj (by decide) (by decide) (by decide) dX11_init_47 ?_
  refine g_putF fl11_28 hin rfl ((gset_ne (by omega)).trans gset_same) rfl rfl rfl (Nat.le_of_ble_eq_true rfl) dX11_init_49 ?_
  refine g_aload_n dX11_init_52 rfl ?_
  refine g_bipush (nI 16) dX11_init_53 (by decide) ?_
  refine g_newI wai (by decide) (by decide) (by decide) dX11_init_55 ?_
  refine g_putF fl11_31 hin rfl ((gset_ne (by omega)).trans gset_same) rfl rfl rfl (Nat.le_of_ble_eq_true rfl) dX11_init_57 ?_
  refine g_aload_n dX11_init_60 rfl ?_
  refine g_bipush (nI 16) dX11_init_61 (by decide) ?_
  refine g_newI wai (by decide) (by decide) (by decide) dX11_init_63 ?_
  refine g_putF fl11_34 hin rfl ((gset_ne (by omega)).trans gset_same) rfl rfl rfl (Nat.le_of_ble_eq_true rfl) dX11_init_65 ?_
  refine g_aload_n dX11_init_68 rfl ?_
  refine g_bipush (nI 16) dX11_init_69 (by decide) ?_
  refine g_newI wai (by decide) (by decide) (by decide) dX11_init_71 ?_
  refine g_putF fl11_37 hin rfl ((gset_ne (by omega)).trans gset_same) rfl rfl rfl (Nat.le_of_ble_eq_true rfl) dX11_init_73 ?_
  refine g_aload_n dX11_init_76 rfl ?_
  refine g_sipush (nI 800) dX11_init_77 (by decide) ?_
  refine g_newI wai (by decide) (by decide) (by decide) dX11_init_80 ?_
  refine g_putF fl11_40 hin rfl ((gset_ne (by omega)).trans gset_same) rfl rfl rfl (Nat.le_of_ble_eq_true rfl) dX11_init_82 ?_
  refine g_aload_n dX11_init_85 rfl ?_
  refine g_sipush (nI 800) dX11_init_86 (by decide) ?_
  refine g_newI wai (by decide) (by decide) (by decide) dX11_init_89 ?_
  refine g_putF fl11_43 hin rfl ((gset_ne (by omega)).trans gset_same) rfl rfl rfl (Nat.le_of_ble_eq_true rfl) dX11_init_91 ?_
  refine g_cret hE ⟨rfl, rfl, ⟨gset_same, fun k hk => ?_, ?_, ?_⟩, fun q h1 h2 => ?_⟩ dX11_init_94 (by decide) (by decide)
  · rcases (show k = 0 ∨ k = 1 ∨ k = 2 ∨ k = 3 ∨ k = 4 ∨ k = 5 ∨ k = 6 ∨ k = 7 ∨ k = 8 by omega) with rfl | rfl | rfl | rfl | rfl | rfl | rfl | rfl | rfl
    · show gset _ _ _ (a + 2) = some (gIA X 8 (fun _ => 0)); repeat (first | exact gset_same | refine (gset_ne (by omega)).trans ?_)
    · show gset _ _ _ (a + 3) = some (gIA X 80 (fun _ => 0)); repeat (first | exact gset_same | refine (gset_ne (by omega)).trans ?_)
    · show gset _ _ _ (a + 4) = some (gIA X 16 (fun _ => 0)); repeat (first | exact gset_same | refine (gset_ne (by omega)).trans ?_)
    · show gset _ _ _ (a + 5) = some (gIA X 16 (fun _ => 0)); repeat (first | exact gset_same | refine (gset_ne (by omega)).trans ?_)
    · show gset _ _ _ (a + 7) = some (gIA X 16 (fun _ => 0)); repeat (first | exact gset_same | refine (gset_ne (by omega)).trans ?_)
    · show gset _ _ _ (a + 8) = some (gIA X 16 (fun _ => 0)); repeat (first | exact gset_same | refine (gset_ne (by omega)).trans ?_)
    · show gset _ _ _ (a + 9) = some (gIA X 16 (fun _ => 0)); repeat (first | exact gset_same | refine (gset_ne (by omega)).trans ?_)
    · show gset _ _ _ (a + 10) = some (gIA X 800 (fun _ => 0)); repeat (first | exact gset_same | refine (gset_ne (by omega)).trans ?_)
    · show gset _ _ _ (a + 11) = some (gIA X 800 (fun _ => 0)); repeat (first | exact gset_same | refine (gset_ne (by omega)).trans ?_)
  · repeat (first | exact gset_same | refine (gset_ne (by omega)).trans ?_)
  · repeat (first | exact gset_same | refine (gset_ne (by omega)).trans ?_)
  · simp only [gset]
    rw [if_neg h2, if_neg (by omega), if_neg h2, if_neg (by omega), if_neg h2, if_neg (by omega), if_neg h2, if_neg (by omega), if_neg h2, if_neg (by omega), if_neg h2, if_neg (by omega), if_neg h2, if_neg (by omega), if_neg h2, if_neg (by omega), if_neg h2, if_neg (by omega), if_neg h2, if_neg (by omega), if_neg h2, if_neg (by omega)]
