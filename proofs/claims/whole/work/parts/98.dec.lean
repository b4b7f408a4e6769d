/-! the instructions are what the bytes decode to: method by method, written by program -/
theorem zd_0_0 : ∀ e ∈ (zm_0.2.2.2.2.2.drop 0).take 60, zd_P prog_1_method_1_code e := zd_of (by decide +kernel)
theorem zd_0_1 : ∀ e ∈ (zm_0.2.2.2.2.2.drop 60).take 60, zd_P prog_1_method_1_code e := zd_of (by decide +kernel)
theorem zd_0 : ∀ e ∈ zm_0.2.2.2.2.2, zd_P prog_1_method_1_code e := zd_join _ [(0, 60), (60, 60)] (by decide +kernel) (by
  exact List.forall_mem_cons.mpr ⟨zd_0_0, List.forall_mem_cons.mpr ⟨zd_0_1, fun _ h => absurd h List.not_mem_nil⟩⟩)
theorem zd_1 : ∀ e ∈ zm_1.2.2.2.2.2, zd_P prog_1_method_2_code e := zd_of (by decide +kernel)
theorem zd_2_0 : ∀ e ∈ (zm_2.2.2.2.2.2.drop 0).take 60, zd_P prog_1_method_3_code e := zd_of (by decide +kernel)
theorem zd_2_1 : ∀ e ∈ (zm_2.2.2.2.2.2.drop 60).take 60, zd_P prog_1_method_3_code e := zd_of (by decide +kernel)
theorem zd_2 : ∀ e ∈ zm_2.2.2.2.2.2, zd_P prog_1_method_3_code e := zd_join _ [(0, 60), (60, 60)] (by decide +kernel) (by
  exact List.forall_mem_cons.mpr ⟨zd_2_0, List.forall_mem_cons.mpr ⟨zd_2_1, fun _ h => absurd h List.not_mem_nil⟩⟩)
theorem zd_3 : ∀ e ∈ zm_3.2.2.2.2.2, zd_P prog_1_method_42_code e := zd_of (by decide +kernel)
theorem zd_4 : ∀ e ∈ zm_4.2.2.2.2.2, zd_P prog_1_method_4_code e := zd_of (by decide +kernel)
theorem zd_5 : ∀ e ∈ zm_5.2.2.2.2.2, zd_P prog_1_method_5_code e := zd_of (by decide +kernel)
theorem zd_6 : ∀ e ∈ zm_6.2.2.2.2.2, zd_P prog_1_method_6_code e := zd_of (by decide +kernel)
theorem zd_7 : ∀ e ∈ zm_7.2.2.2.2.2, zd_P prog_1_method_47_code e := zd_of (by decide +kernel)
theorem zd_8_0 : ∀ e ∈ (zm_8.2.2.2.2.2.drop 0).take 60, zd_P prog_1_method_48_code e := zd_of (by decide +kernel)
theorem zd_8_1 : ∀ e ∈ (zm_8.2.2.2.2.2.drop 60).take 60, zd_P prog_1_method_48_code e := zd_of (by decide +kernel)
theorem zd_8 : ∀ e ∈ zm_8.2.2.2.2.2, zd_P prog_1_method_48_code e := zd_join _ [(0, 60), (60, 60)] (by decide +kernel) (by
  exact List.forall_mem_cons.mpr ⟨zd_8_0, List.forall_mem_cons.mpr ⟨zd_8_1, fun _ h => absurd h List.not_mem_nil⟩⟩)
theorem zd_9 : ∀ e ∈ zm_9.2.2.2.2.2, zd_P prog_1_method_45_code e := zd_of (by decide +kernel)
theorem zd_10 : ∀ e ∈ zm_10.2.2.2.2.2, zd_P prog_1_method_7_code e := zd_of (by decide +kernel)
theorem zd_11 : ∀ e ∈ zm_11.2.2.2.2.2, zd_P prog_1_method_8_code e := zd_of (by decide +kernel)
theorem zd_12 : ∀ e ∈ zm_12.2.2.2.2.2, zd_P prog_1_method_9_code e := zd_of (by decide +kernel)
theorem zd_13 : ∀ e ∈ zm_13.2.2.2.2.2, zd_P prog_1_method_10_code e := zd_of (by decide +kernel)
theorem zd_14 : ∀ e ∈ zm_14.2.2.2.2.2, zd_P prog_1_method_49_code e := zd_of (by decide +kernel)
theorem zd_15 : ∀ e ∈ zm_15.2.2.2.2.2, zd_P prog_1_method_50_code e := zd_of (by decide +kernel)
theorem zd_16 : ∀ e ∈ zm_16.2.2.2.2.2, zd_P prog_1_method_11_code e := zd_of (by decide +kernel)
theorem zd_17 : ∀ e ∈ zm_17.2.2.2.2.2, zd_P prog_1_method_51_code e := zd_of (by decide +kernel)
theorem zd_18 : ∀ e ∈ zm_18.2.2.2.2.2, zd_P prog_1_method_12_code e := zd_of (by decide +kernel)
theorem zd_19 : ∀ e ∈ zm_19.2.2.2.2.2, zd_P prog_1_method_13_code e := zd_of (by decide +kernel)
theorem zd_20 : ∀ e ∈ zm_20.2.2.2.2.2, zd_P prog_1_method_14_code e := zd_of (by decide +kernel)
theorem zd_21 : ∀ e ∈ zm_21.2.2.2.2.2, zd_P prog_1_method_52_code e := zd_of (by decide +kernel)
theorem zd_22 : ∀ e ∈ zm_22.2.2.2.2.2, zd_P prog_1_method_15_code e := zd_of (by decide +kernel)
theorem zd_23 : ∀ e ∈ zm_23.2.2.2.2.2, zd_P prog_1_method_16_code e := zd_of (by decide +kernel)
theorem zd_24 : ∀ e ∈ zm_24.2.2.2.2.2, zd_P prog_1_method_17_code e := zd_of (by decide +kernel)
theorem zd_25 : ∀ e ∈ zm_25.2.2.2.2.2, zd_P prog_1_method_18_code e := zd_of (by decide +kernel)
theorem zd_26_0 : ∀ e ∈ (zm_26.2.2.2.2.2.drop 0).take 60, zd_P prog_1_method_54_code e := zd_of (by decide +kernel)
theorem zd_26_1 : ∀ e ∈ (zm_26.2.2.2.2.2.drop 60).take 60, zd_P prog_1_method_54_code e := zd_of (by decide +kernel)
theorem zd_26 : ∀ e ∈ zm_26.2.2.2.2.2, zd_P prog_1_method_54_code e := zd_join _ [(0, 60), (60, 60)] (by decide +kernel) (by
  exact List.forall_mem_cons.mpr ⟨zd_26_0, List.forall_mem_cons.mpr ⟨zd_26_1, fun _ h => absurd h List.not_mem_nil⟩⟩)
theorem zd_27 : ∀ e ∈ zm_27.2.2.2.2.2, zd_P prog_1_method_53_code e := zd_of (by decide +kernel)
theorem zd_28 : ∀ e ∈ zm_28.2.2.2.2.2, zd_P prog_1_method_19_code e := zd_of (by decide +kernel)
theorem zd_29_0 : ∀ e ∈ (zm_29.2.2.2.2.2.drop 0).take 60, zd_P prog_1_method_55_code e := zd_of (by decide +kernel)
theorem zd_29_1 : ∀ e ∈ (zm_29.2.2.2.2.2.drop 60).take 60, zd_P prog_1_method_55_code e := zd_of (by decide +kernel)
theorem zd_29_2 : ∀ e ∈ (zm_29.2.2.2.2.2.drop 120).take 60, zd_P prog_1_method_55_code e := zd_of (by decide +kernel)
theorem zd_29 : ∀ e ∈ zm_29.2.2.2.2.2, zd_P prog_1_method_55_code e := zd_join _ [(0, 60), (60, 60), (120, 60)] (by decide +kernel) (by
  exact List.forall_mem_cons.mpr ⟨zd_29_0, List.forall_mem_cons.mpr ⟨zd_29_1, List.forall_mem_cons.mpr ⟨zd_29_2, fun _ h => absurd h List.not_mem_nil⟩⟩⟩)
theorem zd_30 : ∀ e ∈ zm_30.2.2.2.2.2, zd_P prog_1_method_20_code e := zd_of (by decide +kernel)
theorem zd_31 : ∀ e ∈ zm_31.2.2.2.2.2, zd_P prog_1_method_21_code e := zd_of (by decide +kernel)
theorem zd_32 : ∀ e ∈ zm_32.2.2.2.2.2, zd_P prog_1_method_22_code e := zd_of (by decide +kernel)
theorem zd_33 : ∀ e ∈ zm_33.2.2.2.2.2, zd_P prog_1_method_23_code e := zd_of (by decide +kernel)
theorem zd_34 : ∀ e ∈ zm_34.2.2.2.2.2, zd_P prog_1_method_24_code e := zd_of (by decide +kernel)
theorem zd_35 : ∀ e ∈ zm_35.2.2.2.2.2, zd_P prog_1_method_25_code e := zd_of (by decide +kernel)
theorem zd_36 : ∀ e ∈ zm_36.2.2.2.2.2, zd_P prog_1_method_26_code e := zd_of (by decide +kernel)
theorem zd_37 : ∀ e ∈ zm_37.2.2.2.2.2, zd_P prog_1_method_57_code e := zd_of (by decide +kernel)
theorem zd_38 : ∀ e ∈ zm_38.2.2.2.2.2, zd_P prog_1_method_43_code e := zd_of (by decide +kernel)
theorem zd_39 : ∀ e ∈ zm_39.2.2.2.2.2, zd_P prog_1_method_58_code e := zd_of (by decide +kernel)
theorem zd_40 : ∀ e ∈ zm_40.2.2.2.2.2, zd_P prog_1_method_27_code e := zd_of (by decide +kernel)
theorem zd_41_0 : ∀ e ∈ (zm_41.2.2.2.2.2.drop 0).take 60, zd_P prog_1_method_59_code e := zd_of (by decide +kernel)
theorem zd_41_1 : ∀ e ∈ (zm_41.2.2.2.2.2.drop 60).take 60, zd_P prog_1_method_59_code e := zd_of (by decide +kernel)
theorem zd_41 : ∀ e ∈ zm_41.2.2.2.2.2, zd_P prog_1_method_59_code e := zd_join _ [(0, 60), (60, 60)] (by decide +kernel) (by
  exact List.forall_mem_cons.mpr ⟨zd_41_0, List.forall_mem_cons.mpr ⟨zd_41_1, fun _ h => absurd h List.not_mem_nil⟩⟩)
theorem zd_42 : ∀ e ∈ zm_42.2.2.2.2.2, zd_P prog_1_method_28_code e := zd_of (by decide +kernel)
theorem zd_43 : ∀ e ∈ zm_43.2.2.2.2.2, zd_P prog_1_method_29_code e := zd_of (by decide +kernel)
theorem zd_44_0 : ∀ e ∈ (zm_44.2.2.2.2.2.drop 0).take 60, zd_P prog_1_method_30_code e := zd_of (by decide +kernel)
theorem zd_44_1 : ∀ e ∈ (zm_44.2.2.2.2.2.drop 60).take 60, zd_P prog_1_method_30_code e := zd_of (by decide +kernel)
theorem zd_44 : ∀ e ∈ zm_44.2.2.2.2.2, zd_P prog_1_method_30_code e := zd_join _ [(0, 60), (60, 60)] (by decide +kernel) (by
  exact List.forall_mem_cons.mpr ⟨zd_44_0, List.forall_mem_cons.mpr ⟨zd_44_1, fun _ h => absurd h List.not_mem_nil⟩⟩)
theorem zd_45_0 : ∀ e ∈ (zm_45.2.2.2.2.2.drop 0).take 60, zd_P prog_1_method_31_code e := zd_of (by decide +kernel)
theorem zd_45_1 : ∀ e ∈ (zm_45.2.2.2.2.2.drop 60).take 60, zd_P prog_1_method_31_code e := zd_of (by decide +kernel)
theorem zd_45 : ∀ e ∈ zm_45.2.2.2.2.2, zd_P prog_1_method_31_code e := zd_join _ [(0, 60), (60, 60)] (by decide +kernel) (by
  exact List.forall_mem_cons.mpr ⟨zd_45_0, List.forall_mem_cons.mpr ⟨zd_45_1, fun _ h => absurd h List.not_mem_nil⟩⟩)
theorem zd_46 : ∀ e ∈ zm_46.2.2.2.2.2, zd_P prog_1_method_32_code e := zd_of (by decide +kernel)
theorem zd_47 : ∀ e ∈ zm_47.2.2.2.2.2, zd_P prog_1_method_44_code e := zd_of (by decide +kernel)
theorem zd_48 : ∀ e ∈ zm_48.2.2.2.2.2, zd_P prog_1_method_56_code e := zd_of (by decide +kernel)
theorem zd_49 : ∀ e ∈ zm_49.2.2.2.2.2, zd_P prog_1_method_33_code e := zd_of (by decide +kernel)
theorem zd_50_0 : ∀ e ∈ (zm_50.2.2.2.2.2.drop 0).take 60, zd_P prog_1_method_34_code e := zd_of (by decide +kernel)
theorem zd_50_1 : ∀ e ∈ (zm_50.2.2.2.2.2.drop 60).take 60, zd_P prog_1_method_34_code e := zd_of (by decide +kernel)
theorem zd_50 : ∀ e ∈ zm_50.2.2.2.2.2, zd_P prog_1_method_34_code e := zd_join _ [(0, 60), (60, 60)] (by decide +kernel) (by
  exact List.forall_mem_cons.mpr ⟨zd_50_0, List.forall_mem_cons.mpr ⟨zd_50_1, fun _ h => absurd h List.not_mem_nil⟩⟩)
theorem zd_51 : ∀ e ∈ zm_51.2.2.2.2.2, zd_P prog_1_method_46_code e := zd_of (by decide +kernel)
theorem zd_52 : ∀ e ∈ zm_52.2.2.2.2.2, zd_P prog_1_method_35_code e := zd_of (by decide +kernel)
theorem zd_53 : ∀ e ∈ zm_53.2.2.2.2.2, zd_P prog_1_method_36_code e := zd_of (by decide +kernel)
theorem zd_54 : ∀ e ∈ zm_54.2.2.2.2.2, zd_P prog_1_method_37_code e := zd_of (by decide +kernel)
theorem zd_55 : ∀ e ∈ zm_55.2.2.2.2.2, zd_P prog_1_method_38_code e := zd_of (by decide +kernel)
theorem zd_56_0 : ∀ e ∈ (zm_56.2.2.2.2.2.drop 0).take 60, zd_P prog_1_method_39_code e := zd_of (by decide +kernel)
theorem zd_56_1 : ∀ e ∈ (zm_56.2.2.2.2.2.drop 60).take 60, zd_P prog_1_method_39_code e := zd_of (by decide +kernel)
theorem zd_56 : ∀ e ∈ zm_56.2.2.2.2.2, zd_P prog_1_method_39_code e := zd_join _ [(0, 60), (60, 60)] (by decide +kernel) (by
  exact List.forall_mem_cons.mpr ⟨zd_56_0, List.forall_mem_cons.mpr ⟨zd_56_1, fun _ h => absurd h List.not_mem_nil⟩⟩)
theorem zd_57_0 : ∀ e ∈ (zm_57.2.2.2.2.2.drop 0).take 60, zd_P prog_1_method_40_code e := zd_of (by decide +kernel)
theorem zd_57_1 : ∀ e ∈ (zm_57.2.2.2.2.2.drop 60).take 60, zd_P prog_1_method_40_code e := zd_of (by decide +kernel)
theorem zd_57 : ∀ e ∈ zm_57.2.2.2.2.2, zd_P prog_1_method_40_code e := zd_join _ [(0, 60), (60, 60)] (by decide +kernel) (by
  exact List.forall_mem_cons.mpr ⟨zd_57_0, List.forall_mem_cons.mpr ⟨zd_57_1, fun _ h => absurd h List.not_mem_nil⟩⟩)
theorem zd_58 : ∀ e ∈ zm_58.2.2.2.2.2, zd_P prog_1_method_41_code e := zd_of (by decide +kernel)
theorem zd_59 : ∀ e ∈ zm_59.2.2.2.2.2, zd_P prog_1_method_60_code e := zd_of (by decide +kernel)
theorem zd_60 : ∀ e ∈ zm_60.2.2.2.2.2, zd_P prog_1_method_61_code e := zd_of (by decide +kernel)
theorem zd_61 : ∀ e ∈ zm_61.2.2.2.2.2, zd_P prog_2_method_1_code e := zd_of (by decide +kernel)
theorem zd_62 : ∀ e ∈ zm_62.2.2.2.2.2, zd_P prog_2_method_2_code e := zd_of (by decide +kernel)
theorem zd_63 : ∀ e ∈ zm_63.2.2.2.2.2, zd_P prog_2_method_3_code e := zd_of (by decide +kernel)
theorem zd_64_0 : ∀ e ∈ (zm_64.2.2.2.2.2.drop 0).take 60, zd_P prog_2_method_6_code e := zd_of (by decide +kernel)
theorem zd_64_1 : ∀ e ∈ (zm_64.2.2.2.2.2.drop 60).take 60, zd_P prog_2_method_6_code e := zd_of (by decide +kernel)
theorem zd_64 : ∀ e ∈ zm_64.2.2.2.2.2, zd_P prog_2_method_6_code e := zd_join _ [(0, 60), (60, 60)] (by decide +kernel) (by
  exact List.forall_mem_cons.mpr ⟨zd_64_0, List.forall_mem_cons.mpr ⟨zd_64_1, fun _ h => absurd h List.not_mem_nil⟩⟩)
theorem zd_65_0 : ∀ e ∈ (zm_65.2.2.2.2.2.drop 0).take 60, zd_P prog_2_method_8_code e := zd_of (by decide +kernel)
theorem zd_65_1 : ∀ e ∈ (zm_65.2.2.2.2.2.drop 60).take 60, zd_P prog_2_method_8_code e := zd_of (by decide +kernel)
theorem zd_65 : ∀ e ∈ zm_65.2.2.2.2.2, zd_P prog_2_method_8_code e := zd_join _ [(0, 60), (60, 60)] (by decide +kernel) (by
  exact List.forall_mem_cons.mpr ⟨zd_65_0, List.forall_mem_cons.mpr ⟨zd_65_1, fun _ h => absurd h List.not_mem_nil⟩⟩)
theorem zd_66 : ∀ e ∈ zm_66.2.2.2.2.2, zd_P prog_2_method_7_code e := zd_of (by decide +kernel)
theorem zd_67 : ∀ e ∈ zm_67.2.2.2.2.2, zd_P prog_2_method_9_code e := zd_of (by decide +kernel)
theorem zd_68 : ∀ e ∈ zm_68.2.2.2.2.2, zd_P prog_2_method_10_code e := zd_of (by decide +kernel)
theorem zd_69_0 : ∀ e ∈ (zm_69.2.2.2.2.2.drop 0).take 60, zd_P prog_2_method_11_code e := zd_of (by decide +kernel)
theorem zd_69_1 : ∀ e ∈ (zm_69.2.2.2.2.2.drop 60).take 60, zd_P prog_2_method_11_code e := zd_of (by decide +kernel)
theorem zd_69 : ∀ e ∈ zm_69.2.2.2.2.2, zd_P prog_2_method_11_code e := zd_join _ [(0, 60), (60, 60)] (by decide +kernel) (by
  exact List.forall_mem_cons.mpr ⟨zd_69_0, List.forall_mem_cons.mpr ⟨zd_69_1, fun _ h => absurd h List.not_mem_nil⟩⟩)
theorem zd_70_0 : ∀ e ∈ (zm_70.2.2.2.2.2.drop 0).take 60, zd_P prog_2_method_12_code e := zd_of (by decide +kernel)
theorem zd_70_1 : ∀ e ∈ (zm_70.2.2.2.2.2.drop 60).take 60, zd_P prog_2_method_12_code e := zd_of (by decide +kernel)
theorem zd_70 : ∀ e ∈ zm_70.2.2.2.2.2, zd_P prog_2_method_12_code e := zd_join _ [(0, 60), (60, 60)] (by decide +kernel) (by
  exact List.forall_mem_cons.mpr ⟨zd_70_0, List.forall_mem_cons.mpr ⟨zd_70_1, fun _ h => absurd h List.not_mem_nil⟩⟩)
theorem zd_71_0 : ∀ e ∈ (zm_71.2.2.2.2.2.drop 0).take 60, zd_P prog_2_method_13_code e := zd_of (by decide +kernel)
theorem zd_71_1 : ∀ e ∈ (zm_71.2.2.2.2.2.drop 60).take 60, zd_P prog_2_method_13_code e := zd_of (by decide +kernel)
theorem zd_71 : ∀ e ∈ zm_71.2.2.2.2.2, zd_P prog_2_method_13_code e := zd_join _ [(0, 60), (60, 60)] (by decide +kernel) (by
  exact List.forall_mem_cons.mpr ⟨zd_71_0, List.forall_mem_cons.mpr ⟨zd_71_1, fun _ h => absurd h List.not_mem_nil⟩⟩)
theorem zd_72_0 : ∀ e ∈ (zm_72.2.2.2.2.2.drop 0).take 60, zd_P prog_2_method_14_code e := zd_of (by decide +kernel)
theorem zd_72_1 : ∀ e ∈ (zm_72.2.2.2.2.2.drop 60).take 60, zd_P prog_2_method_14_code e := zd_of (by decide +kernel)
theorem zd_72 : ∀ e ∈ zm_72.2.2.2.2.2, zd_P prog_2_method_14_code e := zd_join _ [(0, 60), (60, 60)] (by decide +kernel) (by
  exact List.forall_mem_cons.mpr ⟨zd_72_0, List.forall_mem_cons.mpr ⟨zd_72_1, fun _ h => absurd h List.not_mem_nil⟩⟩)
theorem zd_73 : ∀ e ∈ zm_73.2.2.2.2.2, zd_P prog_2_method_15_code e := zd_of (by decide +kernel)
theorem zd_74 : ∀ e ∈ zm_74.2.2.2.2.2, zd_P prog_2_method_4_code e := zd_of (by decide +kernel)
theorem zd_75 : ∀ e ∈ zm_75.2.2.2.2.2, zd_P prog_2_method_18_code e := zd_of (by decide +kernel)
theorem zd_76 : ∀ e ∈ zm_76.2.2.2.2.2, zd_P prog_2_method_16_code e := zd_of (by decide +kernel)
theorem zd_77_0 : ∀ e ∈ (zm_77.2.2.2.2.2.drop 0).take 60, zd_P prog_2_method_17_code e := zd_of (by decide +kernel)
theorem zd_77_1 : ∀ e ∈ (zm_77.2.2.2.2.2.drop 60).take 60, zd_P prog_2_method_17_code e := zd_of (by decide +kernel)
theorem zd_77 : ∀ e ∈ zm_77.2.2.2.2.2, zd_P prog_2_method_17_code e := zd_join _ [(0, 60), (60, 60)] (by decide +kernel) (by
  exact List.forall_mem_cons.mpr ⟨zd_77_0, List.forall_mem_cons.mpr ⟨zd_77_1, fun _ h => absurd h List.not_mem_nil⟩⟩)
theorem zd_78_0 : ∀ e ∈ (zm_78.2.2.2.2.2.drop 0).take 60, zd_P prog_2_method_19_code e := zd_of (by decide +kernel)
theorem zd_78_1 : ∀ e ∈ (zm_78.2.2.2.2.2.drop 60).take 60, zd_P prog_2_method_19_code e := zd_of (by decide +kernel)
theorem zd_78 : ∀ e ∈ zm_78.2.2.2.2.2, zd_P prog_2_method_19_code e := zd_join _ [(0, 60), (60, 60)] (by decide +kernel) (by
  exact List.forall_mem_cons.mpr ⟨zd_78_0, List.forall_mem_cons.mpr ⟨zd_78_1, fun _ h => absurd h List.not_mem_nil⟩⟩)
theorem zd_79_0 : ∀ e ∈ (zm_79.2.2.2.2.2.drop 0).take 60, zd_P prog_2_method_21_code e := zd_of (by decide +kernel)
theorem zd_79_1 : ∀ e ∈ (zm_79.2.2.2.2.2.drop 60).take 60, zd_P prog_2_method_21_code e := zd_of (by decide +kernel)
theorem zd_79 : ∀ e ∈ zm_79.2.2.2.2.2, zd_P prog_2_method_21_code e := zd_join _ [(0, 60), (60, 60)] (by decide +kernel) (by
  exact List.forall_mem_cons.mpr ⟨zd_79_0, List.forall_mem_cons.mpr ⟨zd_79_1, fun _ h => absurd h List.not_mem_nil⟩⟩)
theorem zd_80_0 : ∀ e ∈ (zm_80.2.2.2.2.2.drop 0).take 60, zd_P prog_2_method_22_code e := zd_of (by decide +kernel)
theorem zd_80_1 : ∀ e ∈ (zm_80.2.2.2.2.2.drop 60).take 60, zd_P prog_2_method_22_code e := zd_of (by decide +kernel)
theorem zd_80 : ∀ e ∈ zm_80.2.2.2.2.2, zd_P prog_2_method_22_code e := zd_join _ [(0, 60), (60, 60)] (by decide +kernel) (by
  exact List.forall_mem_cons.mpr ⟨zd_80_0, List.forall_mem_cons.mpr ⟨zd_80_1, fun _ h => absurd h List.not_mem_nil⟩⟩)
theorem zd_81 : ∀ e ∈ zm_81.2.2.2.2.2, zd_P prog_2_method_23_code e := zd_of (by decide +kernel)
theorem zd_82_0 : ∀ e ∈ (zm_82.2.2.2.2.2.drop 0).take 60, zd_P prog_2_method_24_code e := zd_of (by decide +kernel)
theorem zd_82_1 : ∀ e ∈ (zm_82.2.2.2.2.2.drop 60).take 60, zd_P prog_2_method_24_code e := zd_of (by decide +kernel)
theorem zd_82 : ∀ e ∈ zm_82.2.2.2.2.2, zd_P prog_2_method_24_code e := zd_join _ [(0, 60), (60, 60)] (by decide +kernel) (by
  exact List.forall_mem_cons.mpr ⟨zd_82_0, List.forall_mem_cons.mpr ⟨zd_82_1, fun _ h => absurd h List.not_mem_nil⟩⟩)
theorem zd_83_0 : ∀ e ∈ (zm_83.2.2.2.2.2.drop 0).take 60, zd_P prog_2_method_25_code e := zd_of (by decide +kernel)
theorem zd_83_1 : ∀ e ∈ (zm_83.2.2.2.2.2.drop 60).take 60, zd_P prog_2_method_25_code e := zd_of (by decide +kernel)
theorem zd_83 : ∀ e ∈ zm_83.2.2.2.2.2, zd_P prog_2_method_25_code e := zd_join _ [(0, 60), (60, 60)] (by decide +kernel) (by
  exact List.forall_mem_cons.mpr ⟨zd_83_0, List.forall_mem_cons.mpr ⟨zd_83_1, fun _ h => absurd h List.not_mem_nil⟩⟩)
theorem zd_84 : ∀ e ∈ zm_84.2.2.2.2.2, zd_P prog_2_method_20_code e := zd_of (by decide +kernel)
theorem zd_85 : ∀ e ∈ zm_85.2.2.2.2.2, zd_P prog_2_method_5_code e := zd_of (by decide +kernel)
theorem zd_86 : ∀ e ∈ zm_86.2.2.2.2.2, zd_P prog_3_method_1_code e := zd_of (by decide +kernel)
theorem zd_87 : ∀ e ∈ zm_87.2.2.2.2.2, zd_P prog_3_method_4_code e := zd_of (by decide +kernel)
theorem zd_88 : ∀ e ∈ zm_88.2.2.2.2.2, zd_P prog_3_method_5_code e := zd_of (by decide +kernel)
theorem zd_89 : ∀ e ∈ zm_89.2.2.2.2.2, zd_P prog_3_method_2_code e := zd_of (by decide +kernel)
theorem zd_90 : ∀ e ∈ zm_90.2.2.2.2.2, zd_P prog_3_method_3_code e := zd_of (by decide +kernel)
theorem zd_91 : ∀ e ∈ zm_91.2.2.2.2.2, zd_P prog_4_method_1_code e := zd_of (by decide +kernel)
theorem zd_92 : ∀ e ∈ zm_92.2.2.2.2.2, zd_P prog_4_method_7_code e := zd_of (by decide +kernel)
theorem zd_93 : ∀ e ∈ zm_93.2.2.2.2.2, zd_P prog_4_method_2_code e := zd_of (by decide +kernel)
theorem zd_94 : ∀ e ∈ zm_94.2.2.2.2.2, zd_P prog_4_method_4_code e := zd_of (by decide +kernel)
theorem zd_95 : ∀ e ∈ zm_95.2.2.2.2.2, zd_P prog_4_method_5_code e := zd_of (by decide +kernel)
theorem zd_96 : ∀ e ∈ zm_96.2.2.2.2.2, zd_P prog_4_method_6_code e := zd_of (by decide +kernel)
theorem zd_97 : ∀ e ∈ zm_97.2.2.2.2.2, zd_P prog_4_method_3_code e := zd_of (by decide +kernel)
theorem zd_98 : ∀ e ∈ zm_98.2.2.2.2.2, zd_P prog_4_method_8_code e := zd_of (by decide +kernel)
theorem zd_99 : ∀ e ∈ zm_99.2.2.2.2.2, zd_P prog_4_method_9_code e := zd_of (by decide +kernel)
theorem zd_100 : ∀ e ∈ zm_100.2.2.2.2.2, zd_P prog_5_method_1_code e := zd_of (by decide +kernel)
theorem zd_101 : ∀ e ∈ zm_101.2.2.2.2.2, zd_P prog_5_method_2_code e := zd_of (by decide +kernel)
theorem zd_102 : ∀ e ∈ zm_102.2.2.2.2.2, zd_P prog_5_method_3_code e := zd_of (by decide +kernel)
theorem zd_103_0 : ∀ e ∈ (zm_103.2.2.2.2.2.drop 0).take 60, zd_P prog_5_method_15_code e := zd_of (by decide +kernel)
theorem zd_103_1 : ∀ e ∈ (zm_103.2.2.2.2.2.drop 60).take 60, zd_P prog_5_method_15_code e := zd_of (by decide +kernel)
theorem zd_103 : ∀ e ∈ zm_103.2.2.2.2.2, zd_P prog_5_method_15_code e := zd_join _ [(0, 60), (60, 60)] (by decide +kernel) (by
  exact List.forall_mem_cons.mpr ⟨zd_103_0, List.forall_mem_cons.mpr ⟨zd_103_1, fun _ h => absurd h List.not_mem_nil⟩⟩)
theorem zd_104 : ∀ e ∈ zm_104.2.2.2.2.2, zd_P prog_5_method_14_code e := zd_of (by decide +kernel)
theorem zd_105 : ∀ e ∈ zm_105.2.2.2.2.2, zd_P prog_5_method_17_code e := zd_of (by decide +kernel)
theorem zd_106 : ∀ e ∈ zm_106.2.2.2.2.2, zd_P prog_5_method_18_code e := zd_of (by decide +kernel)
theorem zd_107_0 : ∀ e ∈ (zm_107.2.2.2.2.2.drop 0).take 60, zd_P prog_5_method_19_code e := zd_of (by decide +kernel)
theorem zd_107_1 : ∀ e ∈ (zm_107.2.2.2.2.2.drop 60).take 60, zd_P prog_5_method_19_code e := zd_of (by decide +kernel)
theorem zd_107 : ∀ e ∈ zm_107.2.2.2.2.2, zd_P prog_5_method_19_code e := zd_join _ [(0, 60), (60, 60)] (by decide +kernel) (by
  exact List.forall_mem_cons.mpr ⟨zd_107_0, List.forall_mem_cons.mpr ⟨zd_107_1, fun _ h => absurd h List.not_mem_nil⟩⟩)
theorem zd_108 : ∀ e ∈ zm_108.2.2.2.2.2, zd_P prog_5_method_20_code e := zd_of (by decide +kernel)
theorem zd_109 : ∀ e ∈ zm_109.2.2.2.2.2, zd_P prog_5_method_16_code e := zd_of (by decide +kernel)
theorem zd_110 : ∀ e ∈ zm_110.2.2.2.2.2, zd_P prog_5_method_5_code e := zd_of (by decide +kernel)
theorem zd_111 : ∀ e ∈ zm_111.2.2.2.2.2, zd_P prog_5_method_4_code e := zd_of (by decide +kernel)
theorem zd_112 : ∀ e ∈ zm_112.2.2.2.2.2, zd_P prog_5_method_7_code e := zd_of (by decide +kernel)
theorem zd_113 : ∀ e ∈ zm_113.2.2.2.2.2, zd_P prog_5_method_8_code e := zd_of (by decide +kernel)
theorem zd_114 : ∀ e ∈ zm_114.2.2.2.2.2, zd_P prog_5_method_9_code e := zd_of (by decide +kernel)
theorem zd_115 : ∀ e ∈ zm_115.2.2.2.2.2, zd_P prog_5_method_6_code e := zd_of (by decide +kernel)
theorem zd_116 : ∀ e ∈ zm_116.2.2.2.2.2, zd_P prog_5_method_10_code e := zd_of (by decide +kernel)
theorem zd_117 : ∀ e ∈ zm_117.2.2.2.2.2, zd_P prog_5_method_11_code e := zd_of (by decide +kernel)
theorem zd_118 : ∀ e ∈ zm_118.2.2.2.2.2, zd_P prog_5_method_12_code e := zd_of (by decide +kernel)
theorem zd_119 : ∀ e ∈ zm_119.2.2.2.2.2, zd_P prog_5_method_13_code e := zd_of (by decide +kernel)
theorem zd_120 : ∀ e ∈ zm_120.2.2.2.2.2, zd_P prog_6_method_1_code e := zd_of (by decide +kernel)
theorem zd_121 : ∀ e ∈ zm_121.2.2.2.2.2, zd_P prog_6_method_2_code e := zd_of (by decide +kernel)
theorem zd_122 : ∀ e ∈ zm_122.2.2.2.2.2, zd_P prog_6_method_3_code e := zd_of (by decide +kernel)
theorem zd_123 : ∀ e ∈ zm_123.2.2.2.2.2, zd_P prog_6_method_4_code e := zd_of (by decide +kernel)
theorem zd_124_0 : ∀ e ∈ (zm_124.2.2.2.2.2.drop 0).take 60, zd_P prog_6_method_5_code e := zd_of (by decide +kernel)
theorem zd_124_1 : ∀ e ∈ (zm_124.2.2.2.2.2.drop 60).take 60, zd_P prog_6_method_5_code e := zd_of (by decide +kernel)
theorem zd_124 : ∀ e ∈ zm_124.2.2.2.2.2, zd_P prog_6_method_5_code e := zd_join _ [(0, 60), (60, 60)] (by decide +kernel) (by
  exact List.forall_mem_cons.mpr ⟨zd_124_0, List.forall_mem_cons.mpr ⟨zd_124_1, fun _ h => absurd h List.not_mem_nil⟩⟩)
theorem zd_125 : ∀ e ∈ zm_125.2.2.2.2.2, zd_P prog_6_method_6_code e := zd_of (by decide +kernel)
theorem zd_126_0 : ∀ e ∈ (zm_126.2.2.2.2.2.drop 0).take 60, zd_P prog_8_method_1_code e := zd_of (by decide +kernel)
theorem zd_126_1 : ∀ e ∈ (zm_126.2.2.2.2.2.drop 60).take 60, zd_P prog_8_method_1_code e := zd_of (by decide +kernel)
theorem zd_126_2 : ∀ e ∈ (zm_126.2.2.2.2.2.drop 120).take 60, zd_P prog_8_method_1_code e := zd_of (by decide +kernel)
theorem zd_126_3 : ∀ e ∈ (zm_126.2.2.2.2.2.drop 180).take 60, zd_P prog_8_method_1_code e := zd_of (by decide +kernel)
theorem zd_126_4 : ∀ e ∈ (zm_126.2.2.2.2.2.drop 240).take 60, zd_P prog_8_method_1_code e := zd_of (by decide +kernel)
theorem zd_126_5 : ∀ e ∈ (zm_126.2.2.2.2.2.drop 300).take 60, zd_P prog_8_method_1_code e := zd_of (by decide +kernel)
theorem zd_126_6 : ∀ e ∈ (zm_126.2.2.2.2.2.drop 360).take 60, zd_P prog_8_method_1_code e := zd_of (by decide +kernel)
theorem zd_126_7 : ∀ e ∈ (zm_126.2.2.2.2.2.drop 420).take 60, zd_P prog_8_method_1_code e := zd_of (by decide +kernel)
theorem zd_126_8 : ∀ e ∈ (zm_126.2.2.2.2.2.drop 480).take 60, zd_P prog_8_method_1_code e := zd_of (by decide +kernel)
theorem zd_126_9 : ∀ e ∈ (zm_126.2.2.2.2.2.drop 540).take 60, zd_P prog_8_method_1_code e := zd_of (by decide +kernel)
theorem zd_126_10 : ∀ e ∈ (zm_126.2.2.2.2.2.drop 600).take 60, zd_P prog_8_method_1_code e := zd_of (by decide +kernel)
theorem zd_126 : ∀ e ∈ zm_126.2.2.2.2.2, zd_P prog_8_method_1_code e := zd_join _ [(0, 60), (60, 60), (120, 60), (180, 60), (240, 60), (300, 60), (360, 60), (420, 60), (480, 60), (540, 60), (600, 60)] (by decide +kernel) (by
  exact List.forall_mem_cons.mpr ⟨zd_126_0, List.forall_mem_cons.mpr ⟨zd_126_1, List.forall_mem_cons.mpr ⟨zd_126_2, List.forall_mem_cons.mpr ⟨zd_126_3, List.forall_mem_cons.mpr ⟨zd_126_4, List.forall_mem_cons.mpr ⟨zd_126_5, List.forall_mem_cons.mpr ⟨zd_126_6, List.forall_mem_cons.mpr ⟨zd_126_7, List.forall_mem_cons.mpr ⟨zd_126_8, List.forall_mem_cons.mpr ⟨zd_126_9, List.forall_mem_cons.mpr ⟨zd_126_10, fun _ h => absurd h List.not_mem_nil⟩⟩⟩⟩⟩⟩⟩⟩⟩⟩⟩)
theorem zd_127_0 : ∀ e ∈ (zm_127.2.2.2.2.2.drop 0).take 60, zd_P prog_8_method_24_code e := zd_of (by decide +kernel)
theorem zd_127_1 : ∀ e ∈ (zm_127.2.2.2.2.2.drop 60).take 60, zd_P prog_8_method_24_code e := zd_of (by decide +kernel)
theorem zd_127 : ∀ e ∈ zm_127.2.2.2.2.2, zd_P prog_8_method_24_code e := zd_join _ [(0, 60), (60, 60)] (by decide +kernel) (by
  exact List.forall_mem_cons.mpr ⟨zd_127_0, List.forall_mem_cons.mpr ⟨zd_127_1, fun _ h => absurd h List.not_mem_nil⟩⟩)
theorem zd_128_0 : ∀ e ∈ (zm_128.2.2.2.2.2.drop 0).take 60, zd_P prog_8_method_15_code e := zd_of (by decide +kernel)
theorem zd_128_1 : ∀ e ∈ (zm_128.2.2.2.2.2.drop 60).take 60, zd_P prog_8_method_15_code e := zd_of (by decide +kernel)
theorem zd_128_2 : ∀ e ∈ (zm_128.2.2.2.2.2.drop 120).take 60, zd_P prog_8_method_15_code e := zd_of (by decide +kernel)
theorem zd_128_3 : ∀ e ∈ (zm_128.2.2.2.2.2.drop 180).take 60, zd_P prog_8_method_15_code e := zd_of (by decide +kernel)
theorem zd_128 : ∀ e ∈ zm_128.2.2.2.2.2, zd_P prog_8_method_15_code e := zd_join _ [(0, 60), (60, 60), (120, 60), (180, 60)] (by decide +kernel) (by
  exact List.forall_mem_cons.mpr ⟨zd_128_0, List.forall_mem_cons.mpr ⟨zd_128_1, List.forall_mem_cons.mpr ⟨zd_128_2, List.forall_mem_cons.mpr ⟨zd_128_3, fun _ h => absurd h List.not_mem_nil⟩⟩⟩⟩)
theorem zd_129 : ∀ e ∈ zm_129.2.2.2.2.2, zd_P prog_8_method_3_code e := zd_of (by decide +kernel)
theorem zd_130 : ∀ e ∈ zm_130.2.2.2.2.2, zd_P prog_8_method_14_code e := zd_of (by decide +kernel)
theorem zd_131_0 : ∀ e ∈ (zm_131.2.2.2.2.2.drop 0).take 60, zd_P prog_8_method_23_code e := zd_of (by decide +kernel)
theorem zd_131_1 : ∀ e ∈ (zm_131.2.2.2.2.2.drop 60).take 60, zd_P prog_8_method_23_code e := zd_of (by decide +kernel)
theorem zd_131_2 : ∀ e ∈ (zm_131.2.2.2.2.2.drop 120).take 60, zd_P prog_8_method_23_code e := zd_of (by decide +kernel)
theorem zd_131 : ∀ e ∈ zm_131.2.2.2.2.2, zd_P prog_8_method_23_code e := zd_join _ [(0, 60), (60, 60), (120, 60)] (by decide +kernel) (by
  exact List.forall_mem_cons.mpr ⟨zd_131_0, List.forall_mem_cons.mpr ⟨zd_131_1, List.forall_mem_cons.mpr ⟨zd_131_2, fun _ h => absurd h List.not_mem_nil⟩⟩⟩)
theorem zd_132 : ∀ e ∈ zm_132.2.2.2.2.2, zd_P prog_8_method_17_code e := zd_of (by decide +kernel)
theorem zd_133 : ∀ e ∈ zm_133.2.2.2.2.2, zd_P prog_8_method_18_code e := zd_of (by decide +kernel)
theorem zd_134 : ∀ e ∈ zm_134.2.2.2.2.2, zd_P prog_8_method_16_code e := zd_of (by decide +kernel)
theorem zd_135 : ∀ e ∈ zm_135.2.2.2.2.2, zd_P prog_8_method_20_code e := zd_of (by decide +kernel)
theorem zd_136 : ∀ e ∈ zm_136.2.2.2.2.2, zd_P prog_8_method_19_code e := zd_of (by decide +kernel)
theorem zd_137 : ∀ e ∈ zm_137.2.2.2.2.2, zd_P prog_8_method_22_code e := zd_of (by decide +kernel)
theorem zd_138 : ∀ e ∈ zm_138.2.2.2.2.2, zd_P prog_8_method_21_code e := zd_of (by decide +kernel)
theorem zd_139 : ∀ e ∈ zm_139.2.2.2.2.2, zd_P prog_8_method_11_code e := zd_of (by decide +kernel)
theorem zd_140 : ∀ e ∈ zm_140.2.2.2.2.2, zd_P prog_8_method_10_code e := zd_of (by decide +kernel)
theorem zd_141_0 : ∀ e ∈ (zm_141.2.2.2.2.2.drop 0).take 60, zd_P prog_8_method_13_code e := zd_of (by decide +kernel)
theorem zd_141_1 : ∀ e ∈ (zm_141.2.2.2.2.2.drop 60).take 60, zd_P prog_8_method_13_code e := zd_of (by decide +kernel)
theorem zd_141 : ∀ e ∈ zm_141.2.2.2.2.2, zd_P prog_8_method_13_code e := zd_join _ [(0, 60), (60, 60)] (by decide +kernel) (by
  exact List.forall_mem_cons.mpr ⟨zd_141_0, List.forall_mem_cons.mpr ⟨zd_141_1, fun _ h => absurd h List.not_mem_nil⟩⟩)
theorem zd_142 : ∀ e ∈ zm_142.2.2.2.2.2, zd_P prog_8_method_12_code e := zd_of (by decide +kernel)
theorem zd_143 : ∀ e ∈ zm_143.2.2.2.2.2, zd_P prog_8_method_27_code e := zd_of (by decide +kernel)
theorem zd_144 : ∀ e ∈ zm_144.2.2.2.2.2, zd_P prog_8_method_29_code e := zd_of (by decide +kernel)
theorem zd_145 : ∀ e ∈ zm_145.2.2.2.2.2, zd_P prog_8_method_6_code e := zd_of (by decide +kernel)
theorem zd_146 : ∀ e ∈ zm_146.2.2.2.2.2, zd_P prog_8_method_28_code e := zd_of (by decide +kernel)
theorem zd_147_0 : ∀ e ∈ (zm_147.2.2.2.2.2.drop 0).take 60, zd_P prog_8_method_26_code e := zd_of (by decide +kernel)
theorem zd_147_1 : ∀ e ∈ (zm_147.2.2.2.2.2.drop 60).take 60, zd_P prog_8_method_26_code e := zd_of (by decide +kernel)
theorem zd_147_2 : ∀ e ∈ (zm_147.2.2.2.2.2.drop 120).take 60, zd_P prog_8_method_26_code e := zd_of (by decide +kernel)
theorem zd_147 : ∀ e ∈ zm_147.2.2.2.2.2, zd_P prog_8_method_26_code e := zd_join _ [(0, 60), (60, 60), (120, 60)] (by decide +kernel) (by
  exact List.forall_mem_cons.mpr ⟨zd_147_0, List.forall_mem_cons.mpr ⟨zd_147_1, List.forall_mem_cons.mpr ⟨zd_147_2, fun _ h => absurd h List.not_mem_nil⟩⟩⟩)
theorem zd_148 : ∀ e ∈ zm_148.2.2.2.2.2, zd_P prog_8_method_25_code e := zd_of (by decide +kernel)
theorem zd_149 : ∀ e ∈ zm_149.2.2.2.2.2, zd_P prog_8_method_4_code e := zd_of (by decide +kernel)
theorem zd_150 : ∀ e ∈ zm_150.2.2.2.2.2, zd_P prog_8_method_31_code e := zd_of (by decide +kernel)
theorem zd_151 : ∀ e ∈ zm_151.2.2.2.2.2, zd_P prog_8_method_32_code e := zd_of (by decide +kernel)
theorem zd_152 : ∀ e ∈ zm_152.2.2.2.2.2, zd_P prog_8_method_35_code e := zd_of (by decide +kernel)
theorem zd_153 : ∀ e ∈ zm_153.2.2.2.2.2, zd_P prog_8_method_34_code e := zd_of (by decide +kernel)
theorem zd_154 : ∀ e ∈ zm_154.2.2.2.2.2, zd_P prog_8_method_33_code e := zd_of (by decide +kernel)
theorem zd_155 : ∀ e ∈ zm_155.2.2.2.2.2, zd_P prog_8_method_38_code e := zd_of (by decide +kernel)
theorem zd_156 : ∀ e ∈ zm_156.2.2.2.2.2, zd_P prog_8_method_36_code e := zd_of (by decide +kernel)
theorem zd_157 : ∀ e ∈ zm_157.2.2.2.2.2, zd_P prog_8_method_30_code e := zd_of (by decide +kernel)
theorem zd_158 : ∀ e ∈ zm_158.2.2.2.2.2, zd_P prog_8_method_37_code e := zd_of (by decide +kernel)
theorem zd_159 : ∀ e ∈ zm_159.2.2.2.2.2, zd_P prog_8_method_40_code e := zd_of (by decide +kernel)
theorem zd_160 : ∀ e ∈ zm_160.2.2.2.2.2, zd_P prog_8_method_8_code e := zd_of (by decide +kernel)
theorem zd_161 : ∀ e ∈ zm_161.2.2.2.2.2, zd_P prog_8_method_7_code e := zd_of (by decide +kernel)
theorem zd_162_0 : ∀ e ∈ (zm_162.2.2.2.2.2.drop 0).take 60, zd_P prog_8_method_39_code e := zd_of (by decide +kernel)
theorem zd_162_1 : ∀ e ∈ (zm_162.2.2.2.2.2.drop 60).take 60, zd_P prog_8_method_39_code e := zd_of (by decide +kernel)
theorem zd_162 : ∀ e ∈ zm_162.2.2.2.2.2, zd_P prog_8_method_39_code e := zd_join _ [(0, 60), (60, 60)] (by decide +kernel) (by
  exact List.forall_mem_cons.mpr ⟨zd_162_0, List.forall_mem_cons.mpr ⟨zd_162_1, fun _ h => absurd h List.not_mem_nil⟩⟩)
theorem zd_163 : ∀ e ∈ zm_163.2.2.2.2.2, zd_P prog_8_method_9_code e := zd_of (by decide +kernel)
theorem zd_164 : ∀ e ∈ zm_164.2.2.2.2.2, zd_P prog_8_method_42_code e := zd_of (by decide +kernel)
theorem zd_165 : ∀ e ∈ zm_165.2.2.2.2.2, zd_P prog_8_method_41_code e := zd_of (by decide +kernel)
theorem zd_166 : ∀ e ∈ zm_166.2.2.2.2.2, zd_P prog_8_method_43_code e := zd_of (by decide +kernel)
theorem zd_167_0 : ∀ e ∈ (zm_167.2.2.2.2.2.drop 0).take 60, zd_P prog_8_method_46_code e := zd_of (by decide +kernel)
theorem zd_167_1 : ∀ e ∈ (zm_167.2.2.2.2.2.drop 60).take 60, zd_P prog_8_method_46_code e := zd_of (by decide +kernel)
theorem zd_167 : ∀ e ∈ zm_167.2.2.2.2.2, zd_P prog_8_method_46_code e := zd_join _ [(0, 60), (60, 60)] (by decide +kernel) (by
  exact List.forall_mem_cons.mpr ⟨zd_167_0, List.forall_mem_cons.mpr ⟨zd_167_1, fun _ h => absurd h List.not_mem_nil⟩⟩)
theorem zd_168 : ∀ e ∈ zm_168.2.2.2.2.2, zd_P prog_8_method_44_code e := zd_of (by decide +kernel)
theorem zd_169 : ∀ e ∈ zm_169.2.2.2.2.2, zd_P prog_8_method_45_code e := zd_of (by decide +kernel)
theorem zd_170_0 : ∀ e ∈ (zm_170.2.2.2.2.2.drop 0).take 60, zd_P prog_8_method_47_code e := zd_of (by decide +kernel)
theorem zd_170_1 : ∀ e ∈ (zm_170.2.2.2.2.2.drop 60).take 60, zd_P prog_8_method_47_code e := zd_of (by decide +kernel)
theorem zd_170 : ∀ e ∈ zm_170.2.2.2.2.2, zd_P prog_8_method_47_code e := zd_join _ [(0, 60), (60, 60)] (by decide +kernel) (by
  exact List.forall_mem_cons.mpr ⟨zd_170_0, List.forall_mem_cons.mpr ⟨zd_170_1, fun _ h => absurd h List.not_mem_nil⟩⟩)
theorem zd_171_0 : ∀ e ∈ (zm_171.2.2.2.2.2.drop 0).take 60, zd_P prog_8_method_48_code e := zd_of (by decide +kernel)
theorem zd_171_1 : ∀ e ∈ (zm_171.2.2.2.2.2.drop 60).take 60, zd_P prog_8_method_48_code e := zd_of (by decide +kernel)
theorem zd_171 : ∀ e ∈ zm_171.2.2.2.2.2, zd_P prog_8_method_48_code e := zd_join _ [(0, 60), (60, 60)] (by decide +kernel) (by
  exact List.forall_mem_cons.mpr ⟨zd_171_0, List.forall_mem_cons.mpr ⟨zd_171_1, fun _ h => absurd h List.not_mem_nil⟩⟩)
theorem zd_172 : ∀ e ∈ zm_172.2.2.2.2.2, zd_P prog_8_method_5_code e := zd_of (by decide +kernel)
theorem zd_173_0 : ∀ e ∈ (zm_173.2.2.2.2.2.drop 0).take 60, zd_P prog_8_method_50_code e := zd_of (by decide +kernel)
theorem zd_173_1 : ∀ e ∈ (zm_173.2.2.2.2.2.drop 60).take 60, zd_P prog_8_method_50_code e := zd_of (by decide +kernel)
theorem zd_173 : ∀ e ∈ zm_173.2.2.2.2.2, zd_P prog_8_method_50_code e := zd_join _ [(0, 60), (60, 60)] (by decide +kernel) (by
  exact List.forall_mem_cons.mpr ⟨zd_173_0, List.forall_mem_cons.mpr ⟨zd_173_1, fun _ h => absurd h List.not_mem_nil⟩⟩)
theorem zd_174 : ∀ e ∈ zm_174.2.2.2.2.2, zd_P prog_8_method_49_code e := zd_of (by decide +kernel)
theorem zd_175_0 : ∀ e ∈ (zm_175.2.2.2.2.2.drop 0).take 60, zd_P prog_8_method_51_code e := zd_of (by decide +kernel)
theorem zd_175_1 : ∀ e ∈ (zm_175.2.2.2.2.2.drop 60).take 60, zd_P prog_8_method_51_code e := zd_of (by decide +kernel)
theorem zd_175 : ∀ e ∈ zm_175.2.2.2.2.2, zd_P prog_8_method_51_code e := zd_join _ [(0, 60), (60, 60)] (by decide +kernel) (by
  exact List.forall_mem_cons.mpr ⟨zd_175_0, List.forall_mem_cons.mpr ⟨zd_175_1, fun _ h => absurd h List.not_mem_nil⟩⟩)
theorem zd_176 : ∀ e ∈ zm_176.2.2.2.2.2, zd_P prog_8_method_52_code e := zd_of (by decide +kernel)
theorem zd_177_0 : ∀ e ∈ (zm_177.2.2.2.2.2.drop 0).take 60, zd_P prog_8_method_54_code e := zd_of (by decide +kernel)
theorem zd_177_1 : ∀ e ∈ (zm_177.2.2.2.2.2.drop 60).take 60, zd_P prog_8_method_54_code e := zd_of (by decide +kernel)
theorem zd_177 : ∀ e ∈ zm_177.2.2.2.2.2, zd_P prog_8_method_54_code e := zd_join _ [(0, 60), (60, 60)] (by decide +kernel) (by
  exact List.forall_mem_cons.mpr ⟨zd_177_0, List.forall_mem_cons.mpr ⟨zd_177_1, fun _ h => absurd h List.not_mem_nil⟩⟩)
theorem zd_178 : ∀ e ∈ zm_178.2.2.2.2.2, zd_P prog_8_method_53_code e := zd_of (by decide +kernel)
theorem zd_179 : ∀ e ∈ zm_179.2.2.2.2.2, zd_P prog_8_method_57_code e := zd_of (by decide +kernel)
theorem zd_180 : ∀ e ∈ zm_180.2.2.2.2.2, zd_P prog_8_method_56_code e := zd_of (by decide +kernel)
theorem zd_181 : ∀ e ∈ zm_181.2.2.2.2.2, zd_P prog_8_method_55_code e := zd_of (by decide +kernel)
theorem zd_182_0 : ∀ e ∈ (zm_182.2.2.2.2.2.drop 0).take 60, zd_P prog_8_method_58_code e := zd_of (by decide +kernel)
theorem zd_182_1 : ∀ e ∈ (zm_182.2.2.2.2.2.drop 60).take 60, zd_P prog_8_method_58_code e := zd_of (by decide +kernel)
theorem zd_182 : ∀ e ∈ zm_182.2.2.2.2.2, zd_P prog_8_method_58_code e := zd_join _ [(0, 60), (60, 60)] (by decide +kernel) (by
  exact List.forall_mem_cons.mpr ⟨zd_182_0, List.forall_mem_cons.mpr ⟨zd_182_1, fun _ h => absurd h List.not_mem_nil⟩⟩)
theorem zd_183 : ∀ e ∈ zm_183.2.2.2.2.2, zd_P prog_8_method_59_code e := zd_of (by decide +kernel)
theorem zd_184_0 : ∀ e ∈ (zm_184.2.2.2.2.2.drop 0).take 60, zd_P prog_8_method_60_code e := zd_of (by decide +kernel)
theorem zd_184_1 : ∀ e ∈ (zm_184.2.2.2.2.2.drop 60).take 60, zd_P prog_8_method_60_code e := zd_of (by decide +kernel)
theorem zd_184 : ∀ e ∈ zm_184.2.2.2.2.2, zd_P prog_8_method_60_code e := zd_join _ [(0, 60), (60, 60)] (by decide +kernel) (by
  exact List.forall_mem_cons.mpr ⟨zd_184_0, List.forall_mem_cons.mpr ⟨zd_184_1, fun _ h => absurd h List.not_mem_nil⟩⟩)
theorem zd_185 : ∀ e ∈ zm_185.2.2.2.2.2, zd_P prog_8_method_61_code e := zd_of (by decide +kernel)
theorem zd_186_0 : ∀ e ∈ (zm_186.2.2.2.2.2.drop 0).take 60, zd_P prog_8_method_65_code e := zd_of (by decide +kernel)
theorem zd_186_1 : ∀ e ∈ (zm_186.2.2.2.2.2.drop 60).take 60, zd_P prog_8_method_65_code e := zd_of (by decide +kernel)
theorem zd_186 : ∀ e ∈ zm_186.2.2.2.2.2, zd_P prog_8_method_65_code e := zd_join _ [(0, 60), (60, 60)] (by decide +kernel) (by
  exact List.forall_mem_cons.mpr ⟨zd_186_0, List.forall_mem_cons.mpr ⟨zd_186_1, fun _ h => absurd h List.not_mem_nil⟩⟩)
theorem zd_187 : ∀ e ∈ zm_187.2.2.2.2.2, zd_P prog_8_method_64_code e := zd_of (by decide +kernel)
theorem zd_188 : ∀ e ∈ zm_188.2.2.2.2.2, zd_P prog_8_method_63_code e := zd_of (by decide +kernel)
theorem zd_189 : ∀ e ∈ zm_189.2.2.2.2.2, zd_P prog_8_method_62_code e := zd_of (by decide +kernel)
theorem zd_190 : ∀ e ∈ zm_190.2.2.2.2.2, zd_P prog_8_method_70_code e := zd_of (by decide +kernel)
theorem zd_191 : ∀ e ∈ zm_191.2.2.2.2.2, zd_P prog_8_method_67_code e := zd_of (by decide +kernel)
theorem zd_192 : ∀ e ∈ zm_192.2.2.2.2.2, zd_P prog_8_method_66_code e := zd_of (by decide +kernel)
theorem zd_193 : ∀ e ∈ zm_193.2.2.2.2.2, zd_P prog_8_method_69_code e := zd_of (by decide +kernel)
theorem zd_194 : ∀ e ∈ zm_194.2.2.2.2.2, zd_P prog_8_method_68_code e := zd_of (by decide +kernel)
theorem zd_195 : ∀ e ∈ zm_195.2.2.2.2.2, zd_P prog_8_method_72_code e := zd_of (by decide +kernel)
theorem zd_196_0 : ∀ e ∈ (zm_196.2.2.2.2.2.drop 0).take 60, zd_P prog_8_method_71_code e := zd_of (by decide +kernel)
theorem zd_196_1 : ∀ e ∈ (zm_196.2.2.2.2.2.drop 60).take 60, zd_P prog_8_method_71_code e := zd_of (by decide +kernel)
theorem zd_196 : ∀ e ∈ zm_196.2.2.2.2.2, zd_P prog_8_method_71_code e := zd_join _ [(0, 60), (60, 60)] (by decide +kernel) (by
  exact List.forall_mem_cons.mpr ⟨zd_196_0, List.forall_mem_cons.mpr ⟨zd_196_1, fun _ h => absurd h List.not_mem_nil⟩⟩)
theorem zd_197 : ∀ e ∈ zm_197.2.2.2.2.2, zd_P prog_8_method_73_code e := zd_of (by decide +kernel)
theorem zd_198 : ∀ e ∈ zm_198.2.2.2.2.2, zd_P prog_8_method_74_code e := zd_of (by decide +kernel)
theorem zd_199_0 : ∀ e ∈ (zm_199.2.2.2.2.2.drop 0).take 60, zd_P prog_8_method_75_code e := zd_of (by decide +kernel)
theorem zd_199_1 : ∀ e ∈ (zm_199.2.2.2.2.2.drop 60).take 60, zd_P prog_8_method_75_code e := zd_of (by decide +kernel)
theorem zd_199 : ∀ e ∈ zm_199.2.2.2.2.2, zd_P prog_8_method_75_code e := zd_join _ [(0, 60), (60, 60)] (by decide +kernel) (by
  exact List.forall_mem_cons.mpr ⟨zd_199_0, List.forall_mem_cons.mpr ⟨zd_199_1, fun _ h => absurd h List.not_mem_nil⟩⟩)
theorem zd_200_0 : ∀ e ∈ (zm_200.2.2.2.2.2.drop 0).take 60, zd_P prog_8_method_77_code e := zd_of (by decide +kernel)
theorem zd_200_1 : ∀ e ∈ (zm_200.2.2.2.2.2.drop 60).take 60, zd_P prog_8_method_77_code e := zd_of (by decide +kernel)
theorem zd_200 : ∀ e ∈ zm_200.2.2.2.2.2, zd_P prog_8_method_77_code e := zd_join _ [(0, 60), (60, 60)] (by decide +kernel) (by
  exact List.forall_mem_cons.mpr ⟨zd_200_0, List.forall_mem_cons.mpr ⟨zd_200_1, fun _ h => absurd h List.not_mem_nil⟩⟩)
theorem zd_201 : ∀ e ∈ zm_201.2.2.2.2.2, zd_P prog_8_method_76_code e := zd_of (by decide +kernel)
theorem zd_202 : ∀ e ∈ zm_202.2.2.2.2.2, zd_P prog_8_method_80_code e := zd_of (by decide +kernel)
theorem zd_203 : ∀ e ∈ zm_203.2.2.2.2.2, zd_P prog_8_method_78_code e := zd_of (by decide +kernel)
theorem zd_204 : ∀ e ∈ zm_204.2.2.2.2.2, zd_P prog_8_method_79_code e := zd_of (by decide +kernel)
theorem zd_205 : ∀ e ∈ zm_205.2.2.2.2.2, zd_P prog_8_method_81_code e := zd_of (by decide +kernel)
theorem zd_206 : ∀ e ∈ zm_206.2.2.2.2.2, zd_P prog_8_method_83_code e := zd_of (by decide +kernel)
theorem zd_207 : ∀ e ∈ zm_207.2.2.2.2.2, zd_P prog_8_method_82_code e := zd_of (by decide +kernel)
theorem zd_208 : ∀ e ∈ zm_208.2.2.2.2.2, zd_P prog_8_method_84_code e := zd_of (by decide +kernel)
theorem zd_209_0 : ∀ e ∈ (zm_209.2.2.2.2.2.drop 0).take 60, zd_P prog_8_method_85_code e := zd_of (by decide +kernel)
theorem zd_209_1 : ∀ e ∈ (zm_209.2.2.2.2.2.drop 60).take 60, zd_P prog_8_method_85_code e := zd_of (by decide +kernel)
theorem zd_209 : ∀ e ∈ zm_209.2.2.2.2.2, zd_P prog_8_method_85_code e := zd_join _ [(0, 60), (60, 60)] (by decide +kernel) (by
  exact List.forall_mem_cons.mpr ⟨zd_209_0, List.forall_mem_cons.mpr ⟨zd_209_1, fun _ h => absurd h List.not_mem_nil⟩⟩)
theorem zd_210 : ∀ e ∈ zm_210.2.2.2.2.2, zd_P prog_8_method_86_code e := zd_of (by decide +kernel)
theorem zd_211 : ∀ e ∈ zm_211.2.2.2.2.2, zd_P prog_8_method_87_code e := zd_of (by decide +kernel)
theorem zd_212_0 : ∀ e ∈ (zm_212.2.2.2.2.2.drop 0).take 60, zd_P prog_8_method_88_code e := zd_of (by decide +kernel)
theorem zd_212_1 : ∀ e ∈ (zm_212.2.2.2.2.2.drop 60).take 60, zd_P prog_8_method_88_code e := zd_of (by decide +kernel)
theorem zd_212 : ∀ e ∈ zm_212.2.2.2.2.2, zd_P prog_8_method_88_code e := zd_join _ [(0, 60), (60, 60)] (by decide +kernel) (by
  exact List.forall_mem_cons.mpr ⟨zd_212_0, List.forall_mem_cons.mpr ⟨zd_212_1, fun _ h => absurd h List.not_mem_nil⟩⟩)
theorem zd_213_0 : ∀ e ∈ (zm_213.2.2.2.2.2.drop 0).take 60, zd_P prog_8_method_89_code e := zd_of (by decide +kernel)
theorem zd_213_1 : ∀ e ∈ (zm_213.2.2.2.2.2.drop 60).take 60, zd_P prog_8_method_89_code e := zd_of (by decide +kernel)
theorem zd_213 : ∀ e ∈ zm_213.2.2.2.2.2, zd_P prog_8_method_89_code e := zd_join _ [(0, 60), (60, 60)] (by decide +kernel) (by
  exact List.forall_mem_cons.mpr ⟨zd_213_0, List.forall_mem_cons.mpr ⟨zd_213_1, fun _ h => absurd h List.not_mem_nil⟩⟩)
theorem zd_214 : ∀ e ∈ zm_214.2.2.2.2.2, zd_P prog_8_method_92_code e := zd_of (by decide +kernel)
theorem zd_215 : ∀ e ∈ zm_215.2.2.2.2.2, zd_P prog_8_method_91_code e := zd_of (by decide +kernel)
theorem zd_216 : ∀ e ∈ zm_216.2.2.2.2.2, zd_P prog_8_method_90_code e := zd_of (by decide +kernel)
theorem zd_217_0 : ∀ e ∈ (zm_217.2.2.2.2.2.drop 0).take 60, zd_P code e := zd_of (by decide +kernel)
theorem zd_217_1 : ∀ e ∈ (zm_217.2.2.2.2.2.drop 60).take 60, zd_P code e := zd_of (by decide +kernel)
theorem zd_217_2 : ∀ e ∈ (zm_217.2.2.2.2.2.drop 120).take 60, zd_P code e := zd_of (by decide +kernel)
theorem zd_217_3 : ∀ e ∈ (zm_217.2.2.2.2.2.drop 180).take 60, zd_P code e := zd_of (by decide +kernel)
theorem zd_217_4 : ∀ e ∈ (zm_217.2.2.2.2.2.drop 240).take 60, zd_P code e := zd_of (by decide +kernel)
theorem zd_217_5 : ∀ e ∈ (zm_217.2.2.2.2.2.drop 300).take 60, zd_P code e := zd_of (by decide +kernel)
theorem zd_217_6 : ∀ e ∈ (zm_217.2.2.2.2.2.drop 360).take 60, zd_P code e := zd_of (by decide +kernel)
theorem zd_217_7 : ∀ e ∈ (zm_217.2.2.2.2.2.drop 420).take 60, zd_P code e := zd_of (by decide +kernel)
theorem zd_217_8 : ∀ e ∈ (zm_217.2.2.2.2.2.drop 480).take 60, zd_P code e := zd_of (by decide +kernel)
theorem zd_217_9 : ∀ e ∈ (zm_217.2.2.2.2.2.drop 540).take 60, zd_P code e := zd_of (by decide +kernel)
theorem zd_217_10 : ∀ e ∈ (zm_217.2.2.2.2.2.drop 600).take 60, zd_P code e := zd_of (by decide +kernel)
theorem zd_217_11 : ∀ e ∈ (zm_217.2.2.2.2.2.drop 660).take 60, zd_P code e := zd_of (by decide +kernel)
theorem zd_217_12 : ∀ e ∈ (zm_217.2.2.2.2.2.drop 720).take 60, zd_P code e := zd_of (by decide +kernel)
theorem zd_217_13 : ∀ e ∈ (zm_217.2.2.2.2.2.drop 780).take 60, zd_P code e := zd_of (by decide +kernel)
theorem zd_217_14 : ∀ e ∈ (zm_217.2.2.2.2.2.drop 840).take 60, zd_P code e := zd_of (by decide +kernel)
theorem zd_217_15 : ∀ e ∈ (zm_217.2.2.2.2.2.drop 900).take 60, zd_P code e := zd_of (by decide +kernel)
theorem zd_217_16 : ∀ e ∈ (zm_217.2.2.2.2.2.drop 960).take 60, zd_P code e := zd_of (by decide +kernel)
theorem zd_217 : ∀ e ∈ zm_217.2.2.2.2.2, zd_P code e := zd_join _ [(0, 60), (60, 60), (120, 60), (180, 60), (240, 60), (300, 60), (360, 60), (420, 60), (480, 60), (540, 60), (600, 60), (660, 60), (720, 60), (780, 60), (840, 60), (900, 60), (960, 60)] (by decide +kernel) (by
  exact List.forall_mem_cons.mpr ⟨zd_217_0, List.forall_mem_cons.mpr ⟨zd_217_1, List.forall_mem_cons.mpr ⟨zd_217_2, List.forall_mem_cons.mpr ⟨zd_217_3, List.forall_mem_cons.mpr ⟨zd_217_4, List.forall_mem_cons.mpr ⟨zd_217_5, List.forall_mem_cons.mpr ⟨zd_217_6, List.forall_mem_cons.mpr ⟨zd_217_7, List.forall_mem_cons.mpr ⟨zd_217_8, List.forall_mem_cons.mpr ⟨zd_217_9, List.forall_mem_cons.mpr ⟨zd_217_10, List.forall_mem_cons.mpr ⟨zd_217_11, List.forall_mem_cons.mpr ⟨zd_217_12, List.forall_mem_cons.mpr ⟨zd_217_13, List.forall_mem_cons.mpr ⟨zd_217_14, List.forall_mem_cons.mpr ⟨zd_217_15, List.forall_mem_cons.mpr ⟨zd_217_16, fun _ h => absurd h List.not_mem_nil⟩⟩⟩⟩⟩⟩⟩⟩⟩⟩⟩⟩⟩⟩⟩⟩⟩)
theorem zd_218 : ∀ e ∈ zm_218.2.2.2.2.2, zd_P prog_9_method_49_code e := zd_of (by decide +kernel)
def zd_all (m : Nat) : Prop := ∀ c, zk_mt m = some c → ∀ e ∈ c.2.2.2.2.2, zd_P (zk_by m) e
theorem ze_0 : zd_all 0 := fun c h => by cases h; exact zd_0
theorem ze_1 : zd_all 1 := fun c h => by cases h; exact zd_1
theorem ze_2 : zd_all 2 := fun c h => by cases h; exact zd_2
theorem ze_3 : zd_all 3 := fun c h => by cases h; exact zd_3
theorem ze_4 : zd_all 4 := fun c h => by cases h; exact zd_4
theorem ze_5 : zd_all 5 := fun c h => by cases h; exact zd_5
theorem ze_6 : zd_all 6 := fun c h => by cases h; exact zd_6
theorem ze_7 : zd_all 7 := fun c h => by cases h; exact zd_7
theorem ze_8 : zd_all 8 := fun c h => by cases h; exact zd_8
theorem ze_9 : zd_all 9 := fun c h => by cases h; exact zd_9
theorem ze_10 : zd_all 10 := fun c h => by cases h; exact zd_10
theorem ze_11 : zd_all 11 := fun c h => by cases h; exact zd_11
theorem ze_12 : zd_all 12 := fun c h => by cases h; exact zd_12
theorem ze_13 : zd_all 13 := fun c h => by cases h; exact zd_13
theorem ze_14 : zd_all 14 := fun c h => by cases h; exact zd_14
theorem ze_15 : zd_all 15 := fun c h => by cases h; exact zd_15
theorem ze_16 : zd_all 16 := fun c h => by cases h; exact zd_16
theorem ze_17 : zd_all 17 := fun c h => by cases h; exact zd_17
theorem ze_18 : zd_all 18 := fun c h => by cases h; exact zd_18
theorem ze_19 : zd_all 19 := fun c h => by cases h; exact zd_19
theorem ze_20 : zd_all 20 := fun c h => by cases h; exact zd_20
theorem ze_21 : zd_all 21 := fun c h => by cases h; exact zd_21
theorem ze_22 : zd_all 22 := fun c h => by cases h; exact zd_22
theorem ze_23 : zd_all 23 := fun c h => by cases h; exact zd_23
theorem ze_24 : zd_all 24 := fun c h => by cases h; exact zd_24
theorem ze_25 : zd_all 25 := fun c h => by cases h; exact zd_25
theorem ze_26 : zd_all 26 := fun c h => by cases h; exact zd_26
theorem ze_27 : zd_all 27 := fun c h => by cases h; exact zd_27
theorem ze_28 : zd_all 28 := fun c h => by cases h; exact zd_28
theorem ze_29 : zd_all 29 := fun c h => by cases h; exact zd_29
theorem ze_30 : zd_all 30 := fun c h => by cases h; exact zd_30
theorem ze_31 : zd_all 31 := fun c h => by cases h; exact zd_31
theorem ze_32 : zd_all 32 := fun c h => by cases h; exact zd_32
theorem ze_33 : zd_all 33 := fun c h => by cases h; exact zd_33
theorem ze_34 : zd_all 34 := fun c h => by cases h; exact zd_34
theorem ze_35 : zd_all 35 := fun c h => by cases h; exact zd_35
theorem ze_36 : zd_all 36 := fun c h => by cases h; exact zd_36
theorem ze_37 : zd_all 37 := fun c h => by cases h; exact zd_37
theorem ze_38 : zd_all 38 := fun c h => by cases h; exact zd_38
theorem ze_39 : zd_all 39 := fun c h => by cases h; exact zd_39
theorem ze_40 : zd_all 40 := fun c h => by cases h; exact zd_40
theorem ze_41 : zd_all 41 := fun c h => by cases h; exact zd_41
theorem ze_42 : zd_all 42 := fun c h => by cases h; exact zd_42
theorem ze_43 : zd_all 43 := fun c h => by cases h; exact zd_43
theorem ze_44 : zd_all 44 := fun c h => by cases h; exact zd_44
theorem ze_45 : zd_all 45 := fun c h => by cases h; exact zd_45
theorem ze_46 : zd_all 46 := fun c h => by cases h; exact zd_46
theorem ze_47 : zd_all 47 := fun c h => by cases h; exact zd_47
theorem ze_48 : zd_all 48 := fun c h => by cases h; exact zd_48
theorem ze_49 : zd_all 49 := fun c h => by cases h; exact zd_49
theorem ze_50 : zd_all 50 := fun c h => by cases h; exact zd_50
theorem ze_51 : zd_all 51 := fun c h => by cases h; exact zd_51
theorem ze_52 : zd_all 52 := fun c h => by cases h; exact zd_52
theorem ze_53 : zd_all 53 := fun c h => by cases h; exact zd_53
theorem ze_54 : zd_all 54 := fun c h => by cases h; exact zd_54
theorem ze_55 : zd_all 55 := fun c h => by cases h; exact zd_55
theorem ze_56 : zd_all 56 := fun c h => by cases h; exact zd_56
theorem ze_57 : zd_all 57 := fun c h => by cases h; exact zd_57
theorem ze_58 : zd_all 58 := fun c h => by cases h; exact zd_58
theorem ze_59 : zd_all 59 := fun c h => by cases h; exact zd_59
theorem ze_60 : zd_all 60 := fun c h => by cases h; exact zd_60
theorem ze_61 : zd_all 61 := fun c h => by cases h; exact zd_61
theorem ze_62 : zd_all 62 := fun c h => by cases h; exact zd_62
theorem ze_63 : zd_all 63 := fun c h => by cases h; exact zd_63
theorem ze_64 : zd_all 64 := fun c h => by cases h; exact zd_64
theorem ze_65 : zd_all 65 := fun c h => by cases h; exact zd_65
theorem ze_66 : zd_all 66 := fun c h => by cases h; exact zd_66
theorem ze_67 : zd_all 67 := fun c h => by cases h; exact zd_67
theorem ze_68 : zd_all 68 := fun c h => by cases h; exact zd_68
theorem ze_69 : zd_all 69 := fun c h => by cases h; exact zd_69
theorem ze_70 : zd_all 70 := fun c h => by cases h; exact zd_70
theorem ze_71 : zd_all 71 := fun c h => by cases h; exact zd_71
theorem ze_72 : zd_all 72 := fun c h => by cases h; exact zd_72
theorem ze_73 : zd_all 73 := fun c h => by cases h; exact zd_73
theorem ze_74 : zd_all 74 := fun c h => by cases h; exact zd_74
theorem ze_75 : zd_all 75 := fun c h => by cases h; exact zd_75
theorem ze_76 : zd_all 76 := fun c h => by cases h; exact zd_76
theorem ze_77 : zd_all 77 := fun c h => by cases h; exact zd_77
theorem ze_78 : zd_all 78 := fun c h => by cases h; exact zd_78
theorem ze_79 : zd_all 79 := fun c h => by cases h; exact zd_79
theorem ze_80 : zd_all 80 := fun c h => by cases h; exact zd_80
theorem ze_81 : zd_all 81 := fun c h => by cases h; exact zd_81
theorem ze_82 : zd_all 82 := fun c h => by cases h; exact zd_82
theorem ze_83 : zd_all 83 := fun c h => by cases h; exact zd_83
theorem ze_84 : zd_all 84 := fun c h => by cases h; exact zd_84
theorem ze_85 : zd_all 85 := fun c h => by cases h; exact zd_85
theorem ze_86 : zd_all 86 := fun c h => by cases h; exact zd_86
theorem ze_87 : zd_all 87 := fun c h => by cases h; exact zd_87
theorem ze_88 : zd_all 88 := fun c h => by cases h; exact zd_88
theorem ze_89 : zd_all 89 := fun c h => by cases h; exact zd_89
theorem ze_90 : zd_all 90 := fun c h => by cases h; exact zd_90
theorem ze_91 : zd_all 91 := fun c h => by cases h; exact zd_91
theorem ze_92 : zd_all 92 := fun c h => by cases h; exact zd_92
theorem ze_93 : zd_all 93 := fun c h => by cases h; exact zd_93
theorem ze_94 : zd_all 94 := fun c h => by cases h; exact zd_94
theorem ze_95 : zd_all 95 := fun c h => by cases h; exact zd_95
theorem ze_96 : zd_all 96 := fun c h => by cases h; exact zd_96
theorem ze_97 : zd_all 97 := fun c h => by cases h; exact zd_97
theorem ze_98 : zd_all 98 := fun c h => by cases h; exact zd_98
theorem ze_99 : zd_all 99 := fun c h => by cases h; exact zd_99
theorem ze_100 : zd_all 100 := fun c h => by cases h; exact zd_100
theorem ze_101 : zd_all 101 := fun c h => by cases h; exact zd_101
theorem ze_102 : zd_all 102 := fun c h => by cases h; exact zd_102
theorem ze_103 : zd_all 103 := fun c h => by cases h; exact zd_103
theorem ze_104 : zd_all 104 := fun c h => by cases h; exact zd_104
theorem ze_105 : zd_all 105 := fun c h => by cases h; exact zd_105
theorem ze_106 : zd_all 106 := fun c h => by cases h; exact zd_106
theorem ze_107 : zd_all 107 := fun c h => by cases h; exact zd_107
theorem ze_108 : zd_all 108 := fun c h => by cases h; exact zd_108
theorem ze_109 : zd_all 109 := fun c h => by cases h; exact zd_109
theorem ze_110 : zd_all 110 := fun c h => by cases h; exact zd_110
theorem ze_111 : zd_all 111 := fun c h => by cases h; exact zd_111
theorem ze_112 : zd_all 112 := fun c h => by cases h; exact zd_112
theorem ze_113 : zd_all 113 := fun c h => by cases h; exact zd_113
theorem ze_114 : zd_all 114 := fun c h => by cases h; exact zd_114
theorem ze_115 : zd_all 115 := fun c h => by cases h; exact zd_115
theorem ze_116 : zd_all 116 := fun c h => by cases h; exact zd_116
theorem ze_117 : zd_all 117 := fun c h => by cases h; exact zd_117
theorem ze_118 : zd_all 118 := fun c h => by cases h; exact zd_118
theorem ze_119 : zd_all 119 := fun c h => by cases h; exact zd_119
theorem ze_120 : zd_all 120 := fun c h => by cases h; exact zd_120
theorem ze_121 : zd_all 121 := fun c h => by cases h; exact zd_121
theorem ze_122 : zd_all 122 := fun c h => by cases h; exact zd_122
theorem ze_123 : zd_all 123 := fun c h => by cases h; exact zd_123
theorem ze_124 : zd_all 124 := fun c h => by cases h; exact zd_124
theorem ze_125 : zd_all 125 := fun c h => by cases h; exact zd_125
theorem ze_126 : zd_all 126 := fun c h => by cases h; exact zd_126
theorem ze_127 : zd_all 127 := fun c h => by cases h; exact zd_127
theorem ze_128 : zd_all 128 := fun c h => by cases h; exact zd_128
theorem ze_129 : zd_all 129 := fun c h => by cases h; exact zd_129
theorem ze_130 : zd_all 130 := fun c h => by cases h; exact zd_130
theorem ze_131 : zd_all 131 := fun c h => by cases h; exact zd_131
theorem ze_132 : zd_all 132 := fun c h => by cases h; exact zd_132
theorem ze_133 : zd_all 133 := fun c h => by cases h; exact zd_133
theorem ze_134 : zd_all 134 := fun c h => by cases h; exact zd_134
theorem ze_135 : zd_all 135 := fun c h => by cases h; exact zd_135
theorem ze_136 : zd_all 136 := fun c h => by cases h; exact zd_136
theorem ze_137 : zd_all 137 := fun c h => by cases h; exact zd_137
theorem ze_138 : zd_all 138 := fun c h => by cases h; exact zd_138
theorem ze_139 : zd_all 139 := fun c h => by cases h; exact zd_139
theorem ze_140 : zd_all 140 := fun c h => by cases h; exact zd_140
theorem ze_141 : zd_all 141 := fun c h => by cases h; exact zd_141
theorem ze_142 : zd_all 142 := fun c h => by cases h; exact zd_142
theorem ze_143 : zd_all 143 := fun c h => by cases h; exact zd_143
theorem ze_144 : zd_all 144 := fun c h => by cases h; exact zd_144
theorem ze_145 : zd_all 145 := fun c h => by cases h; exact zd_145
theorem ze_146 : zd_all 146 := fun c h => by cases h; exact zd_146
theorem ze_147 : zd_all 147 := fun c h => by cases h; exact zd_147
theorem ze_148 : zd_all 148 := fun c h => by cases h; exact zd_148
theorem ze_149 : zd_all 149 := fun c h => by cases h; exact zd_149
theorem ze_150 : zd_all 150 := fun c h => by cases h; exact zd_150
theorem ze_151 : zd_all 151 := fun c h => by cases h; exact zd_151
theorem ze_152 : zd_all 152 := fun c h => by cases h; exact zd_152
theorem ze_153 : zd_all 153 := fun c h => by cases h; exact zd_153
theorem ze_154 : zd_all 154 := fun c h => by cases h; exact zd_154
theorem ze_155 : zd_all 155 := fun c h => by cases h; exact zd_155
theorem ze_156 : zd_all 156 := fun c h => by cases h; exact zd_156
theorem ze_157 : zd_all 157 := fun c h => by cases h; exact zd_157
theorem ze_158 : zd_all 158 := fun c h => by cases h; exact zd_158
theorem ze_159 : zd_all 159 := fun c h => by cases h; exact zd_159
theorem ze_160 : zd_all 160 := fun c h => by cases h; exact zd_160
theorem ze_161 : zd_all 161 := fun c h => by cases h; exact zd_161
theorem ze_162 : zd_all 162 := fun c h => by cases h; exact zd_162
theorem ze_163 : zd_all 163 := fun c h => by cases h; exact zd_163
theorem ze_164 : zd_all 164 := fun c h => by cases h; exact zd_164
theorem ze_165 : zd_all 165 := fun c h => by cases h; exact zd_165
theorem ze_166 : zd_all 166 := fun c h => by cases h; exact zd_166
theorem ze_167 : zd_all 167 := fun c h => by cases h; exact zd_167
theorem ze_168 : zd_all 168 := fun c h => by cases h; exact zd_168
theorem ze_169 : zd_all 169 := fun c h => by cases h; exact zd_169
theorem ze_170 : zd_all 170 := fun c h => by cases h; exact zd_170
theorem ze_171 : zd_all 171 := fun c h => by cases h; exact zd_171
theorem ze_172 : zd_all 172 := fun c h => by cases h; exact zd_172
theorem ze_173 : zd_all 173 := fun c h => by cases h; exact zd_173
theorem ze_174 : zd_all 174 := fun c h => by cases h; exact zd_174
theorem ze_175 : zd_all 175 := fun c h => by cases h; exact zd_175
theorem ze_176 : zd_all 176 := fun c h => by cases h; exact zd_176
theorem ze_177 : zd_all 177 := fun c h => by cases h; exact zd_177
theorem ze_178 : zd_all 178 := fun c h => by cases h; exact zd_178
theorem ze_179 : zd_all 179 := fun c h => by cases h; exact zd_179
theorem ze_180 : zd_all 180 := fun c h => by cases h; exact zd_180
theorem ze_181 : zd_all 181 := fun c h => by cases h; exact zd_181
theorem ze_182 : zd_all 182 := fun c h => by cases h; exact zd_182
theorem ze_183 : zd_all 183 := fun c h => by cases h; exact zd_183
theorem ze_184 : zd_all 184 := fun c h => by cases h; exact zd_184
theorem ze_185 : zd_all 185 := fun c h => by cases h; exact zd_185
theorem ze_186 : zd_all 186 := fun c h => by cases h; exact zd_186
theorem ze_187 : zd_all 187 := fun c h => by cases h; exact zd_187
theorem ze_188 : zd_all 188 := fun c h => by cases h; exact zd_188
theorem ze_189 : zd_all 189 := fun c h => by cases h; exact zd_189
theorem ze_190 : zd_all 190 := fun c h => by cases h; exact zd_190
theorem ze_191 : zd_all 191 := fun c h => by cases h; exact zd_191
theorem ze_192 : zd_all 192 := fun c h => by cases h; exact zd_192
theorem ze_193 : zd_all 193 := fun c h => by cases h; exact zd_193
theorem ze_194 : zd_all 194 := fun c h => by cases h; exact zd_194
theorem ze_195 : zd_all 195 := fun c h => by cases h; exact zd_195
theorem ze_196 : zd_all 196 := fun c h => by cases h; exact zd_196
theorem ze_197 : zd_all 197 := fun c h => by cases h; exact zd_197
theorem ze_198 : zd_all 198 := fun c h => by cases h; exact zd_198
theorem ze_199 : zd_all 199 := fun c h => by cases h; exact zd_199
theorem ze_200 : zd_all 200 := fun c h => by cases h; exact zd_200
theorem ze_201 : zd_all 201 := fun c h => by cases h; exact zd_201
theorem ze_202 : zd_all 202 := fun c h => by cases h; exact zd_202
theorem ze_203 : zd_all 203 := fun c h => by cases h; exact zd_203
theorem ze_204 : zd_all 204 := fun c h => by cases h; exact zd_204
theorem ze_205 : zd_all 205 := fun c h => by cases h; exact zd_205
theorem ze_206 : zd_all 206 := fun c h => by cases h; exact zd_206
theorem ze_207 : zd_all 207 := fun c h => by cases h; exact zd_207
theorem ze_208 : zd_all 208 := fun c h => by cases h; exact zd_208
theorem ze_209 : zd_all 209 := fun c h => by cases h; exact zd_209
theorem ze_210 : zd_all 210 := fun c h => by cases h; exact zd_210
theorem ze_211 : zd_all 211 := fun c h => by cases h; exact zd_211
theorem ze_212 : zd_all 212 := fun c h => by cases h; exact zd_212
theorem ze_213 : zd_all 213 := fun c h => by cases h; exact zd_213
theorem ze_214 : zd_all 214 := fun c h => by cases h; exact zd_214
theorem ze_215 : zd_all 215 := fun c h => by cases h; exact zd_215
theorem ze_216 : zd_all 216 := fun c h => by cases h; exact zd_216
theorem ze_217 : zd_all 217 := fun c h => by cases h; exact zd_217
theorem ze_218 : zd_all 218 := fun c h => by cases h; exact zd_218
set_option maxRecDepth 100000 in
theorem zd_every : ∀ m c, zk_mt m = some c → ∀ e ∈ c.2.2.2.2.2, zd_P (zk_by m) e := by
  have h : ∀ m ∈ List.range 219, zd_all m := by
    show ∀ m ∈ [0, 1, 2, 3, 4, 5, 6, 7, 8, 9, 10, 11, 12, 13, 14, 15, 16, 17, 18, 19, 20, 21, 22, 23, 24, 25, 26, 27, 28, 29, 30, 31, 32, 33, 34, 35, 36, 37, 38, 39, 40, 41, 42, 43, 44, 45, 46, 47, 48, 49, 50, 51, 52, 53, 54, 55, 56, 57, 58, 59, 60, 61, 62, 63, 64, 65, 66, 67, 68, 69, 70, 71, 72, 73, 74, 75, 76, 77, 78, 79, 80, 81, 82, 83, 84, 85, 86, 87, 88, 89, 90, 91, 92, 93, 94, 95, 96, 97, 98, 99, 100, 101, 102, 103, 104, 105, 106, 107, 108, 109, 110, 111, 112, 113, 114, 115, 116, 117, 118, 119, 120, 121, 122, 123, 124, 125, 126, 127, 128, 129, 130, 131, 132, 133, 134, 135, 136, 137, 138, 139, 140, 141, 142, 143, 144, 145, 146, 147, 148, 149, 150, 151, 152, 153, 154, 155, 156, 157, 158, 159, 160, 161, 162, 163, 164, 165, 166, 167, 168, 169, 170, 171, 172, 173, 174, 175, 176, 177, 178, 179, 180, 181, 182, 183, 184, 185, 186, 187, 188, 189, 190, 191, 192, 193, 194, 195, 196, 197, 198, 199, 200, 201, 202, 203, 204, 205, 206, 207, 208, 209, 210, 211, 212, 213, 214, 215, 216, 217, 218], zd_all m
    exact List.forall_mem_cons.mpr ⟨ze_0, List.forall_mem_cons.mpr ⟨ze_1, List.forall_mem_cons.mpr ⟨ze_2, List.forall_mem_cons.mpr ⟨ze_3, List.forall_mem_cons.mpr ⟨ze_4, List.forall_mem_cons.mpr ⟨ze_5, List.forall_mem_cons.mpr ⟨ze_6, List.forall_mem_cons.mpr ⟨ze_7, List.forall_mem_cons.mpr ⟨ze_8, List.forall_mem_cons.mpr ⟨ze_9, List.forall_mem_cons.mpr ⟨ze_10, List.forall_mem_cons.mpr ⟨ze_11, List.forall_mem_cons.mpr ⟨ze_12, List.forall_mem_cons.mpr ⟨ze_13, List.forall_mem_cons.mpr ⟨ze_14, List.forall_mem_cons.mpr ⟨ze_15, List.forall_mem_cons.mpr ⟨ze_16, List.forall_mem_cons.mpr ⟨ze_17, List.forall_mem_cons.mpr ⟨ze_18, List.forall_mem_cons.mpr ⟨ze_19, List.forall_mem_cons.mpr ⟨ze_20, List.forall_mem_cons.mpr ⟨ze_21, List.forall_mem_cons.mpr ⟨ze_22, List.forall_mem_cons.mpr ⟨ze_23, List.forall_mem_cons.mpr ⟨ze_24, List.forall_mem_cons.mpr ⟨ze_25, List.forall_mem_cons.mpr ⟨ze_26, List.forall_mem_cons.mpr ⟨ze_27, List.forall_mem_cons.mpr ⟨ze_28, List.forall_mem_cons.mpr ⟨ze_29, List.forall_mem_cons.mpr ⟨ze_30, List.forall_mem_cons.mpr ⟨ze_31, List.forall_mem_cons.mpr ⟨ze_32, List.forall_mem_cons.mpr ⟨ze_33, List.forall_mem_cons.mpr ⟨ze_34, List.forall_mem_cons.mpr ⟨ze_35, List.forall_mem_cons.mpr ⟨ze_36, List.forall_mem_cons.mpr ⟨ze_37, List.forall_mem_cons.mpr ⟨ze_38, List.forall_mem_cons.mpr ⟨ze_39, List.forall_mem_cons.mpr ⟨ze_40, List.forall_mem_cons.mpr ⟨ze_41, List.forall_mem_cons.mpr ⟨ze_42, List.forall_mem_cons.mpr ⟨ze_43, List.forall_mem_cons.mpr ⟨ze_44, List.forall_mem_cons.mpr ⟨ze_45, List.forall_mem_cons.mpr ⟨ze_46, List.forall_mem_cons.mpr ⟨ze_47, List.forall_mem_cons.mpr ⟨ze_48, List.forall_mem_cons.mpr ⟨ze_49, List.forall_mem_cons.mpr ⟨ze_50, List.forall_mem_cons.mpr ⟨ze_51, List.forall_mem_cons.mpr ⟨ze_52, List.forall_mem_cons.mpr ⟨ze_53, List.forall_mem_cons.mpr ⟨ze_54, List.forall_mem_cons.mpr ⟨ze_55, List.forall_mem_cons.mpr ⟨ze_56, List.forall_mem_cons.mpr ⟨ze_57, List.forall_mem_cons.mpr ⟨ze_58, List.forall_mem_cons.mpr ⟨ze_59, List.forall_mem_cons.mpr ⟨ze_60, List.forall_mem_cons.mpr ⟨ze_61, List.forall_mem_cons.mpr ⟨ze_62, List.forall_mem_cons.mpr ⟨ze_63, List.forall_mem_cons.mpr ⟨ze_64, List.forall_mem_cons.mpr ⟨ze_65, List.forall_mem_cons.mpr ⟨ze_66, List.forall_mem_cons.mpr ⟨ze_67, List.forall_mem_cons.mpr ⟨ze_68, List.forall_mem_cons.mpr ⟨ze_69, List.forall_mem_cons.mpr ⟨ze_70, List.forall_mem_cons.mpr ⟨ze_71, List.forall_mem_cons.mpr ⟨ze_72, List.forall_mem_cons.mpr ⟨ze_73, List.forall_mem_cons.mpr ⟨ze_74, List.forall_mem_cons.mpr ⟨ze_75, List.forall_mem_cons.mpr ⟨ze_76, List.forall_mem_cons.mpr ⟨ze_77, List.forall_mem_cons.mpr ⟨ze_78, List.forall_mem_cons.mpr ⟨ze_79, List.forall_mem_cons.mpr ⟨ze_80, List.forall_mem_cons.mpr ⟨ze_81, List.forall_mem_cons.mpr ⟨ze_82, List.forall_mem_cons.mpr ⟨ze_83, List.forall_mem_cons.mpr ⟨ze_84, List.forall_mem_cons.mpr ⟨ze_85, List.forall_mem_cons.mpr ⟨ze_86, List.forall_mem_cons.mpr ⟨ze_87, List.forall_mem_cons.mpr ⟨ze_88, List.forall_mem_cons.mpr ⟨ze_89, List.forall_mem_cons.mpr ⟨ze_90, List.forall_mem_cons.mpr ⟨ze_91, List.forall_mem_cons.mpr ⟨ze_92, List.forall_mem_cons.mpr ⟨ze_93, List.forall_mem_cons.mpr ⟨ze_94, List.forall_mem_cons.mpr ⟨ze_95, List.forall_mem_cons.mpr ⟨ze_96, List.forall_mem_cons.mpr ⟨ze_97, List.forall_mem_cons.mpr ⟨ze_98, List.forall_mem_cons.mpr ⟨ze_99, List.forall_mem_cons.mpr ⟨ze_100, List.forall_mem_cons.mpr ⟨ze_101, List.forall_mem_cons.mpr ⟨ze_102, List.forall_mem_cons.mpr ⟨ze_103, List.forall_mem_cons.mpr ⟨ze_104, List.forall_mem_cons.mpr ⟨ze_105, List.forall_mem_cons.mpr ⟨ze_106, List.forall_mem_cons.mpr ⟨ze_107, List.forall_mem_cons.mpr ⟨ze_108, List.forall_mem_cons.mpr ⟨ze_109, List.forall_mem_cons.mpr ⟨ze_110, List.forall_mem_cons.mpr ⟨ze_111, List.forall_mem_cons.mpr ⟨ze_112, List.forall_mem_cons.mpr ⟨ze_113, List.forall_mem_cons.mpr ⟨ze_114, List.forall_mem_cons.mpr ⟨ze_115, List.forall_mem_cons.mpr ⟨ze_116, List.forall_mem_cons.mpr ⟨ze_117, List.forall_mem_cons.mpr ⟨ze_118, List.forall_mem_cons.mpr ⟨ze_119, List.forall_mem_cons.mpr ⟨ze_120, List.forall_mem_cons.mpr ⟨ze_121, List.forall_mem_cons.mpr ⟨ze_122, List.forall_mem_cons.mpr ⟨ze_123, List.forall_mem_cons.mpr ⟨ze_124, List.forall_mem_cons.mpr ⟨ze_125, List.forall_mem_cons.mpr ⟨ze_126, List.forall_mem_cons.mpr ⟨ze_127, List.forall_mem_cons.mpr ⟨ze_128, List.forall_mem_cons.mpr ⟨ze_129, List.forall_mem_cons.mpr ⟨ze_130, List.forall_mem_cons.mpr ⟨ze_131, List.forall_mem_cons.mpr ⟨ze_132, List.forall_mem_cons.mpr ⟨ze_133, List.forall_mem_cons.mpr ⟨ze_134, List.forall_mem_cons.mpr ⟨ze_135, List.forall_mem_cons.mpr ⟨ze_136, List.forall_mem_cons.mpr ⟨ze_137, List.forall_mem_cons.mpr ⟨ze_138, List.forall_mem_cons.mpr ⟨ze_139, List.forall_mem_cons.mpr ⟨ze_140, List.forall_mem_cons.mpr ⟨ze_141, List.forall_mem_cons.mpr ⟨ze_142, List.forall_mem_cons.mpr ⟨ze_143, List.forall_mem_cons.mpr ⟨ze_144, List.forall_mem_cons.mpr ⟨ze_145, List.forall_mem_cons.mpr ⟨ze_146, List.forall_mem_cons.mpr ⟨ze_147, List.forall_mem_cons.mpr ⟨ze_148, List.forall_mem_cons.mpr ⟨ze_149, List.forall_mem_cons.mpr ⟨ze_150, List.forall_mem_cons.mpr ⟨ze_151, List.forall_mem_cons.mpr ⟨ze_152, List.forall_mem_cons.mpr ⟨ze_153, List.forall_mem_cons.mpr ⟨ze_154, List.forall_mem_cons.mpr ⟨ze_155, List.forall_mem_cons.mpr ⟨ze_156, List.forall_mem_cons.mpr ⟨ze_157, List.forall_mem_cons.mpr ⟨ze_158, List.forall_mem_cons.mpr ⟨ze_159, List.forall_mem_cons.mpr ⟨ze_160, List.forall_mem_cons.mpr ⟨ze_161, List.forall_mem_cons.mpr ⟨ze_162, List.forall_mem_cons.mpr ⟨ze_163, List.forall_mem_cons.mpr ⟨ze_164, List.forall_mem_cons.mpr ⟨ze_165, List.forall_mem_cons.mpr ⟨ze_166, List.forall_mem_cons.mpr ⟨ze_167, List.forall_mem_cons.mpr ⟨ze_168, List.forall_mem_cons.mpr ⟨ze_169, List.forall_mem_cons.mpr ⟨ze_170, List.forall_mem_cons.mpr ⟨ze_171, List.forall_mem_cons.mpr ⟨ze_172, List.forall_mem_cons.mpr ⟨ze_173, List.forall_mem_cons.mpr ⟨ze_174, List.forall_mem_cons.mpr ⟨ze_175, List.forall_mem_cons.mpr ⟨ze_176, List.forall_mem_cons.mpr ⟨ze_177, List.forall_mem_cons.mpr ⟨ze_178, List.forall_mem_cons.mpr ⟨ze_179, List.forall_mem_cons.mpr ⟨ze_180, List.forall_mem_cons.mpr ⟨ze_181, List.forall_mem_cons.mpr ⟨ze_182, List.forall_mem_cons.mpr ⟨ze_183, List.forall_mem_cons.mpr ⟨ze_184, List.forall_mem_cons.mpr ⟨ze_185, List.forall_mem_cons.mpr ⟨ze_186, List.forall_mem_cons.mpr ⟨ze_187, List.forall_mem_cons.mpr ⟨ze_188, List.forall_mem_cons.mpr ⟨ze_189, List.forall_mem_cons.mpr ⟨ze_190, List.forall_mem_cons.mpr ⟨ze_191, List.forall_mem_cons.mpr ⟨ze_192, List.forall_mem_cons.mpr ⟨ze_193, List.forall_mem_cons.mpr ⟨ze_194, List.forall_mem_cons.mpr ⟨ze_195, List.forall_mem_cons.mpr ⟨ze_196, List.forall_mem_cons.mpr ⟨ze_197, List.forall_mem_cons.mpr ⟨ze_198, List.forall_mem_cons.mpr ⟨ze_199, List.forall_mem_cons.mpr ⟨ze_200, List.forall_mem_cons.mpr ⟨ze_201, List.forall_mem_cons.mpr ⟨ze_202, List.forall_mem_cons.mpr ⟨ze_203, List.forall_mem_cons.mpr ⟨ze_204, List.forall_mem_cons.mpr ⟨ze_205, List.forall_mem_cons.mpr ⟨ze_206, List.forall_mem_cons.mpr ⟨ze_207, List.forall_mem_cons.mpr ⟨ze_208, List.forall_mem_cons.mpr ⟨ze_209, List.forall_mem_cons.mpr ⟨ze_210, List.forall_mem_cons.mpr ⟨ze_211, List.forall_mem_cons.mpr ⟨ze_212, List.forall_mem_cons.mpr ⟨ze_213, List.forall_mem_cons.mpr ⟨ze_214, List.forall_mem_cons.mpr ⟨ze_215, List.forall_mem_cons.mpr ⟨ze_216, List.forall_mem_cons.mpr ⟨ze_217, List.forall_mem_cons.mpr ⟨ze_218, fun _ h => absurd h List.not_mem_nil⟩⟩⟩⟩⟩⟩⟩⟩⟩⟩⟩⟩⟩⟩⟩⟩⟩⟩⟩⟩⟩⟩⟩⟩⟩⟩⟩⟩⟩⟩⟩⟩⟩⟩⟩⟩⟩⟩⟩⟩⟩⟩⟩⟩⟩⟩⟩⟩⟩⟩⟩⟩⟩⟩⟩⟩⟩⟩⟩⟩⟩⟩⟩⟩⟩⟩⟩⟩⟩⟩⟩⟩⟩⟩⟩⟩⟩⟩⟩⟩⟩⟩⟩⟩⟩⟩⟩⟩⟩⟩⟩⟩⟩⟩⟩⟩⟩⟩⟩⟩⟩⟩⟩⟩⟩⟩⟩⟩⟩⟩⟩⟩⟩⟩⟩⟩⟩⟩⟩⟩⟩⟩⟩⟩⟩⟩⟩⟩⟩⟩⟩⟩⟩⟩⟩⟩⟩⟩⟩⟩⟩⟩⟩⟩⟩⟩⟩⟩⟩⟩⟩⟩⟩⟩⟩⟩⟩⟩⟩⟩⟩⟩⟩⟩⟩⟩⟩⟩⟩⟩⟩⟩⟩⟩⟩⟩⟩⟩⟩⟩⟩⟩⟩⟩⟩⟩⟩⟩⟩⟩⟩⟩⟩⟩⟩⟩⟩⟩⟩⟩⟩⟩⟩⟩⟩⟩⟩⟩⟩⟩⟩⟩⟩⟩⟩⟩⟩⟩⟩
  intro m c hc
  have hm : m < 219 := by
    have h2 := (List.getElem?_eq_some_iff.mp hc).1
    exact h2
  exact h m (List.mem_range.mpr hm) c hc
