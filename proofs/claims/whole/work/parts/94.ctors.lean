/-! constructors: contracts; printed by wip/whole/gen/ctor.py -/
theorem ob_2 : Cond.instanceMethod Lib.objectInit ∈ fb_WA := fb_tb1 15 rfl rfl
theorem ob_3 : Cond.code Lib.objectInit ⟨#[0xb1]⟩ 1 none ∈ fb_WA := fb_tb1 16 rfl rfl
theorem ar_I : Cond.arrayClass .int ∈ fb_WA := fb_tb1 74 rfl rfl
theorem ar_Z : Cond.arrayClass .boolean ∈ fb_WA := fb_tb1 101 rfl rfl
def ft_0 : Nat → FieldType := fun k => match k with
  | 0 => (.object "FrameBackEnd$Program")
  | 1 => (.object "FrameBackEnd$Frames")
  | 2 => (.object "FrameBackEnd$Assembler")
  | 3 => (.object "FrameBackEnd$Processor")
  | _ => .boolean
theorem fty_0 : ∀ k, k < 5 → parseFieldDescriptor (fb_T0 k).2.2.1 = some (ft_0 k) := by decide +kernel
abbrev fd_0 : List Value := [.null, .null, .null, .null, .int 0]
theorem fdf_0 : ∀ j, j < 5 → defaultValue (ft_0 j) = vp_V fd_0 j := fun j hj => match j, hj with
  | 0, _ => rfl
  | 1, _ => rfl
  | 2, _ => rfl
  | 3, _ => rfl
  | 4, _ => rfl
  | j + 5, h => absurd h (by omega)
def ft_1 : Nat → FieldType := fun k => match k with
  | 0 => (.array (.array .int))
  | 1 => (.array .int)
  | 2 => (.array .int)
  | 3 => (.array .int)
  | 4 => (.array .int)
  | 5 => (.array .int)
  | 6 => (.array .int)
  | 7 => (.array .int)
  | 8 => (.array .int)
  | 9 => .int
  | _ => .int
theorem fty_1 : ∀ k, k < 11 → parseFieldDescriptor (fb_T1 k).2.2.1 = some (ft_1 k) := by decide +kernel
abbrev fd_1 : List Value := [.null, .null, .null, .null, .null, .null, .null, .null, .null, .int 0, .int 0]
theorem fdf_1 : ∀ j, j < 11 → defaultValue (ft_1 j) = vp_V fd_1 j := fun j hj => match j, hj with
  | 0, _ => rfl
  | 1, _ => rfl
  | 2, _ => rfl
  | 3, _ => rfl
  | 4, _ => rfl
  | 5, _ => rfl
  | 6, _ => rfl
  | 7, _ => rfl
  | 8, _ => rfl
  | 9, _ => rfl
  | 10, _ => rfl
  | j + 11, h => absurd h (by omega)
def ft_2 : Nat → FieldType := fun k => match k with
  | 0 => (.object "FrameBackEnd$Program")
  | 1 => (.array .boolean)
  | 2 => (.array .boolean)
  | 3 => (.array .int)
  | _ => (.array (.array .int))
theorem fty_2 : ∀ k, k < 5 → parseFieldDescriptor (fb_T2 k).2.2.1 = some (ft_2 k) := by decide +kernel
abbrev fd_2 : List Value := [.null, .null, .null, .null, .null]
theorem fdf_2 : ∀ j, j < 5 → defaultValue (ft_2 j) = vp_V fd_2 j := fun j hj => match j, hj with
  | 0, _ => rfl
  | 1, _ => rfl
  | 2, _ => rfl
  | 3, _ => rfl
  | 4, _ => rfl
  | j + 5, h => absurd h (by omega)
def ft_3 : Nat → FieldType := fun k => match k with
  | 0 => (.object "FrameBackEnd$Program")
  | 1 => (.object "FrameBackEnd$Frames")
  | 2 => (.array .int)
  | 3 => (.array .int)
  | 4 => (.array .int)
  | 5 => (.array .int)
  | 6 => (.array .boolean)
  | 7 => (.array .boolean)
  | 8 => .int
  | 9 => .int
  | 10 => .int
  | _ => .int
theorem fty_3 : ∀ k, k < 12 → parseFieldDescriptor (fb_T3 k).2.2.1 = some (ft_3 k) := by decide +kernel
abbrev fd_3 : List Value := [.null, .null, .null, .null, .null, .null, .null, .null, .int 0, .int 0, .int 0, .int 0]
theorem fdf_3 : ∀ j, j < 12 → defaultValue (ft_3 j) = vp_V fd_3 j := fun j hj => match j, hj with
  | 0, _ => rfl
  | 1, _ => rfl
  | 2, _ => rfl
  | 3, _ => rfl
  | 4, _ => rfl
  | 5, _ => rfl
  | 6, _ => rfl
  | 7, _ => rfl
  | 8, _ => rfl
  | 9, _ => rfl
  | 10, _ => rfl
  | 11, _ => rfl
  | j + 12, h => absurd h (by omega)
def ft_4 : Nat → FieldType := fun k => match k with
  | 0 => (.object "FrameBackEnd$Assembler")
  | 1 => (.array .int)
  | 2 => (.array .int)
  | 3 => (.array .int)
  | 4 => .int
  | 5 => .int
  | 6 => .int
  | 7 => .int
  | 8 => .int
  | 9 => .int
  | 10 => .int
  | 11 => .int
  | _ => .boolean
theorem fty_4 : ∀ k, k < 13 → parseFieldDescriptor (fb_T4 k).2.2.1 = some (ft_4 k) := by decide +kernel
abbrev fd_4 : List Value := [.null, .null, .null, .null, .int 0, .int 0, .int 0, .int 0, .int 0, .int 0, .int 0, .int 0, .int 0]
theorem fdf_4 : ∀ j, j < 13 → defaultValue (ft_4 j) = vp_V fd_4 j := fun j hj => match j, hj with
  | 0, _ => rfl
  | 1, _ => rfl
  | 2, _ => rfl
  | 3, _ => rfl
  | 4, _ => rfl
  | 5, _ => rfl
  | 6, _ => rfl
  | 7, _ => rfl
  | 8, _ => rfl
  | 9, _ => rfl
  | 10, _ => rfl
  | 11, _ => rfl
  | 12, _ => rfl
  | j + 13, h => absurd h (by omega)
def ft_5 : Nat → FieldType := fun k => match k with
  | 0 => .int
  | 1 => .int
  | 2 => (.array .int)
  | 3 => (.array .int)
  | 4 => (.array .int)
  | 5 => (.array .int)
  | 6 => (.array .int)
  | 7 => (.array .int)
  | 8 => (.array .int)
  | 9 => .boolean
  | 10 => (.array .int)
  | 11 => (.array .boolean)
  | 12 => (.array .int)
  | 13 => .int
  | 14 => .int
  | 15 => .int
  | 16 => (.array .int)
  | 17 => (.array .boolean)
  | 18 => (.array .boolean)
  | 19 => (.array .int)
  | 20 => (.array .int)
  | 21 => .int
  | 22 => .boolean
  | 23 => .int
  | 24 => .int
  | 25 => .int
  | 26 => .int
  | 27 => (.array .int)
  | 28 => (.array .int)
  | _ => (.array .int)
theorem fty_5 : ∀ k, k < 30 → parseFieldDescriptor (fb_T5 k).2.2.1 = some (ft_5 k) := by decide +kernel
abbrev fd_5 : List Value := [.int 0, .int 0, .null, .null, .null, .null, .null, .null, .null, .int 0, .null, .null, .null, .int 0, .int 0, .int 0, .null, .null, .null, .null, .null, .int 0, .int 0, .int 0, .int 0, .int 0, .int 0, .null, .null, .null]
theorem fdf_5 : ∀ j, j < 30 → defaultValue (ft_5 j) = vp_V fd_5 j := fun j hj => match j, hj with
  | 0, _ => rfl
  | 1, _ => rfl
  | 2, _ => rfl
  | 3, _ => rfl
  | 4, _ => rfl
  | 5, _ => rfl
  | 6, _ => rfl
  | 7, _ => rfl
  | 8, _ => rfl
  | 9, _ => rfl
  | 10, _ => rfl
  | 11, _ => rfl
  | 12, _ => rfl
  | 13, _ => rfl
  | 14, _ => rfl
  | 15, _ => rfl
  | 16, _ => rfl
  | 17, _ => rfl
  | 18, _ => rfl
  | 19, _ => rfl
  | 20, _ => rfl
  | 21, _ => rfl
  | 22, _ => rfl
  | 23, _ => rfl
  | 24, _ => rfl
  | 25, _ => rfl
  | 26, _ => rfl
  | 27, _ => rfl
  | 28, _ => rfl
  | 29, _ => rfl
  | j + 30, h => absurd h (by omega)
theorem dd_Pr_init_0 : decode prog_5_method_1_code 0 = .ok (.aload_n 0, 1) := by decide +kernel
theorem dd_Pr_init_1 : decode prog_5_method_1_code 1 = .ok (.invokespecial 3, 3) := by decide +kernel
theorem dd_Pr_init_4 : decode prog_5_method_1_code 4 = .ok (.aload_n 0, 1) := by decide +kernel
theorem dd_Pr_init_5 : decode prog_5_method_1_code 5 = .ok (.bipush 6, 2) := by decide +kernel
theorem dd_Pr_init_7 : decode prog_5_method_1_code 7 = .ok (.bipush 6, 2) := by decide +kernel
theorem dd_Pr_init_9 : decode prog_5_method_1_code 9 = .ok (.multianewarray 9 2, 4) := by decide +kernel
theorem dd_Pr_init_13 : decode prog_5_method_1_code 13 = .ok (.putfield 11, 3) := by decide +kernel
theorem dd_Pr_init_16 : decode prog_5_method_1_code 16 = .ok (.aload_n 0, 1) := by decide +kernel
theorem dd_Pr_init_17 : decode prog_5_method_1_code 17 = .ok (.bipush 6, 2) := by decide +kernel
theorem dd_Pr_init_19 : decode prog_5_method_1_code 19 = .ok (.newarray .int, 2) := by decide +kernel
theorem dd_Pr_init_21 : decode prog_5_method_1_code 21 = .ok (.putfield 16, 3) := by decide +kernel
theorem dd_Pr_init_24 : decode prog_5_method_1_code 24 = .ok (.aload_n 0, 1) := by decide +kernel
theorem dd_Pr_init_25 : decode prog_5_method_1_code 25 = .ok (.bipush 6, 2) := by decide +kernel
theorem dd_Pr_init_27 : decode prog_5_method_1_code 27 = .ok (.newarray .int, 2) := by decide +kernel
theorem dd_Pr_init_29 : decode prog_5_method_1_code 29 = .ok (.putfield 20, 3) := by decide +kernel
theorem dd_Pr_init_32 : decode prog_5_method_1_code 32 = .ok (.aload_n 0, 1) := by decide +kernel
theorem dd_Pr_init_33 : decode prog_5_method_1_code 33 = .ok (.bipush 6, 2) := by decide +kernel
theorem dd_Pr_init_35 : decode prog_5_method_1_code 35 = .ok (.newarray .int, 2) := by decide +kernel
theorem dd_Pr_init_37 : decode prog_5_method_1_code 37 = .ok (.putfield 23, 3) := by decide +kernel
theorem dd_Pr_init_40 : decode prog_5_method_1_code 40 = .ok (.aload_n 0, 1) := by decide +kernel
theorem dd_Pr_init_41 : decode prog_5_method_1_code 41 = .ok (.bipush 60, 2) := by decide +kernel
theorem dd_Pr_init_43 : decode prog_5_method_1_code 43 = .ok (.newarray .int, 2) := by decide +kernel
theorem dd_Pr_init_45 : decode prog_5_method_1_code 45 = .ok (.putfield 26, 3) := by decide +kernel
theorem dd_Pr_init_48 : decode prog_5_method_1_code 48 = .ok (.aload_n 0, 1) := by decide +kernel
theorem dd_Pr_init_49 : decode prog_5_method_1_code 49 = .ok (.bipush 60, 2) := by decide +kernel
theorem dd_Pr_init_51 : decode prog_5_method_1_code 51 = .ok (.newarray .int, 2) := by decide +kernel
theorem dd_Pr_init_53 : decode prog_5_method_1_code 53 = .ok (.putfield 29, 3) := by decide +kernel
theorem dd_Pr_init_56 : decode prog_5_method_1_code 56 = .ok (.aload_n 0, 1) := by decide +kernel
theorem dd_Pr_init_57 : decode prog_5_method_1_code 57 = .ok (.bipush 60, 2) := by decide +kernel
theorem dd_Pr_init_59 : decode prog_5_method_1_code 59 = .ok (.newarray .int, 2) := by decide +kernel
theorem dd_Pr_init_61 : decode prog_5_method_1_code 61 = .ok (.putfield 32, 3) := by decide +kernel
theorem dd_Pr_init_64 : decode prog_5_method_1_code 64 = .ok (.aload_n 0, 1) := by decide +kernel
theorem dd_Pr_init_65 : decode prog_5_method_1_code 65 = .ok (.bipush 60, 2) := by decide +kernel
theorem dd_Pr_init_67 : decode prog_5_method_1_code 67 = .ok (.newarray .int, 2) := by decide +kernel
theorem dd_Pr_init_69 : decode prog_5_method_1_code 69 = .ok (.putfield 35, 3) := by decide +kernel
theorem dd_Pr_init_72 : decode prog_5_method_1_code 72 = .ok (.aload_n 0, 1) := by decide +kernel
theorem dd_Pr_init_73 : decode prog_5_method_1_code 73 = .ok (.bipush 60, 2) := by decide +kernel
theorem dd_Pr_init_75 : decode prog_5_method_1_code 75 = .ok (.newarray .int, 2) := by decide +kernel
theorem dd_Pr_init_77 : decode prog_5_method_1_code 77 = .ok (.putfield 38, 3) := by decide +kernel
theorem dd_Pr_init_80 : decode prog_5_method_1_code 80 = .ok (.return_, 1) := by decide +kernel
theorem dd_Fr_init_0 : decode prog_3_method_1_code 0 = .ok (.aload_n 0, 1) := by decide +kernel
theorem dd_Fr_init_1 : decode prog_3_method_1_code 1 = .ok (.invokespecial 3, 3) := by decide +kernel
theorem dd_Fr_init_4 : decode prog_3_method_1_code 4 = .ok (.aload_n 0, 1) := by decide +kernel
theorem dd_Fr_init_5 : decode prog_3_method_1_code 5 = .ok (.bipush 36, 2) := by decide +kernel
theorem dd_Fr_init_7 : decode prog_3_method_1_code 7 = .ok (.newarray .boolean, 2) := by decide +kernel
theorem dd_Fr_init_9 : decode prog_3_method_1_code 9 = .ok (.putfield 9, 3) := by decide +kernel
theorem dd_Fr_init_12 : decode prog_3_method_1_code 12 = .ok (.aload_n 0, 1) := by decide +kernel
theorem dd_Fr_init_13 : decode prog_3_method_1_code 13 = .ok (.bipush 36, 2) := by decide +kernel
theorem dd_Fr_init_15 : decode prog_3_method_1_code 15 = .ok (.newarray .boolean, 2) := by decide +kernel
theorem dd_Fr_init_17 : decode prog_3_method_1_code 17 = .ok (.putfield 15, 3) := by decide +kernel
theorem dd_Fr_init_20 : decode prog_3_method_1_code 20 = .ok (.aload_n 0, 1) := by decide +kernel
theorem dd_Fr_init_21 : decode prog_3_method_1_code 21 = .ok (.bipush 6, 2) := by decide +kernel
theorem dd_Fr_init_23 : decode prog_3_method_1_code 23 = .ok (.newarray .int, 2) := by decide +kernel
theorem dd_Fr_init_25 : decode prog_3_method_1_code 25 = .ok (.putfield 18, 3) := by decide +kernel
theorem dd_Fr_init_28 : decode prog_3_method_1_code 28 = .ok (.aload_n 0, 1) := by decide +kernel
theorem dd_Fr_init_29 : decode prog_3_method_1_code 29 = .ok (.bipush 6, 2) := by decide +kernel
theorem dd_Fr_init_31 : decode prog_3_method_1_code 31 = .ok (.bipush 6, 2) := by decide +kernel
theorem dd_Fr_init_33 : decode prog_3_method_1_code 33 = .ok (.multianewarray 22 2, 4) := by decide +kernel
theorem dd_Fr_init_37 : decode prog_3_method_1_code 37 = .ok (.putfield 24, 3) := by decide +kernel
theorem dd_Fr_init_40 : decode prog_3_method_1_code 40 = .ok (.aload_n 0, 1) := by decide +kernel
theorem dd_Fr_init_41 : decode prog_3_method_1_code 41 = .ok (.aload_n 1, 1) := by decide +kernel
theorem dd_Fr_init_42 : decode prog_3_method_1_code 42 = .ok (.putfield 27, 3) := by decide +kernel
theorem dd_Fr_init_45 : decode prog_3_method_1_code 45 = .ok (.return_, 1) := by decide +kernel
theorem dd_As_init_0 : decode prog_2_method_1_code 0 = .ok (.aload_n 0, 1) := by decide +kernel
theorem dd_As_init_1 : decode prog_2_method_1_code 1 = .ok (.invokespecial 3, 3) := by decide +kernel
theorem dd_As_init_4 : decode prog_2_method_1_code 4 = .ok (.aload_n 0, 1) := by decide +kernel
theorem dd_As_init_5 : decode prog_2_method_1_code 5 = .ok (.sipush 500, 3) := by decide +kernel
theorem dd_As_init_8 : decode prog_2_method_1_code 8 = .ok (.newarray .int, 2) := by decide +kernel
theorem dd_As_init_10 : decode prog_2_method_1_code 10 = .ok (.putfield 9, 3) := by decide +kernel
theorem dd_As_init_13 : decode prog_2_method_1_code 13 = .ok (.aload_n 0, 1) := by decide +kernel
theorem dd_As_init_14 : decode prog_2_method_1_code 14 = .ok (.sipush 500, 3) := by decide +kernel
theorem dd_As_init_17 : decode prog_2_method_1_code 17 = .ok (.newarray .int, 2) := by decide +kernel
theorem dd_As_init_19 : decode prog_2_method_1_code 19 = .ok (.putfield 15, 3) := by decide +kernel
theorem dd_As_init_22 : decode prog_2_method_1_code 22 = .ok (.aload_n 0, 1) := by decide +kernel
theorem dd_As_init_23 : decode prog_2_method_1_code 23 = .ok (.bipush 60, 2) := by decide +kernel
theorem dd_As_init_25 : decode prog_2_method_1_code 25 = .ok (.newarray .int, 2) := by decide +kernel
theorem dd_As_init_27 : decode prog_2_method_1_code 27 = .ok (.putfield 18, 3) := by decide +kernel
theorem dd_As_init_30 : decode prog_2_method_1_code 30 = .ok (.aload_n 0, 1) := by decide +kernel
theorem dd_As_init_31 : decode prog_2_method_1_code 31 = .ok (.bipush 60, 2) := by decide +kernel
theorem dd_As_init_33 : decode prog_2_method_1_code 33 = .ok (.newarray .int, 2) := by decide +kernel
theorem dd_As_init_35 : decode prog_2_method_1_code 35 = .ok (.putfield 21, 3) := by decide +kernel
theorem dd_As_init_38 : decode prog_2_method_1_code 38 = .ok (.aload_n 0, 1) := by decide +kernel
theorem dd_As_init_39 : decode prog_2_method_1_code 39 = .ok (.bipush 60, 2) := by decide +kernel
theorem dd_As_init_41 : decode prog_2_method_1_code 41 = .ok (.newarray .boolean, 2) := by decide +kernel
theorem dd_As_init_43 : decode prog_2_method_1_code 43 = .ok (.putfield 24, 3) := by decide +kernel
theorem dd_As_init_46 : decode prog_2_method_1_code 46 = .ok (.aload_n 0, 1) := by decide +kernel
theorem dd_As_init_47 : decode prog_2_method_1_code 47 = .ok (.bipush 60, 2) := by decide +kernel
theorem dd_As_init_49 : decode prog_2_method_1_code 49 = .ok (.newarray .boolean, 2) := by decide +kernel
theorem dd_As_init_51 : decode prog_2_method_1_code 51 = .ok (.putfield 28, 3) := by decide +kernel
theorem dd_As_init_54 : decode prog_2_method_1_code 54 = .ok (.aload_n 0, 1) := by decide +kernel
theorem dd_As_init_55 : decode prog_2_method_1_code 55 = .ok (.aload_n 1, 1) := by decide +kernel
theorem dd_As_init_56 : decode prog_2_method_1_code 56 = .ok (.putfield 31, 3) := by decide +kernel
theorem dd_As_init_59 : decode prog_2_method_1_code 59 = .ok (.aload_n 0, 1) := by decide +kernel
theorem dd_As_init_60 : decode prog_2_method_1_code 60 = .ok (.aload_n 2, 1) := by decide +kernel
theorem dd_As_init_61 : decode prog_2_method_1_code 61 = .ok (.putfield 35, 3) := by decide +kernel
theorem dd_As_init_64 : decode prog_2_method_1_code 64 = .ok (.return_, 1) := by decide +kernel
theorem dd_Po_init_0 : decode prog_4_method_1_code 0 = .ok (.aload_n 0, 1) := by decide +kernel
theorem dd_Po_init_1 : decode prog_4_method_1_code 1 = .ok (.invokespecial 3, 3) := by decide +kernel
theorem dd_Po_init_4 : decode prog_4_method_1_code 4 = .ok (.aload_n 0, 1) := by decide +kernel
theorem dd_Po_init_5 : decode prog_4_method_1_code 5 = .ok (.sipush 128, 3) := by decide +kernel
theorem dd_Po_init_8 : decode prog_4_method_1_code 8 = .ok (.newarray .int, 2) := by decide +kernel
theorem dd_Po_init_10 : decode prog_4_method_1_code 10 = .ok (.putfield 9, 3) := by decide +kernel
theorem dd_Po_init_13 : decode prog_4_method_1_code 13 = .ok (.aload_n 0, 1) := by decide +kernel
theorem dd_Po_init_14 : decode prog_4_method_1_code 14 = .ok (.bipush 100, 2) := by decide +kernel
theorem dd_Po_init_16 : decode prog_4_method_1_code 16 = .ok (.newarray .int, 2) := by decide +kernel
theorem dd_Po_init_18 : decode prog_4_method_1_code 18 = .ok (.putfield 15, 3) := by decide +kernel
theorem dd_Po_init_21 : decode prog_4_method_1_code 21 = .ok (.aload_n 0, 1) := by decide +kernel
theorem dd_Po_init_22 : decode prog_4_method_1_code 22 = .ok (.bipush 6, 2) := by decide +kernel
theorem dd_Po_init_24 : decode prog_4_method_1_code 24 = .ok (.newarray .int, 2) := by decide +kernel
theorem dd_Po_init_26 : decode prog_4_method_1_code 26 = .ok (.putfield 18, 3) := by decide +kernel
theorem dd_Po_init_29 : decode prog_4_method_1_code 29 = .ok (.aload_n 0, 1) := by decide +kernel
theorem dd_Po_init_30 : decode prog_4_method_1_code 30 = .ok (.iconst (-1), 1) := by decide +kernel
theorem dd_Po_init_31 : decode prog_4_method_1_code 31 = .ok (.putfield 21, 3) := by decide +kernel
theorem dd_Po_init_34 : decode prog_4_method_1_code 34 = .ok (.aload_n 0, 1) := by decide +kernel
theorem dd_Po_init_35 : decode prog_4_method_1_code 35 = .ok (.aload_n 1, 1) := by decide +kernel
theorem dd_Po_init_36 : decode prog_4_method_1_code 36 = .ok (.putfield 25, 3) := by decide +kernel
theorem dd_Po_init_39 : decode prog_4_method_1_code 39 = .ok (.return_, 1) := by decide +kernel
theorem dd_Fb_init_0 : decode prog_1_method_1_code 0 = .ok (.aload_n 0, 1) := by decide +kernel
theorem dd_Fb_init_1 : decode prog_1_method_1_code 1 = .ok (.invokespecial 1, 3) := by decide +kernel
theorem dd_Fb_init_4 : decode prog_1_method_1_code 4 = .ok (.aload_n 0, 1) := by decide +kernel
theorem dd_Fb_init_5 : decode prog_1_method_1_code 5 = .ok (.new 7, 3) := by decide +kernel
theorem dd_Fb_init_8 : decode prog_1_method_1_code 8 = .ok (.dup, 1) := by decide +kernel
theorem dd_Fb_init_9 : decode prog_1_method_1_code 9 = .ok (.invokespecial 9, 3) := by decide +kernel
theorem dd_Fb_init_12 : decode prog_1_method_1_code 12 = .ok (.putfield 10, 3) := by decide +kernel
theorem dd_Fb_init_15 : decode prog_1_method_1_code 15 = .ok (.aload_n 0, 1) := by decide +kernel
theorem dd_Fb_init_16 : decode prog_1_method_1_code 16 = .ok (.new 16, 3) := by decide +kernel
theorem dd_Fb_init_19 : decode prog_1_method_1_code 19 = .ok (.dup, 1) := by decide +kernel
theorem dd_Fb_init_20 : decode prog_1_method_1_code 20 = .ok (.aload_n 0, 1) := by decide +kernel
theorem dd_Fb_init_21 : decode prog_1_method_1_code 21 = .ok (.getfield 10, 3) := by decide +kernel
theorem dd_Fb_init_24 : decode prog_1_method_1_code 24 = .ok (.invokespecial 18, 3) := by decide +kernel
theorem dd_Fb_init_27 : decode prog_1_method_1_code 27 = .ok (.putfield 21, 3) := by decide +kernel
theorem dd_Fb_init_30 : decode prog_1_method_1_code 30 = .ok (.aload_n 0, 1) := by decide +kernel
theorem dd_Fb_init_31 : decode prog_1_method_1_code 31 = .ok (.new 25, 3) := by decide +kernel
theorem dd_Fb_init_34 : decode prog_1_method_1_code 34 = .ok (.dup, 1) := by decide +kernel
theorem dd_Fb_init_35 : decode prog_1_method_1_code 35 = .ok (.aload_n 0, 1) := by decide +kernel
theorem dd_Fb_init_36 : decode prog_1_method_1_code 36 = .ok (.getfield 10, 3) := by decide +kernel
theorem dd_Fb_init_39 : decode prog_1_method_1_code 39 = .ok (.aload_n 0, 1) := by decide +kernel
theorem dd_Fb_init_40 : decode prog_1_method_1_code 40 = .ok (.getfield 21, 3) := by decide +kernel
theorem dd_Fb_init_43 : decode prog_1_method_1_code 43 = .ok (.invokespecial 27, 3) := by decide +kernel
theorem dd_Fb_init_46 : decode prog_1_method_1_code 46 = .ok (.putfield 30, 3) := by decide +kernel
theorem dd_Fb_init_49 : decode prog_1_method_1_code 49 = .ok (.aload_n 0, 1) := by decide +kernel
theorem dd_Fb_init_50 : decode prog_1_method_1_code 50 = .ok (.new 34, 3) := by decide +kernel
theorem dd_Fb_init_53 : decode prog_1_method_1_code 53 = .ok (.dup, 1) := by decide +kernel
theorem dd_Fb_init_54 : decode prog_1_method_1_code 54 = .ok (.aload_n 0, 1) := by decide +kernel
theorem dd_Fb_init_55 : decode prog_1_method_1_code 55 = .ok (.getfield 30, 3) := by decide +kernel
theorem dd_Fb_init_58 : decode prog_1_method_1_code 58 = .ok (.invokespecial 36, 3) := by decide +kernel
theorem dd_Fb_init_61 : decode prog_1_method_1_code 61 = .ok (.putfield 39, 3) := by decide +kernel
theorem dd_Fb_init_64 : decode prog_1_method_1_code 64 = .ok (.aload_n 0, 1) := by decide +kernel
theorem dd_Fb_init_65 : decode prog_1_method_1_code 65 = .ok (.iconst 0, 1) := by decide +kernel
theorem dd_Fb_init_66 : decode prog_1_method_1_code 66 = .ok (.putfield 43, 3) := by decide +kernel
theorem dd_Fb_init_69 : decode prog_1_method_1_code 69 = .ok (.return_, 1) := by decide +kernel
theorem dd_Mo_init_0 : decode prog_7_method_1_code 0 = .ok (.aload_n 0, 1) := by decide +kernel
theorem dd_Mo_init_1 : decode prog_7_method_1_code 1 = .ok (.invokespecial 1, 3) := by decide +kernel
theorem dd_Mo_init_4 : decode prog_7_method_1_code 4 = .ok (.aload_n 0, 1) := by decide +kernel
theorem dd_Mo_init_5 : decode prog_7_method_1_code 5 = .ok (.bipush 6, 2) := by decide +kernel
theorem dd_Mo_init_7 : decode prog_7_method_1_code 7 = .ok (.newarray .int, 2) := by decide +kernel
theorem dd_Mo_init_9 : decode prog_7_method_1_code 9 = .ok (.putfield 7, 3) := by decide +kernel
theorem dd_Mo_init_12 : decode prog_7_method_1_code 12 = .ok (.aload_n 0, 1) := by decide +kernel
theorem dd_Mo_init_13 : decode prog_7_method_1_code 13 = .ok (.bipush 6, 2) := by decide +kernel
theorem dd_Mo_init_15 : decode prog_7_method_1_code 15 = .ok (.newarray .int, 2) := by decide +kernel
theorem dd_Mo_init_17 : decode prog_7_method_1_code 17 = .ok (.putfield 13, 3) := by decide +kernel
theorem dd_Mo_init_20 : decode prog_7_method_1_code 20 = .ok (.aload_n 0, 1) := by decide +kernel
theorem dd_Mo_init_21 : decode prog_7_method_1_code 21 = .ok (.bipush 36, 2) := by decide +kernel
theorem dd_Mo_init_23 : decode prog_7_method_1_code 23 = .ok (.newarray .int, 2) := by decide +kernel
theorem dd_Mo_init_25 : decode prog_7_method_1_code 25 = .ok (.putfield 16, 3) := by decide +kernel
theorem dd_Mo_init_28 : decode prog_7_method_1_code 28 = .ok (.aload_n 0, 1) := by decide +kernel
theorem dd_Mo_init_29 : decode prog_7_method_1_code 29 = .ok (.sipush 144, 3) := by decide +kernel
theorem dd_Mo_init_32 : decode prog_7_method_1_code 32 = .ok (.newarray .int, 2) := by decide +kernel
theorem dd_Mo_init_34 : decode prog_7_method_1_code 34 = .ok (.putfield 19, 3) := by decide +kernel
theorem dd_Mo_init_37 : decode prog_7_method_1_code 37 = .ok (.aload_n 0, 1) := by decide +kernel
theorem dd_Mo_init_38 : decode prog_7_method_1_code 38 = .ok (.sipush 144, 3) := by decide +kernel
theorem dd_Mo_init_41 : decode prog_7_method_1_code 41 = .ok (.newarray .int, 2) := by decide +kernel
theorem dd_Mo_init_43 : decode prog_7_method_1_code 43 = .ok (.putfield 22, 3) := by decide +kernel
theorem dd_Mo_init_46 : decode prog_7_method_1_code 46 = .ok (.aload_n 0, 1) := by decide +kernel
theorem dd_Mo_init_47 : decode prog_7_method_1_code 47 = .ok (.sipush 144, 3) := by decide +kernel
theorem dd_Mo_init_50 : decode prog_7_method_1_code 50 = .ok (.newarray .int, 2) := by decide +kernel
theorem dd_Mo_init_52 : decode prog_7_method_1_code 52 = .ok (.putfield 25, 3) := by decide +kernel
theorem dd_Mo_init_55 : decode prog_7_method_1_code 55 = .ok (.aload_n 0, 1) := by decide +kernel
theorem dd_Mo_init_56 : decode prog_7_method_1_code 56 = .ok (.sipush 144, 3) := by decide +kernel
theorem dd_Mo_init_59 : decode prog_7_method_1_code 59 = .ok (.newarray .int, 2) := by decide +kernel
theorem dd_Mo_init_61 : decode prog_7_method_1_code 61 = .ok (.putfield 28, 3) := by decide +kernel
theorem dd_Mo_init_64 : decode prog_7_method_1_code 64 = .ok (.aload_n 0, 1) := by decide +kernel
theorem dd_Mo_init_65 : decode prog_7_method_1_code 65 = .ok (.bipush 6, 2) := by decide +kernel
theorem dd_Mo_init_67 : decode prog_7_method_1_code 67 = .ok (.newarray .int, 2) := by decide +kernel
theorem dd_Mo_init_69 : decode prog_7_method_1_code 69 = .ok (.putfield 31, 3) := by decide +kernel
theorem dd_Mo_init_72 : decode prog_7_method_1_code 72 = .ok (.aload_n 0, 1) := by decide +kernel
theorem dd_Mo_init_73 : decode prog_7_method_1_code 73 = .ok (.bipush 36, 2) := by decide +kernel
theorem dd_Mo_init_75 : decode prog_7_method_1_code 75 = .ok (.newarray .boolean, 2) := by decide +kernel
theorem dd_Mo_init_77 : decode prog_7_method_1_code 77 = .ok (.putfield 34, 3) := by decide +kernel
theorem dd_Mo_init_80 : decode prog_7_method_1_code 80 = .ok (.aload_n 0, 1) := by decide +kernel
theorem dd_Mo_init_81 : decode prog_7_method_1_code 81 = .ok (.sipush 1700, 3) := by decide +kernel
theorem dd_Mo_init_84 : decode prog_7_method_1_code 84 = .ok (.newarray .int, 2) := by decide +kernel
theorem dd_Mo_init_86 : decode prog_7_method_1_code 86 = .ok (.putfield 38, 3) := by decide +kernel
theorem dd_Mo_init_89 : decode prog_7_method_1_code 89 = .ok (.aload_n 0, 1) := by decide +kernel
theorem dd_Mo_init_90 : decode prog_7_method_1_code 90 = .ok (.sipush 144, 3) := by decide +kernel
theorem dd_Mo_init_93 : decode prog_7_method_1_code 93 = .ok (.newarray .int, 2) := by decide +kernel
theorem dd_Mo_init_95 : decode prog_7_method_1_code 95 = .ok (.putfield 41, 3) := by decide +kernel
theorem dd_Mo_init_98 : decode prog_7_method_1_code 98 = .ok (.aload_n 0, 1) := by decide +kernel
theorem dd_Mo_init_99 : decode prog_7_method_1_code 99 = .ok (.sipush 144, 3) := by decide +kernel
theorem dd_Mo_init_102 : decode prog_7_method_1_code 102 = .ok (.newarray .boolean, 2) := by decide +kernel
theorem dd_Mo_init_104 : decode prog_7_method_1_code 104 = .ok (.putfield 44, 3) := by decide +kernel
theorem dd_Mo_init_107 : decode prog_7_method_1_code 107 = .ok (.aload_n 0, 1) := by decide +kernel
theorem dd_Mo_init_108 : decode prog_7_method_1_code 108 = .ok (.sipush 144, 3) := by decide +kernel
theorem dd_Mo_init_111 : decode prog_7_method_1_code 111 = .ok (.newarray .boolean, 2) := by decide +kernel
theorem dd_Mo_init_113 : decode prog_7_method_1_code 113 = .ok (.putfield 47, 3) := by decide +kernel
theorem dd_Mo_init_116 : decode prog_7_method_1_code 116 = .ok (.aload_n 0, 1) := by decide +kernel
theorem dd_Mo_init_117 : decode prog_7_method_1_code 117 = .ok (.sipush 144, 3) := by decide +kernel
theorem dd_Mo_init_120 : decode prog_7_method_1_code 120 = .ok (.newarray .int, 2) := by decide +kernel
theorem dd_Mo_init_122 : decode prog_7_method_1_code 122 = .ok (.putfield 50, 3) := by decide +kernel
theorem dd_Mo_init_125 : decode prog_7_method_1_code 125 = .ok (.aload_n 0, 1) := by decide +kernel
theorem dd_Mo_init_126 : decode prog_7_method_1_code 126 = .ok (.sipush 144, 3) := by decide +kernel
theorem dd_Mo_init_129 : decode prog_7_method_1_code 129 = .ok (.newarray .int, 2) := by decide +kernel
theorem dd_Mo_init_131 : decode prog_7_method_1_code 131 = .ok (.putfield 53, 3) := by decide +kernel
theorem dd_Mo_init_134 : decode prog_7_method_1_code 134 = .ok (.aload_n 0, 1) := by decide +kernel
theorem dd_Mo_init_135 : decode prog_7_method_1_code 135 = .ok (.bipush 8, 2) := by decide +kernel
theorem dd_Mo_init_137 : decode prog_7_method_1_code 137 = .ok (.newarray .int, 2) := by decide +kernel
theorem dd_Mo_init_139 : decode prog_7_method_1_code 139 = .ok (.putfield 56, 3) := by decide +kernel
theorem dd_Mo_init_142 : decode prog_7_method_1_code 142 = .ok (.aload_n 0, 1) := by decide +kernel
theorem dd_Mo_init_143 : decode prog_7_method_1_code 143 = .ok (.sipush 128, 3) := by decide +kernel
theorem dd_Mo_init_146 : decode prog_7_method_1_code 146 = .ok (.newarray .int, 2) := by decide +kernel
theorem dd_Mo_init_148 : decode prog_7_method_1_code 148 = .ok (.putfield 59, 3) := by decide +kernel
theorem dd_Mo_init_151 : decode prog_7_method_1_code 151 = .ok (.aload_n 0, 1) := by decide +kernel
theorem dd_Mo_init_152 : decode prog_7_method_1_code 152 = .ok (.bipush 100, 2) := by decide +kernel
theorem dd_Mo_init_154 : decode prog_7_method_1_code 154 = .ok (.newarray .int, 2) := by decide +kernel
theorem dd_Mo_init_156 : decode prog_7_method_1_code 156 = .ok (.putfield 62, 3) := by decide +kernel
theorem dd_Mo_init_159 : decode prog_7_method_1_code 159 = .ok (.return_, 1) := by decide +kernel
abbrev fb_Pr_init : fb_M := (⟨"FrameBackEnd$Program", "<init>", "()V"⟩, prog_5_method_1_code, 1, none, 1)
theorem cd_Pr_init : fb_cd fb_Pr_init := fb_tb1 21 rfl rfl
abbrev fb_Fr_init : fb_M := (⟨"FrameBackEnd$Frames", "<init>", "(LFrameBackEnd$Program;)V"⟩, prog_3_method_1_code, 2, none, 1)
theorem cd_Fr_init : fb_cd fb_Fr_init := fb_tb1 79 rfl rfl
abbrev fb_As_init : fb_M := (⟨"FrameBackEnd$Assembler", "<init>", "(LFrameBackEnd$Program;LFrameBackEnd$Frames;)V"⟩, prog_2_method_1_code, 3, none, 1)
theorem cd_As_init : fb_cd fb_As_init := fb_tb1 106 rfl rfl
abbrev fb_Po_init : fb_M := (⟨"FrameBackEnd$Processor", "<init>", "(LFrameBackEnd$Assembler;)V"⟩, prog_4_method_1_code, 2, none, 1)
theorem cd_Po_init : fb_cd fb_Po_init := fb_tb1 155 rfl rfl
abbrev fb_Fb_init : fb_M := (⟨"FrameBackEnd", "<init>", "()V"⟩, prog_1_method_1_code, 1, none, 2)
theorem cd_Fb_init : fb_cd fb_Fb_init := fb_tb1 13 rfl rfl
abbrev fb_Mo_init : fb_M := (⟨"FrameBackEndModel", "<init>", "()V"⟩, prog_7_method_1_code, 1, none, 1)
theorem cd_Mo_init : fb_cd fb_Mo_init := fb_tb3 133 rfl rfl
def wPr (cI cB cII : ClassId) (h0 : Nat) (u : (Nat → Nat) × (Nat → Nat)) : va_W := [(h0, .inr (1, [.ref (u.1 6), .ref (u.1 13), .ref (u.1 14), .ref (u.1 15), .ref (u.1 16), .ref (u.1 17), .ref (u.1 18), .ref (u.1 19), .ref (u.1 20), .int 0, .int 0])), ((u.1 6), .inl (cII, 6, .inr (.inr (.inr (.inr (fun i => if i < 6 then some (u.2 i) else none)))))), (u.2 0, .inl (cI, 6, .inl (fun _ => 0))), (u.2 1, .inl (cI, 6, .inl (fun _ => 0))), (u.2 2, .inl (cI, 6, .inl (fun _ => 0))), (u.2 3, .inl (cI, 6, .inl (fun _ => 0))), (u.2 4, .inl (cI, 6, .inl (fun _ => 0))), (u.2 5, .inl (cI, 6, .inl (fun _ => 0))), ((u.1 13), .inl (cI, 6, .inl (fun _ => 0))), ((u.1 14), .inl (cI, 6, .inl (fun _ => 0))), ((u.1 15), .inl (cI, 6, .inl (fun _ => 0))), ((u.1 16), .inl (cI, 60, .inl (fun _ => 0))), ((u.1 17), .inl (cI, 60, .inl (fun _ => 0))), ((u.1 18), .inl (cI, 60, .inl (fun _ => 0))), ((u.1 19), .inl (cI, 60, .inl (fun _ => 0))), ((u.1 20), .inl (cI, 60, .inl (fun _ => 0)))]
set_option maxHeartbeats 4000000 in
set_option maxRecDepth 100000 in
theorem cn_Pr (l : Launch) (D : va_G) (cI cB cII : ClassId) (h0 : Nat) (sz : Nat) : Met l fb_Pr_init.1 (fb_ws fb_Pr_init) (cn_R 1 15 360) (cn_P D cI cB cII [.ref h0] [(h0, .inr (1, fd_1))] sz) (cn_Q D (wPr cI cB cII h0) (va_A [(h0, .inr (1, fd_1))] sz)) 15 360 (va_A [(h0, .inr (1, fd_1))] sz) := by
  refine cn_met (M := fb_Pr_init) (by decide +kernel) rfl rfl (Nat.le_of_ble_eq_true rfl) (fun p e s m args below meth c la X hl => ?_) sz
  refine cn_aload X (i := 0) dd_Pr_init_0 (lv_at hl 0 rfl) ?_
  refine cn_obj X (fb_tb1 22 rfl rfl) ob_2 ob_3 hl.1 dd_Pr_init_1 ⟨Nat.le_of_ble_eq_true rfl, Nat.le_of_ble_eq_true rfl⟩ ?_
  refine cn_aload X (i := 0) dd_Pr_init_4 (lv_at hl 0 rfl) ?_
  refine cn_bipush X dd_Pr_init_5 (v := 6) rfl ?_
  refine cn_bipush X dd_Pr_init_7 (v := 6) rfl ?_
  refine cn_mna X (fb_tb1 23 rfl rfl) ar_I (Nat.le_of_ble_eq_true rfl) (Nat.le_of_ble_eq_true rfl) dd_Pr_init_9 (fun q9 r => ?_)
  refine cn_putF X (T := fb_T1) (ci := 1) (ty := (.array (.array .int))) 0 rfl rfl 0 (by decide) (fb_tb1 25 rfl rfl) rfl rfl (by decide +kernel) rfl rfl (Nat.le_of_ble_eq_true rfl) dd_Pr_init_13 (ws' := [(h0, .inr (1, [.ref q9, .null, .null, .null, .null, .null, .null, .null, .null, .int 0, .int 0])), (q9, .inl (cII, 6, .inr (.inr (.inr (.inr (fun i => if i < 6 then some (r i) else none)))))), (r 0, .inl (cI, 6, .inl (fun _ => 0))), (r 1, .inl (cI, 6, .inl (fun _ => 0))), (r 2, .inl (cI, 6, .inl (fun _ => 0))), (r 3, .inl (cI, 6, .inl (fun _ => 0))), (r 4, .inl (cI, 6, .inl (fun _ => 0))), (r 5, .inl (cI, 6, .inl (fun _ => 0)))]) rfl ?_
  refine cn_aload X (i := 0) dd_Pr_init_16 (lv_at hl 0 rfl) ?_
  refine cn_bipush X dd_Pr_init_17 (v := 6) rfl ?_
  refine cn_newI X dd_Pr_init_19 ar_I (N := 6) (by decide) rfl (by decide) (Nat.le_of_ble_eq_true rfl) (Nat.le_of_ble_eq_true rfl) (fun q19 => ?_)
  refine cn_putF X (T := fb_T1) (ci := 1) (ty := (.array .int)) 0 rfl rfl 1 (by decide) (fb_tb1 27 rfl rfl) rfl rfl (by decide +kernel) rfl rfl (Nat.le_of_ble_eq_true rfl) dd_Pr_init_21 (ws' := [(h0, .inr (1, [.ref q9, .ref q19, .null, .null, .null, .null, .null, .null, .null, .int 0, .int 0])), (q9, .inl (cII, 6, .inr (.inr (.inr (.inr (fun i => if i < 6 then some (r i) else none)))))), (r 0, .inl (cI, 6, .inl (fun _ => 0))), (r 1, .inl (cI, 6, .inl (fun _ => 0))), (r 2, .inl (cI, 6, .inl (fun _ => 0))), (r 3, .inl (cI, 6, .inl (fun _ => 0))), (r 4, .inl (cI, 6, .inl (fun _ => 0))), (r 5, .inl (cI, 6, .inl (fun _ => 0))), (q19, .inl (cI, 6, .inl (fun _ => 0)))]) rfl ?_
  refine cn_aload X (i := 0) dd_Pr_init_24 (lv_at hl 0 rfl) ?_
  refine cn_bipush X dd_Pr_init_25 (v := 6) rfl ?_
  refine cn_newI X dd_Pr_init_27 ar_I (N := 6) (by decide) rfl (by decide) (Nat.le_of_ble_eq_true rfl) (Nat.le_of_ble_eq_true rfl) (fun q27 => ?_)
  refine cn_putF X (T := fb_T1) (ci := 1) (ty := (.array .int)) 0 rfl rfl 2 (by decide) (fb_tb1 29 rfl rfl) rfl rfl (by decide +kernel) rfl rfl (Nat.le_of_ble_eq_true rfl) dd_Pr_init_29 (ws' := [(h0, .inr (1, [.ref q9, .ref q19, .ref q27, .null, .null, .null, .null, .null, .null, .int 0, .int 0])), (q9, .inl (cII, 6, .inr (.inr (.inr (.inr (fun i => if i < 6 then some (r i) else none)))))), (r 0, .inl (cI, 6, .inl (fun _ => 0))), (r 1, .inl (cI, 6, .inl (fun _ => 0))), (r 2, .inl (cI, 6, .inl (fun _ => 0))), (r 3, .inl (cI, 6, .inl (fun _ => 0))), (r 4, .inl (cI, 6, .inl (fun _ => 0))), (r 5, .inl (cI, 6, .inl (fun _ => 0))), (q19, .inl (cI, 6, .inl (fun _ => 0))), (q27, .inl (cI, 6, .inl (fun _ => 0)))]) rfl ?_
  refine cn_aload X (i := 0) dd_Pr_init_32 (lv_at hl 0 rfl) ?_
  refine cn_bipush X dd_Pr_init_33 (v := 6) rfl ?_
  refine cn_newI X dd_Pr_init_35 ar_I (N := 6) (by decide) rfl (by decide) (Nat.le_of_ble_eq_true rfl) (Nat.le_of_ble_eq_true rfl) (fun q35 => ?_)
  refine cn_putF X (T := fb_T1) (ci := 1) (ty := (.array .int)) 0 rfl rfl 3 (by decide) (fb_tb1 32 rfl rfl) rfl rfl (by decide +kernel) rfl rfl (Nat.le_of_ble_eq_true rfl) dd_Pr_init_37 (ws' := [(h0, .inr (1, [.ref q9, .ref q19, .ref q27, .ref q35, .null, .null, .null, .null, .null, .int 0, .int 0])), (q9, .inl (cII, 6, .inr (.inr (.inr (.inr (fun i => if i < 6 then some (r i) else none)))))), (r 0, .inl (cI, 6, .inl (fun _ => 0))), (r 1, .inl (cI, 6, .inl (fun _ => 0))), (r 2, .inl (cI, 6, .inl (fun _ => 0))), (r 3, .inl (cI, 6, .inl (fun _ => 0))), (r 4, .inl (cI, 6, .inl (fun _ => 0))), (r 5, .inl (cI, 6, .inl (fun _ => 0))), (q19, .inl (cI, 6, .inl (fun _ => 0))), (q27, .inl (cI, 6, .inl (fun _ => 0))), (q35, .inl (cI, 6, .inl (fun _ => 0)))]) rfl ?_
  refine cn_aload X (i := 0) dd_Pr_init_40 (lv_at hl 0 rfl) ?_
  refine cn_bipush X dd_Pr_init_41 (v := 60) rfl ?_
  refine cn_newI X dd_Pr_init_43 ar_I (N := 60) (by decide) rfl (by decide) (Nat.le_of_ble_eq_true rfl) (Nat.le_of_ble_eq_true rfl) (fun q43 => ?_)
  refine cn_putF X (T := fb_T1) (ci := 1) (ty := (.array .int)) 0 rfl rfl 4 (by decide) (fb_tb1 33 rfl rfl) rfl rfl (by decide +kernel) rfl rfl (Nat.le_of_ble_eq_true rfl) dd_Pr_init_45 (ws' := [(h0, .inr (1, [.ref q9, .ref q19, .ref q27, .ref q35, .ref q43, .null, .null, .null, .null, .int 0, .int 0])), (q9, .inl (cII, 6, .inr (.inr (.inr (.inr (fun i => if i < 6 then some (r i) else none)))))), (r 0, .inl (cI, 6, .inl (fun _ => 0))), (r 1, .inl (cI, 6, .inl (fun _ => 0))), (r 2, .inl (cI, 6, .inl (fun _ => 0))), (r 3, .inl (cI, 6, .inl (fun _ => 0))), (r 4, .inl (cI, 6, .inl (fun _ => 0))), (r 5, .inl (cI, 6, .inl (fun _ => 0))), (q19, .inl (cI, 6, .inl (fun _ => 0))), (q27, .inl (cI, 6, .inl (fun _ => 0))), (q35, .inl (cI, 6, .inl (fun _ => 0))), (q43, .inl (cI, 60, .inl (fun _ => 0)))]) rfl ?_
  refine cn_aload X (i := 0) dd_Pr_init_48 (lv_at hl 0 rfl) ?_
  refine cn_bipush X dd_Pr_init_49 (v := 60) rfl ?_
  refine cn_newI X dd_Pr_init_51 ar_I (N := 60) (by decide) rfl (by decide) (Nat.le_of_ble_eq_true rfl) (Nat.le_of_ble_eq_true rfl) (fun q51 => ?_)
  refine cn_putF X (T := fb_T1) (ci := 1) (ty := (.array .int)) 0 rfl rfl 5 (by decide) (fb_tb1 36 rfl rfl) rfl rfl (by decide +kernel) rfl rfl (Nat.le_of_ble_eq_true rfl) dd_Pr_init_53 (ws' := [(h0, .inr (1, [.ref q9, .ref q19, .ref q27, .ref q35, .ref q43, .ref q51, .null, .null, .null, .int 0, .int 0])), (q9, .inl (cII, 6, .inr (.inr (.inr (.inr (fun i => if i < 6 then some (r i) else none)))))), (r 0, .inl (cI, 6, .inl (fun _ => 0))), (r 1, .inl (cI, 6, .inl (fun _ => 0))), (r 2, .inl (cI, 6, .inl (fun _ => 0))), (r 3, .inl (cI, 6, .inl (fun _ => 0))), (r 4, .inl (cI, 6, .inl (fun _ => 0))), (r 5, .inl (cI, 6, .inl (fun _ => 0))), (q19, .inl (cI, 6, .inl (fun _ => 0))), (q27, .inl (cI, 6, .inl (fun _ => 0))), (q35, .inl (cI, 6, .inl (fun _ => 0))), (q43, .inl (cI, 60, .inl (fun _ => 0))), (q51, .inl (cI, 60, .inl (fun _ => 0)))]) rfl ?_
  refine cn_aload X (i := 0) dd_Pr_init_56 (lv_at hl 0 rfl) ?_
  refine cn_bipush X dd_Pr_init_57 (v := 60) rfl ?_
  refine cn_newI X dd_Pr_init_59 ar_I (N := 60) (by decide) rfl (by decide) (Nat.le_of_ble_eq_true rfl) (Nat.le_of_ble_eq_true rfl) (fun q59 => ?_)
  refine cn_putF X (T := fb_T1) (ci := 1) (ty := (.array .int)) 0 rfl rfl 6 (by decide) (fb_tb1 39 rfl rfl) rfl rfl (by decide +kernel) rfl rfl (Nat.le_of_ble_eq_true rfl) dd_Pr_init_61 (ws' := [(h0, .inr (1, [.ref q9, .ref q19, .ref q27, .ref q35, .ref q43, .ref q51, .ref q59, .null, .null, .int 0, .int 0])), (q9, .inl (cII, 6, .inr (.inr (.inr (.inr (fun i => if i < 6 then some (r i) else none)))))), (r 0, .inl (cI, 6, .inl (fun _ => 0))), (r 1, .inl (cI, 6, .inl (fun _ => 0))), (r 2, .inl (cI, 6, .inl (fun _ => 0))), (r 3, .inl (cI, 6, .inl (fun _ => 0))), (r 4, .inl (cI, 6, .inl (fun _ => 0))), (r 5, .inl (cI, 6, .inl (fun _ => 0))), (q19, .inl (cI, 6, .inl (fun _ => 0))), (q27, .inl (cI, 6, .inl (fun _ => 0))), (q35, .inl (cI, 6, .inl (fun _ => 0))), (q43, .inl (cI, 60, .inl (fun _ => 0))), (q51, .inl (cI, 60, .inl (fun _ => 0))), (q59, .inl (cI, 60, .inl (fun _ => 0)))]) rfl ?_
  refine cn_aload X (i := 0) dd_Pr_init_64 (lv_at hl 0 rfl) ?_
  refine cn_bipush X dd_Pr_init_65 (v := 60) rfl ?_
  refine cn_newI X dd_Pr_init_67 ar_I (N := 60) (by decide) rfl (by decide) (Nat.le_of_ble_eq_true rfl) (Nat.le_of_ble_eq_true rfl) (fun q67 => ?_)
  refine cn_putF X (T := fb_T1) (ci := 1) (ty := (.array .int)) 0 rfl rfl 7 (by decide) (fb_tb1 42 rfl rfl) rfl rfl (by decide +kernel) rfl rfl (Nat.le_of_ble_eq_true rfl) dd_Pr_init_69 (ws' := [(h0, .inr (1, [.ref q9, .ref q19, .ref q27, .ref q35, .ref q43, .ref q51, .ref q59, .ref q67, .null, .int 0, .int 0])), (q9, .inl (cII, 6, .inr (.inr (.inr (.inr (fun i => if i < 6 then some (r i) else none)))))), (r 0, .inl (cI, 6, .inl (fun _ => 0))), (r 1, .inl (cI, 6, .inl (fun _ => 0))), (r 2, .inl (cI, 6, .inl (fun _ => 0))), (r 3, .inl (cI, 6, .inl (fun _ => 0))), (r 4, .inl (cI, 6, .inl (fun _ => 0))), (r 5, .inl (cI, 6, .inl (fun _ => 0))), (q19, .inl (cI, 6, .inl (fun _ => 0))), (q27, .inl (cI, 6, .inl (fun _ => 0))), (q35, .inl (cI, 6, .inl (fun _ => 0))), (q43, .inl (cI, 60, .inl (fun _ => 0))), (q51, .inl (cI, 60, .inl (fun _ => 0))), (q59, .inl (cI, 60, .inl (fun _ => 0))), (q67, .inl (cI, 60, .inl (fun _ => 0)))]) rfl ?_
  refine cn_aload X (i := 0) dd_Pr_init_72 (lv_at hl 0 rfl) ?_
  refine cn_bipush X dd_Pr_init_73 (v := 60) rfl ?_
  refine cn_newI X dd_Pr_init_75 ar_I (N := 60) (by decide) rfl (by decide) (Nat.le_of_ble_eq_true rfl) (Nat.le_of_ble_eq_true rfl) (fun q75 => ?_)
  refine cn_putF X (T := fb_T1) (ci := 1) (ty := (.array .int)) 0 rfl rfl 8 (by decide) (fb_tb1 44 rfl rfl) rfl rfl (by decide +kernel) rfl rfl (Nat.le_of_ble_eq_true rfl) dd_Pr_init_77 (ws' := [(h0, .inr (1, [.ref q9, .ref q19, .ref q27, .ref q35, .ref q43, .ref q51, .ref q59, .ref q67, .ref q75, .int 0, .int 0])), (q9, .inl (cII, 6, .inr (.inr (.inr (.inr (fun i => if i < 6 then some (r i) else none)))))), (r 0, .inl (cI, 6, .inl (fun _ => 0))), (r 1, .inl (cI, 6, .inl (fun _ => 0))), (r 2, .inl (cI, 6, .inl (fun _ => 0))), (r 3, .inl (cI, 6, .inl (fun _ => 0))), (r 4, .inl (cI, 6, .inl (fun _ => 0))), (r 5, .inl (cI, 6, .inl (fun _ => 0))), (q19, .inl (cI, 6, .inl (fun _ => 0))), (q27, .inl (cI, 6, .inl (fun _ => 0))), (q35, .inl (cI, 6, .inl (fun _ => 0))), (q43, .inl (cI, 60, .inl (fun _ => 0))), (q51, .inl (cI, 60, .inl (fun _ => 0))), (q59, .inl (cI, 60, .inl (fun _ => 0))), (q67, .inl (cI, 60, .inl (fun _ => 0))), (q75, .inl (cI, 60, .inl (fun _ => 0)))]) rfl ?_
  exact cn_vret X dd_Pr_init_80 ((fun k => match k with | 6 => q9 | 13 => q19 | 14 => q27 | 15 => q35 | 16 => q43 | 17 => q51 | 18 => q59 | 19 => q67 | 20 => q75 | _ => 0), r) rfl
def wFr (cI cB cII : ClassId) (h0 a1 : Nat) (u : (Nat → Nat) × (Nat → Nat)) : va_W := [(h0, .inr (2, [.ref a1, .ref (u.1 21), .ref (u.1 22), .ref (u.1 23), .ref (u.1 24)])), ((u.1 21), .inl (cB, 36, .inl (fun _ => 0))), ((u.1 22), .inl (cB, 36, .inl (fun _ => 0))), ((u.1 23), .inl (cI, 6, .inl (fun _ => 0))), ((u.1 24), .inl (cII, 6, .inr (.inr (.inr (.inr (fun i => if i < 6 then some (u.2 i) else none)))))), (u.2 0, .inl (cI, 6, .inl (fun _ => 0))), (u.2 1, .inl (cI, 6, .inl (fun _ => 0))), (u.2 2, .inl (cI, 6, .inl (fun _ => 0))), (u.2 3, .inl (cI, 6, .inl (fun _ => 0))), (u.2 4, .inl (cI, 6, .inl (fun _ => 0))), (u.2 5, .inl (cI, 6, .inl (fun _ => 0)))]
set_option maxHeartbeats 4000000 in
set_option maxRecDepth 100000 in
theorem cn_Fr (l : Launch) (D : va_G) (cI cB cII : ClassId) (h0 : Nat) (a1 : Nat) (sz : Nat) : Met l fb_Fr_init.1 (fb_ws fb_Fr_init) (cn_R 1 10 120) (cn_P D cI cB cII [.ref h0, .ref a1] [(h0, .inr (2, fd_2))] sz) (cn_Q D (wFr cI cB cII h0 a1) (va_A [(h0, .inr (2, fd_2))] sz)) 10 120 (va_A [(h0, .inr (2, fd_2))] sz) := by
  refine cn_met (M := fb_Fr_init) (by decide +kernel) rfl rfl (Nat.le_of_ble_eq_true rfl) (fun p e s m args below meth c la X hl => ?_) sz
  refine cn_aload X (i := 0) dd_Fr_init_0 (lv_at hl 0 rfl) ?_
  refine cn_obj X (fb_tb1 80 rfl rfl) ob_2 ob_3 hl.1 dd_Fr_init_1 ⟨Nat.le_of_ble_eq_true rfl, Nat.le_of_ble_eq_true rfl⟩ ?_
  refine cn_aload X (i := 0) dd_Fr_init_4 (lv_at hl 0 rfl) ?_
  refine cn_bipush X dd_Fr_init_5 (v := 36) rfl ?_
  refine cn_newZ X dd_Fr_init_7 ar_Z (N := 36) (by decide) rfl (by decide) (Nat.le_of_ble_eq_true rfl) (Nat.le_of_ble_eq_true rfl) (fun q7 => ?_)
  refine cn_putF X (T := fb_T2) (ci := 2) (ty := (.array .boolean)) 0 rfl rfl 1 (by decide) (fb_tb1 83 rfl rfl) rfl rfl (by decide +kernel) rfl rfl (Nat.le_of_ble_eq_true rfl) dd_Fr_init_9 (ws' := [(h0, .inr (2, [.null, .ref q7, .null, .null, .null])), (q7, .inl (cB, 36, .inl (fun _ => 0)))]) rfl ?_
  refine cn_aload X (i := 0) dd_Fr_init_12 (lv_at hl 0 rfl) ?_
  refine cn_bipush X dd_Fr_init_13 (v := 36) rfl ?_
  refine cn_newZ X dd_Fr_init_15 ar_Z (N := 36) (by decide) rfl (by decide) (Nat.le_of_ble_eq_true rfl) (Nat.le_of_ble_eq_true rfl) (fun q15 => ?_)
  refine cn_putF X (T := fb_T2) (ci := 2) (ty := (.array .boolean)) 0 rfl rfl 2 (by decide) (fb_tb1 84 rfl rfl) rfl rfl (by decide +kernel) rfl rfl (Nat.le_of_ble_eq_true rfl) dd_Fr_init_17 (ws' := [(h0, .inr (2, [.null, .ref q7, .ref q15, .null, .null])), (q7, .inl (cB, 36, .inl (fun _ => 0))), (q15, .inl (cB, 36, .inl (fun _ => 0)))]) rfl ?_
  refine cn_aload X (i := 0) dd_Fr_init_20 (lv_at hl 0 rfl) ?_
  refine cn_bipush X dd_Fr_init_21 (v := 6) rfl ?_
  refine cn_newI X dd_Fr_init_23 ar_I (N := 6) (by decide) rfl (by decide) (Nat.le_of_ble_eq_true rfl) (Nat.le_of_ble_eq_true rfl) (fun q23 => ?_)
  refine cn_putF X (T := fb_T2) (ci := 2) (ty := (.array .int)) 0 rfl rfl 3 (by decide) (fb_tb1 85 rfl rfl) rfl rfl (by decide +kernel) rfl rfl (Nat.le_of_ble_eq_true rfl) dd_Fr_init_25 (ws' := [(h0, .inr (2, [.null, .ref q7, .ref q15, .ref q23, .null])), (q7, .inl (cB, 36, .inl (fun _ => 0))), (q15, .inl (cB, 36, .inl (fun _ => 0))), (q23, .inl (cI, 6, .inl (fun _ => 0)))]) rfl ?_
  refine cn_aload X (i := 0) dd_Fr_init_28 (lv_at hl 0 rfl) ?_
  refine cn_bipush X dd_Fr_init_29 (v := 6) rfl ?_
  refine cn_bipush X dd_Fr_init_31 (v := 6) rfl ?_
  refine cn_mna X (fb_tb1 81 rfl rfl) ar_I (Nat.le_of_ble_eq_true rfl) (Nat.le_of_ble_eq_true rfl) dd_Fr_init_33 (fun q33 r => ?_)
  refine cn_putF X (T := fb_T2) (ci := 2) (ty := (.array (.array .int))) 0 rfl rfl 4 (by decide) (fb_tb1 87 rfl rfl) rfl rfl (by decide +kernel) rfl rfl (Nat.le_of_ble_eq_true rfl) dd_Fr_init_37 (ws' := [(h0, .inr (2, [.null, .ref q7, .ref q15, .ref q23, .ref q33])), (q7, .inl (cB, 36, .inl (fun _ => 0))), (q15, .inl (cB, 36, .inl (fun _ => 0))), (q23, .inl (cI, 6, .inl (fun _ => 0))), (q33, .inl (cII, 6, .inr (.inr (.inr (.inr (fun i => if i < 6 then some (r i) else none)))))), (r 0, .inl (cI, 6, .inl (fun _ => 0))), (r 1, .inl (cI, 6, .inl (fun _ => 0))), (r 2, .inl (cI, 6, .inl (fun _ => 0))), (r 3, .inl (cI, 6, .inl (fun _ => 0))), (r 4, .inl (cI, 6, .inl (fun _ => 0))), (r 5, .inl (cI, 6, .inl (fun _ => 0)))]) rfl ?_
  refine cn_aload X (i := 0) dd_Fr_init_40 (lv_at hl 0 rfl) ?_
  refine cn_aload X (i := 1) dd_Fr_init_41 (lv_at hl 1 rfl) ?_
  refine cn_putF X (T := fb_T2) (ci := 2) (ty := (.object "FrameBackEnd$Program")) 0 rfl rfl 0 (by decide) (fb_tb1 82 rfl rfl) rfl rfl (by decide +kernel) rfl rfl (Nat.le_of_ble_eq_true rfl) dd_Fr_init_42 (ws' := [(h0, .inr (2, [.ref a1, .ref q7, .ref q15, .ref q23, .ref q33])), (q7, .inl (cB, 36, .inl (fun _ => 0))), (q15, .inl (cB, 36, .inl (fun _ => 0))), (q23, .inl (cI, 6, .inl (fun _ => 0))), (q33, .inl (cII, 6, .inr (.inr (.inr (.inr (fun i => if i < 6 then some (r i) else none)))))), (r 0, .inl (cI, 6, .inl (fun _ => 0))), (r 1, .inl (cI, 6, .inl (fun _ => 0))), (r 2, .inl (cI, 6, .inl (fun _ => 0))), (r 3, .inl (cI, 6, .inl (fun _ => 0))), (r 4, .inl (cI, 6, .inl (fun _ => 0))), (r 5, .inl (cI, 6, .inl (fun _ => 0)))]) rfl ?_
  exact cn_vret X dd_Fr_init_45 ((fun k => match k with | 21 => q7 | 22 => q15 | 23 => q23 | 24 => q33 | _ => 0), r) rfl
def wAs (cI cB cII : ClassId) (h0 a1 a2 : Nat) (u : (Nat → Nat) × (Nat → Nat)) : va_W := [(h0, .inr (3, [.ref a1, .ref a2, .ref (u.1 31), .ref (u.1 32), .ref (u.1 33), .ref (u.1 34), .ref (u.1 35), .ref (u.1 36), .int 0, .int 0, .int 0, .int 0])), ((u.1 31), .inl (cI, 500, .inl (fun _ => 0))), ((u.1 32), .inl (cI, 500, .inl (fun _ => 0))), ((u.1 33), .inl (cI, 60, .inl (fun _ => 0))), ((u.1 34), .inl (cI, 60, .inl (fun _ => 0))), ((u.1 35), .inl (cB, 60, .inl (fun _ => 0))), ((u.1 36), .inl (cB, 60, .inl (fun _ => 0)))]
set_option maxHeartbeats 4000000 in
set_option maxRecDepth 100000 in
theorem cn_As (l : Launch) (D : va_G) (cI cB cII : ClassId) (h0 : Nat) (a1 a2 : Nat) (sz : Nat) : Met l fb_As_init.1 (fb_ws fb_As_init) (cn_R 1 6 1240) (cn_P D cI cB cII [.ref h0, .ref a1, .ref a2] [(h0, .inr (3, fd_3))] sz) (cn_Q D (wAs cI cB cII h0 a1 a2) (va_A [(h0, .inr (3, fd_3))] sz)) 6 1240 (va_A [(h0, .inr (3, fd_3))] sz) := by
  refine cn_met (M := fb_As_init) (by decide +kernel) rfl rfl (Nat.le_of_ble_eq_true rfl) (fun p e s m args below meth c la X hl => ?_) sz
  refine cn_aload X (i := 0) dd_As_init_0 (lv_at hl 0 rfl) ?_
  refine cn_obj X (fb_tb1 107 rfl rfl) ob_2 ob_3 hl.1 dd_As_init_1 ⟨Nat.le_of_ble_eq_true rfl, Nat.le_of_ble_eq_true rfl⟩ ?_
  refine cn_aload X (i := 0) dd_As_init_4 (lv_at hl 0 rfl) ?_
  refine cn_sipush X dd_As_init_5 (v := 500) rfl ?_
  refine cn_newI X dd_As_init_8 ar_I (N := 500) (by decide) rfl (by decide) (Nat.le_of_ble_eq_true rfl) (Nat.le_of_ble_eq_true rfl) (fun q8 => ?_)
  refine cn_putF X (T := fb_T3) (ci := 3) (ty := (.array .int)) 0 rfl rfl 2 (by decide) (fb_tb1 110 rfl rfl) rfl rfl (by decide +kernel) rfl rfl (Nat.le_of_ble_eq_true rfl) dd_As_init_10 (ws' := [(h0, .inr (3, [.null, .null, .ref q8, .null, .null, .null, .null, .null, .int 0, .int 0, .int 0, .int 0])), (q8, .inl (cI, 500, .inl (fun _ => 0)))]) rfl ?_
  refine cn_aload X (i := 0) dd_As_init_13 (lv_at hl 0 rfl) ?_
  refine cn_sipush X dd_As_init_14 (v := 500) rfl ?_
  refine cn_newI X dd_As_init_17 ar_I (N := 500) (by decide) rfl (by decide) (Nat.le_of_ble_eq_true rfl) (Nat.le_of_ble_eq_true rfl) (fun q17 => ?_)
  refine cn_putF X (T := fb_T3) (ci := 3) (ty := (.array .int)) 0 rfl rfl 3 (by decide) (fb_tb1 113 rfl rfl) rfl rfl (by decide +kernel) rfl rfl (Nat.le_of_ble_eq_true rfl) dd_As_init_19 (ws' := [(h0, .inr (3, [.null, .null, .ref q8, .ref q17, .null, .null, .null, .null, .int 0, .int 0, .int 0, .int 0])), (q8, .inl (cI, 500, .inl (fun _ => 0))), (q17, .inl (cI, 500, .inl (fun _ => 0)))]) rfl ?_
  refine cn_aload X (i := 0) dd_As_init_22 (lv_at hl 0 rfl) ?_
  refine cn_bipush X dd_As_init_23 (v := 60) rfl ?_
  refine cn_newI X dd_As_init_25 ar_I (N := 60) (by decide) rfl (by decide) (Nat.le_of_ble_eq_true rfl) (Nat.le_of_ble_eq_true rfl) (fun q25 => ?_)
  refine cn_putF X (T := fb_T3) (ci := 3) (ty := (.array .int)) 0 rfl rfl 4 (by decide) (fb_tb1 115 rfl rfl) rfl rfl (by decide +kernel) rfl rfl (Nat.le_of_ble_eq_true rfl) dd_As_init_27 (ws' := [(h0, .inr (3, [.null, .null, .ref q8, .ref q17, .ref q25, .null, .null, .null, .int 0, .int 0, .int 0, .int 0])), (q8, .inl (cI, 500, .inl (fun _ => 0))), (q17, .inl (cI, 500, .inl (fun _ => 0))), (q25, .inl (cI, 60, .inl (fun _ => 0)))]) rfl ?_
  refine cn_aload X (i := 0) dd_As_init_30 (lv_at hl 0 rfl) ?_
  refine cn_bipush X dd_As_init_31 (v := 60) rfl ?_
  refine cn_newI X dd_As_init_33 ar_I (N := 60) (by decide) rfl (by decide) (Nat.le_of_ble_eq_true rfl) (Nat.le_of_ble_eq_true rfl) (fun q33 => ?_)
  refine cn_putF X (T := fb_T3) (ci := 3) (ty := (.array .int)) 0 rfl rfl 5 (by decide) (fb_tb1 117 rfl rfl) rfl rfl (by decide +kernel) rfl rfl (Nat.le_of_ble_eq_true rfl) dd_As_init_35 (ws' := [(h0, .inr (3, [.null, .null, .ref q8, .ref q17, .ref q25, .ref q33, .null, .null, .int 0, .int 0, .int 0, .int 0])), (q8, .inl (cI, 500, .inl (fun _ => 0))), (q17, .inl (cI, 500, .inl (fun _ => 0))), (q25, .inl (cI, 60, .inl (fun _ => 0))), (q33, .inl (cI, 60, .inl (fun _ => 0)))]) rfl ?_
  refine cn_aload X (i := 0) dd_As_init_38 (lv_at hl 0 rfl) ?_
  refine cn_bipush X dd_As_init_39 (v := 60) rfl ?_
  refine cn_newZ X dd_As_init_41 ar_Z (N := 60) (by decide) rfl (by decide) (Nat.le_of_ble_eq_true rfl) (Nat.le_of_ble_eq_true rfl) (fun q41 => ?_)
  refine cn_putF X (T := fb_T3) (ci := 3) (ty := (.array .boolean)) 0 rfl rfl 6 (by decide) (fb_tb1 118 rfl rfl) rfl rfl (by decide +kernel) rfl rfl (Nat.le_of_ble_eq_true rfl) dd_As_init_43 (ws' := [(h0, .inr (3, [.null, .null, .ref q8, .ref q17, .ref q25, .ref q33, .ref q41, .null, .int 0, .int 0, .int 0, .int 0])), (q8, .inl (cI, 500, .inl (fun _ => 0))), (q17, .inl (cI, 500, .inl (fun _ => 0))), (q25, .inl (cI, 60, .inl (fun _ => 0))), (q33, .inl (cI, 60, .inl (fun _ => 0))), (q41, .inl (cB, 60, .inl (fun _ => 0)))]) rfl ?_
  refine cn_aload X (i := 0) dd_As_init_46 (lv_at hl 0 rfl) ?_
  refine cn_bipush X dd_As_init_47 (v := 60) rfl ?_
  refine cn_newZ X dd_As_init_49 ar_Z (N := 60) (by decide) rfl (by decide) (Nat.le_of_ble_eq_true rfl) (Nat.le_of_ble_eq_true rfl) (fun q49 => ?_)
  refine cn_putF X (T := fb_T3) (ci := 3) (ty := (.array .boolean)) 0 rfl rfl 7 (by decide) (fb_tb1 119 rfl rfl) rfl rfl (by decide +kernel) rfl rfl (Nat.le_of_ble_eq_true rfl) dd_As_init_51 (ws' := [(h0, .inr (3, [.null, .null, .ref q8, .ref q17, .ref q25, .ref q33, .ref q41, .ref q49, .int 0, .int 0, .int 0, .int 0])), (q8, .inl (cI, 500, .inl (fun _ => 0))), (q17, .inl (cI, 500, .inl (fun _ => 0))), (q25, .inl (cI, 60, .inl (fun _ => 0))), (q33, .inl (cI, 60, .inl (fun _ => 0))), (q41, .inl (cB, 60, .inl (fun _ => 0))), (q49, .inl (cB, 60, .inl (fun _ => 0)))]) rfl ?_
  refine cn_aload X (i := 0) dd_As_init_54 (lv_at hl 0 rfl) ?_
  refine cn_aload X (i := 1) dd_As_init_55 (lv_at hl 1 rfl) ?_
  refine cn_putF X (T := fb_T3) (ci := 3) (ty := (.object "FrameBackEnd$Program")) 0 rfl rfl 0 (by decide) (fb_tb1 108 rfl rfl) rfl rfl (by decide +kernel) rfl rfl (Nat.le_of_ble_eq_true rfl) dd_As_init_56 (ws' := [(h0, .inr (3, [.ref a1, .null, .ref q8, .ref q17, .ref q25, .ref q33, .ref q41, .ref q49, .int 0, .int 0, .int 0, .int 0])), (q8, .inl (cI, 500, .inl (fun _ => 0))), (q17, .inl (cI, 500, .inl (fun _ => 0))), (q25, .inl (cI, 60, .inl (fun _ => 0))), (q33, .inl (cI, 60, .inl (fun _ => 0))), (q41, .inl (cB, 60, .inl (fun _ => 0))), (q49, .inl (cB, 60, .inl (fun _ => 0)))]) rfl ?_
  refine cn_aload X (i := 0) dd_As_init_59 (lv_at hl 0 rfl) ?_
  refine cn_aload X (i := 2) dd_As_init_60 (lv_at hl 2 rfl) ?_
  refine cn_putF X (T := fb_T3) (ci := 3) (ty := (.object "FrameBackEnd$Frames")) 0 rfl rfl 1 (by decide) (fb_tb1 109 rfl rfl) rfl rfl (by decide +kernel) rfl rfl (Nat.le_of_ble_eq_true rfl) dd_As_init_61 (ws' := [(h0, .inr (3, [.ref a1, .ref a2, .ref q8, .ref q17, .ref q25, .ref q33, .ref q41, .ref q49, .int 0, .int 0, .int 0, .int 0])), (q8, .inl (cI, 500, .inl (fun _ => 0))), (q17, .inl (cI, 500, .inl (fun _ => 0))), (q25, .inl (cI, 60, .inl (fun _ => 0))), (q33, .inl (cI, 60, .inl (fun _ => 0))), (q41, .inl (cB, 60, .inl (fun _ => 0))), (q49, .inl (cB, 60, .inl (fun _ => 0)))]) rfl ?_
  exact cn_vret X dd_As_init_64 ((fun k => match k with | 31 => q8 | 32 => q17 | 33 => q25 | 34 => q33 | 35 => q41 | 36 => q49 | _ => 0), fun _ => 0) rfl
def wPo (cI cB cII : ClassId) (h0 a1 : Nat) (u : (Nat → Nat) × (Nat → Nat)) : va_W := [(h0, .inr (4, [.ref a1, .ref (u.1 37), .ref (u.1 38), .ref (u.1 39), .int 0, .int (-1), .int 0, .int 0, .int 0, .int 0, .int 0, .int 0, .int 0])), ((u.1 37), .inl (cI, 128, .inl (fun _ => 0))), ((u.1 38), .inl (cI, 100, .inl (fun _ => 0))), ((u.1 39), .inl (cI, 6, .inl (fun _ => 0)))]
set_option maxHeartbeats 4000000 in
set_option maxRecDepth 100000 in
theorem cn_Po (l : Launch) (D : va_G) (cI cB cII : ClassId) (h0 : Nat) (a1 : Nat) (sz : Nat) : Met l fb_Po_init.1 (fb_ws fb_Po_init) (cn_R 1 3 234) (cn_P D cI cB cII [.ref h0, .ref a1] [(h0, .inr (4, fd_4))] sz) (cn_Q D (wPo cI cB cII h0 a1) (va_A [(h0, .inr (4, fd_4))] sz)) 3 234 (va_A [(h0, .inr (4, fd_4))] sz) := by
  refine cn_met (M := fb_Po_init) (by decide +kernel) rfl rfl (Nat.le_of_ble_eq_true rfl) (fun p e s m args below meth c la X hl => ?_) sz
  refine cn_aload X (i := 0) dd_Po_init_0 (lv_at hl 0 rfl) ?_
  refine cn_obj X (fb_tb1 156 rfl rfl) ob_2 ob_3 hl.1 dd_Po_init_1 ⟨Nat.le_of_ble_eq_true rfl, Nat.le_of_ble_eq_true rfl⟩ ?_
  refine cn_aload X (i := 0) dd_Po_init_4 (lv_at hl 0 rfl) ?_
  refine cn_sipush X dd_Po_init_5 (v := 128) rfl ?_
  refine cn_newI X dd_Po_init_8 ar_I (N := 128) (by decide) rfl (by decide) (Nat.le_of_ble_eq_true rfl) (Nat.le_of_ble_eq_true rfl) (fun q8 => ?_)
  refine cn_putF X (T := fb_T4) (ci := 4) (ty := (.array .int)) 0 rfl rfl 1 (by decide) (fb_tb1 158 rfl rfl) rfl rfl (by decide +kernel) rfl rfl (Nat.le_of_ble_eq_true rfl) dd_Po_init_10 (ws' := [(h0, .inr (4, [.null, .ref q8, .null, .null, .int 0, .int 0, .int 0, .int 0, .int 0, .int 0, .int 0, .int 0, .int 0])), (q8, .inl (cI, 128, .inl (fun _ => 0)))]) rfl ?_
  refine cn_aload X (i := 0) dd_Po_init_13 (lv_at hl 0 rfl) ?_
  refine cn_bipush X dd_Po_init_14 (v := 100) rfl ?_
  refine cn_newI X dd_Po_init_16 ar_I (N := 100) (by decide) rfl (by decide) (Nat.le_of_ble_eq_true rfl) (Nat.le_of_ble_eq_true rfl) (fun q16 => ?_)
  refine cn_putF X (T := fb_T4) (ci := 4) (ty := (.array .int)) 0 rfl rfl 2 (by decide) (fb_tb1 160 rfl rfl) rfl rfl (by decide +kernel) rfl rfl (Nat.le_of_ble_eq_true rfl) dd_Po_init_18 (ws' := [(h0, .inr (4, [.null, .ref q8, .ref q16, .null, .int 0, .int 0, .int 0, .int 0, .int 0, .int 0, .int 0, .int 0, .int 0])), (q8, .inl (cI, 128, .inl (fun _ => 0))), (q16, .inl (cI, 100, .inl (fun _ => 0)))]) rfl ?_
  refine cn_aload X (i := 0) dd_Po_init_21 (lv_at hl 0 rfl) ?_
  refine cn_bipush X dd_Po_init_22 (v := 6) rfl ?_
  refine cn_newI X dd_Po_init_24 ar_I (N := 6) (by decide) rfl (by decide) (Nat.le_of_ble_eq_true rfl) (Nat.le_of_ble_eq_true rfl) (fun q24 => ?_)
  refine cn_putF X (T := fb_T4) (ci := 4) (ty := (.array .int)) 0 rfl rfl 3 (by decide) (fb_tb1 162 rfl rfl) rfl rfl (by decide +kernel) rfl rfl (Nat.le_of_ble_eq_true rfl) dd_Po_init_26 (ws' := [(h0, .inr (4, [.null, .ref q8, .ref q16, .ref q24, .int 0, .int 0, .int 0, .int 0, .int 0, .int 0, .int 0, .int 0, .int 0])), (q8, .inl (cI, 128, .inl (fun _ => 0))), (q16, .inl (cI, 100, .inl (fun _ => 0))), (q24, .inl (cI, 6, .inl (fun _ => 0)))]) rfl ?_
  refine cn_aload X (i := 0) dd_Po_init_29 (lv_at hl 0 rfl) ?_
  refine cn_iconst X dd_Po_init_30 (v := -1) rfl ?_
  refine cn_put X (T := fb_T4) (ci := 4) (ty := .int) 0 rfl rfl 5 (by decide) (fb_tb1 165 rfl rfl) rfl (by decide +kernel) rfl rfl (Nat.le_of_ble_eq_true rfl) dd_Po_init_31 (ws' := [(h0, .inr (4, [.null, .ref q8, .ref q16, .ref q24, .int 0, .int (-1), .int 0, .int 0, .int 0, .int 0, .int 0, .int 0, .int 0])), (q8, .inl (cI, 128, .inl (fun _ => 0))), (q16, .inl (cI, 100, .inl (fun _ => 0))), (q24, .inl (cI, 6, .inl (fun _ => 0)))]) rfl ?_
  refine cn_aload X (i := 0) dd_Po_init_34 (lv_at hl 0 rfl) ?_
  refine cn_aload X (i := 1) dd_Po_init_35 (lv_at hl 1 rfl) ?_
  refine cn_putF X (T := fb_T4) (ci := 4) (ty := (.object "FrameBackEnd$Assembler")) 0 rfl rfl 0 (by decide) (fb_tb1 157 rfl rfl) rfl rfl (by decide +kernel) rfl rfl (Nat.le_of_ble_eq_true rfl) dd_Po_init_36 (ws' := [(h0, .inr (4, [.ref a1, .ref q8, .ref q16, .ref q24, .int 0, .int (-1), .int 0, .int 0, .int 0, .int 0, .int 0, .int 0, .int 0])), (q8, .inl (cI, 128, .inl (fun _ => 0))), (q16, .inl (cI, 100, .inl (fun _ => 0))), (q24, .inl (cI, 6, .inl (fun _ => 0)))]) rfl ?_
  exact cn_vret X dd_Po_init_39 ((fun k => match k with | 37 => q8 | 38 => q16 | 39 => q24 | _ => 0), fun _ => 0) rfl
def wFb (cI cB cII : ClassId) (h0 : Nat) (u : (Nat × (Nat → Nat) × (Nat → Nat)) × (Nat × (Nat → Nat) × (Nat → Nat)) × (Nat × (Nat → Nat) × (Nat → Nat)) × (Nat × (Nat → Nat) × (Nat → Nat))) : va_W := (((([(h0, .inr (0, [.ref u.1.1, .ref u.2.1.1, .ref u.2.2.1.1, .ref u.2.2.2.1, .int 0]))] ++ wPr cI cB cII u.1.1 u.1.2) ++ wFr cI cB cII u.2.1.1 u.1.1 u.2.1.2) ++ wAs cI cB cII u.2.2.1.1 u.1.1 u.2.1.1 u.2.2.1.2) ++ wPo cI cB cII u.2.2.2.1 u.2.2.1.1 u.2.2.2.2)
set_option maxHeartbeats 4000000 in
set_option maxRecDepth 100000 in
theorem cn_Fb (l : Launch) (D : va_G) (cI cB cII : ClassId) (h0 : Nat) (sz : Nat) : Met l fb_Fb_init.1 (fb_ws fb_Fb_init) (cn_R 2 38 1995) (cn_P D cI cB cII [.ref h0] [(h0, .inr (0, fd_0))] sz) (cn_Q D (wFb cI cB cII h0) (va_A [(h0, .inr (0, fd_0))] sz)) 38 1995 (va_A [(h0, .inr (0, fd_0))] sz) := by
  refine cn_met (M := fb_Fb_init) (by decide +kernel) rfl rfl (Nat.le_of_ble_eq_true rfl) (fun p e s m args below meth c la X hl => ?_) sz
  refine cn_aload X (i := 0) dd_Fb_init_0 (lv_at hl 0 rfl) ?_
  refine cn_obj X (fb_tb1 14 rfl rfl) ob_2 ob_3 hl.1 dd_Fb_init_1 ⟨Nat.le_of_ble_eq_true rfl, Nat.le_of_ble_eq_true rfl⟩ ?_
  refine cn_aload X (i := 0) dd_Fb_init_4 (lv_at hl 0 rfl) ?_
  refine cn_new X (T := fb_T1) (ci := 1) (N := 11) rfl (fb_tb1 17 rfl rfl) (fb_tb1 18 rfl rfl) (fb_tb1 2 rfl rfl) (fs := fd_1) ft_1 fty_1 fdf_1 (Nat.le_of_ble_eq_true rfl) (Nat.le_of_ble_eq_true rfl) dd_Fb_init_5 (fun q5 => ?_)
  refine cn_dup X rfl dd_Fb_init_8 ?_
  refine cn_callN (R := cn_R 2 38 1995) (cells := 1) (slots := 11) (p := p) (e := e) (below := below) (Z := MQ below (cn_Q D (wFb cI cB cII h0) (va_A [(h0, .inr (0, fd_0))] s.heap.size)) args s 38 1995 (va_A [(h0, .inr (0, fd_0))] s.heap.size)) X (wr := [(h0, .inr (0, [.null, .null, .null, .null, .int 0]))]) (As := []) (st := [.ref q5, .ref h0]) (b := q5) (x := .inr (1, fd_1)) (n := 0) (hM := cn_Pr l D cI cB cII q5) rfl cd_Pr_init (fb_tn1 19 rfl rfl) (fb_tb1 20 rfl rfl) (fb_tb1 2 rfl rfl) rfl ⟨by decide, by decide, by decide +kernel⟩ rfl (by exact ⟨Nat.le_of_ble_eq_true rfl, Nat.le_of_ble_eq_true rfl⟩) hl.1 (by exact Nat.le_of_ble_eq_true rfl) dd_Fb_init_9 (by exact ⟨Nat.le_of_ble_eq_true rfl, Nat.le_of_ble_eq_true rfl⟩) rfl (fun u1 => ?_)
  refine cn_putF X (T := fb_T0) (ci := 0) (ty := (.object "FrameBackEnd$Program")) 0 rfl rfl 0 (by decide) (fb_tb1 203 rfl rfl) rfl rfl (by decide +kernel) rfl rfl (Nat.le_of_ble_eq_true rfl) dd_Fb_init_12 (ws' := ([(h0, .inr (0, [.ref q5, .null, .null, .null, .int 0]))] ++ wPr cI cB cII q5 u1)) rfl ?_
  refine cn_aload X (i := 0) dd_Fb_init_15 (lv_at hl 0 rfl) ?_
  refine cn_new X (T := fb_T2) (ci := 2) (N := 5) rfl (fb_tb1 75 rfl rfl) (fb_tb1 76 rfl rfl) (fb_tb1 3 rfl rfl) (fs := fd_2) ft_2 fty_2 fdf_2 (Nat.le_of_ble_eq_true rfl) (Nat.le_of_ble_eq_true rfl) dd_Fb_init_16 (fun q16 => ?_)
  refine cn_dup X rfl dd_Fb_init_19 ?_
  refine cn_aload X (i := 0) dd_Fb_init_20 (lv_at hl 0 rfl) ?_
  refine cn_get X (T := fb_T0) (ci := 0) 0 rfl rfl 0 (by decide) (fb_tb1 203 rfl rfl) rfl dd_Fb_init_21 ?_
  refine cn_call (R := cn_R 2 38 1995) (cells := 17) (slots := 376) (p := p) (e := e) (below := below) (Z := MQ below (cn_Q D (wFb cI cB cII h0) (va_A [(h0, .inr (0, fd_0))] s.heap.size)) args s 38 1995 (va_A [(h0, .inr (0, fd_0))] s.heap.size)) X (wr := ([(h0, .inr (0, [.ref q5, .null, .null, .null, .int 0]))] ++ wPr cI cB cII q5 u1)) (As := [.ref q5]) (st := [.ref q16, .ref h0]) (b := q16) (x := .inr (2, fd_2)) (n := 1) (hM := cn_Fr l D cI cB cII q16 q5) rfl cd_Fr_init (fb_tb1 77 rfl rfl) (fb_tb1 78 rfl rfl) (fb_tb1 3 rfl rfl) rfl ⟨by decide, by decide, by decide +kernel⟩ rfl (by exact ⟨Nat.le_of_ble_eq_true rfl, Nat.le_of_ble_eq_true rfl⟩) hl.1 (by exact Nat.le_of_ble_eq_true rfl) dd_Fb_init_24 (by exact ⟨Nat.le_of_ble_eq_true rfl, Nat.le_of_ble_eq_true rfl⟩) rfl (fun u2 => ?_)
  refine cn_putF X (T := fb_T0) (ci := 0) (ty := (.object "FrameBackEnd$Frames")) 0 rfl rfl 1 (by decide) (fb_tb1 204 rfl rfl) rfl rfl (by decide +kernel) rfl rfl (Nat.le_of_ble_eq_true rfl) dd_Fb_init_27 (ws' := (([(h0, .inr (0, [.ref q5, .ref q16, .null, .null, .int 0]))] ++ wPr cI cB cII q5 u1) ++ wFr cI cB cII q16 q5 u2)) rfl ?_
  refine cn_aload X (i := 0) dd_Fb_init_30 (lv_at hl 0 rfl) ?_
  refine cn_new X (T := fb_T3) (ci := 3) (N := 12) rfl (fb_tb1 102 rfl rfl) (fb_tb1 103 rfl rfl) (fb_tb1 4 rfl rfl) (fs := fd_3) ft_3 fty_3 fdf_3 (Nat.le_of_ble_eq_true rfl) (Nat.le_of_ble_eq_true rfl) dd_Fb_init_31 (fun q31 => ?_)
  refine cn_dup X rfl dd_Fb_init_34 ?_
  refine cn_aload X (i := 0) dd_Fb_init_35 (lv_at hl 0 rfl) ?_
  refine cn_get X (T := fb_T0) (ci := 0) 0 rfl rfl 0 (by decide) (fb_tb1 203 rfl rfl) rfl dd_Fb_init_36 ?_
  refine cn_aload X (i := 0) dd_Fb_init_39 (lv_at hl 0 rfl) ?_
  refine cn_get X (T := fb_T0) (ci := 0) 0 rfl rfl 1 (by decide) (fb_tb1 204 rfl rfl) rfl dd_Fb_init_40 ?_
  refine cn_call (R := cn_R 2 38 1995) (cells := 28) (slots := 508) (p := p) (e := e) (below := below) (Z := MQ below (cn_Q D (wFb cI cB cII h0) (va_A [(h0, .inr (0, fd_0))] s.heap.size)) args s 38 1995 (va_A [(h0, .inr (0, fd_0))] s.heap.size)) X (wr := (([(h0, .inr (0, [.ref q5, .ref q16, .null, .null, .int 0]))] ++ wPr cI cB cII q5 u1) ++ wFr cI cB cII q16 q5 u2)) (As := [.ref q5, .ref q16]) (st := [.ref q31, .ref h0]) (b := q31) (x := .inr (3, fd_3)) (n := 2) (hM := cn_As l D cI cB cII q31 q5 q16) rfl cd_As_init (fb_tb1 104 rfl rfl) (fb_tb1 105 rfl rfl) (fb_tb1 4 rfl rfl) rfl ⟨by decide, by decide, by decide +kernel⟩ rfl (by exact ⟨Nat.le_of_ble_eq_true rfl, Nat.le_of_ble_eq_true rfl⟩) hl.1 (by exact Nat.le_of_ble_eq_true rfl) dd_Fb_init_43 (by exact ⟨Nat.le_of_ble_eq_true rfl, Nat.le_of_ble_eq_true rfl⟩) rfl (fun u3 => ?_)
  refine cn_putF X (T := fb_T0) (ci := 0) (ty := (.object "FrameBackEnd$Assembler")) 0 rfl rfl 2 (by decide) (fb_tb1 205 rfl rfl) rfl rfl (by decide +kernel) rfl rfl (Nat.le_of_ble_eq_true rfl) dd_Fb_init_46 (ws' := ((([(h0, .inr (0, [.ref q5, .ref q16, .ref q31, .null, .int 0]))] ++ wPr cI cB cII q5 u1) ++ wFr cI cB cII q16 q5 u2) ++ wAs cI cB cII q31 q5 q16 u3)) rfl ?_
  refine cn_aload X (i := 0) dd_Fb_init_49 (lv_at hl 0 rfl) ?_
  refine cn_new X (T := fb_T4) (ci := 4) (N := 13) rfl (fb_tb1 151 rfl rfl) (fb_tb1 152 rfl rfl) (fb_tb1 5 rfl rfl) (fs := fd_4) ft_4 fty_4 fdf_4 (Nat.le_of_ble_eq_true rfl) (Nat.le_of_ble_eq_true rfl) dd_Fb_init_50 (fun q50 => ?_)
  refine cn_dup X rfl dd_Fb_init_53 ?_
  refine cn_aload X (i := 0) dd_Fb_init_54 (lv_at hl 0 rfl) ?_
  refine cn_get X (T := fb_T0) (ci := 0) 0 rfl rfl 2 (by decide) (fb_tb1 205 rfl rfl) rfl dd_Fb_init_55 ?_
  refine cn_call (R := cn_R 2 38 1995) (cells := 35) (slots := 1761) (p := p) (e := e) (below := below) (Z := MQ below (cn_Q D (wFb cI cB cII h0) (va_A [(h0, .inr (0, fd_0))] s.heap.size)) args s 38 1995 (va_A [(h0, .inr (0, fd_0))] s.heap.size)) X (wr := ((([(h0, .inr (0, [.ref q5, .ref q16, .ref q31, .null, .int 0]))] ++ wPr cI cB cII q5 u1) ++ wFr cI cB cII q16 q5 u2) ++ wAs cI cB cII q31 q5 q16 u3)) (As := [.ref q31]) (st := [.ref q50, .ref h0]) (b := q50) (x := .inr (4, fd_4)) (n := 1) (hM := cn_Po l D cI cB cII q50 q31) rfl cd_Po_init (fb_tb1 153 rfl rfl) (fb_tb1 154 rfl rfl) (fb_tb1 5 rfl rfl) rfl ⟨by decide, by decide, by decide +kernel⟩ rfl (by exact ⟨Nat.le_of_ble_eq_true rfl, Nat.le_of_ble_eq_true rfl⟩) hl.1 (by exact Nat.le_of_ble_eq_true rfl) dd_Fb_init_58 (by exact ⟨Nat.le_of_ble_eq_true rfl, Nat.le_of_ble_eq_true rfl⟩) rfl (fun u4 => ?_)
  refine cn_putF X (T := fb_T0) (ci := 0) (ty := (.object "FrameBackEnd$Processor")) 0 rfl rfl 3 (by decide) (fb_tb1 206 rfl rfl) rfl rfl (by decide +kernel) rfl rfl (Nat.le_of_ble_eq_true rfl) dd_Fb_init_61 (ws' := (((([(h0, .inr (0, [.ref q5, .ref q16, .ref q31, .ref q50, .int 0]))] ++ wPr cI cB cII q5 u1) ++ wFr cI cB cII q16 q5 u2) ++ wAs cI cB cII q31 q5 q16 u3) ++ wPo cI cB cII q50 q31 u4)) rfl ?_
  refine cn_aload X (i := 0) dd_Fb_init_64 (lv_at hl 0 rfl) ?_
  refine cn_iconst X dd_Fb_init_65 (v := 0) rfl ?_
  refine cn_put X (T := fb_T0) (ci := 0) (ty := .boolean) 0 rfl rfl 4 (by decide) (fb_tb1 207 rfl rfl) rfl (by decide +kernel) rfl rfl (Nat.le_of_ble_eq_true rfl) dd_Fb_init_66 (ws' := (((([(h0, .inr (0, [.ref q5, .ref q16, .ref q31, .ref q50, .int 0]))] ++ wPr cI cB cII q5 u1) ++ wFr cI cB cII q16 q5 u2) ++ wAs cI cB cII q31 q5 q16 u3) ++ wPo cI cB cII q50 q31 u4)) rfl ?_
  exact cn_vret X dd_Fb_init_69 ((q5, u1), (q16, u2), (q31, u3), (q50, u4)) rfl
def wMo (cI cB cII : ClassId) (h0 : Nat) (u : (Nat → Nat) × (Nat → Nat)) : va_W := [(h0, .inr (5, [.int 0, .int 0, .ref (u.1 40), .ref (u.1 41), .ref (u.1 42), .ref (u.1 43), .ref (u.1 44), .ref (u.1 45), .ref (u.1 46), .int 0, .ref (u.1 47), .ref (u.1 48), .ref (u.1 49), .int 0, .int 0, .int 0, .ref (u.1 50), .ref (u.1 51), .ref (u.1 52), .ref (u.1 53), .ref (u.1 54), .int 0, .int 0, .int 0, .int 0, .int 0, .int 0, .ref (u.1 55), .ref (u.1 56), .ref (u.1 57)])), ((u.1 40), .inl (cI, 6, .inl (fun _ => 0))), ((u.1 41), .inl (cI, 6, .inl (fun _ => 0))), ((u.1 42), .inl (cI, 36, .inl (fun _ => 0))), ((u.1 43), .inl (cI, 144, .inl (fun _ => 0))), ((u.1 44), .inl (cI, 144, .inl (fun _ => 0))), ((u.1 45), .inl (cI, 144, .inl (fun _ => 0))), ((u.1 46), .inl (cI, 144, .inl (fun _ => 0))), ((u.1 47), .inl (cI, 6, .inl (fun _ => 0))), ((u.1 48), .inl (cB, 36, .inl (fun _ => 0))), ((u.1 49), .inl (cI, 1700, .inl (fun _ => 0))), ((u.1 50), .inl (cI, 144, .inl (fun _ => 0))), ((u.1 51), .inl (cB, 144, .inl (fun _ => 0))), ((u.1 52), .inl (cB, 144, .inl (fun _ => 0))), ((u.1 53), .inl (cI, 144, .inl (fun _ => 0))), ((u.1 54), .inl (cI, 144, .inl (fun _ => 0))), ((u.1 55), .inl (cI, 8, .inl (fun _ => 0))), ((u.1 56), .inl (cI, 128, .inl (fun _ => 0))), ((u.1 57), .inl (cI, 100, .inl (fun _ => 0)))]
set_option maxHeartbeats 4000000 in
set_option maxRecDepth 100000 in
theorem cn_Mo (l : Launch) (D : va_G) (cI cB cII : ClassId) (h0 : Nat) (sz : Nat) : Met l fb_Mo_init.1 (fb_ws fb_Mo_init) (cn_R 1 18 3322) (cn_P D cI cB cII [.ref h0] [(h0, .inr (5, fd_5))] sz) (cn_Q D (wMo cI cB cII h0) (va_A [(h0, .inr (5, fd_5))] sz)) 18 3322 (va_A [(h0, .inr (5, fd_5))] sz) := by
  refine cn_met (M := fb_Mo_init) (by decide +kernel) rfl rfl (Nat.le_of_ble_eq_true rfl) (fun p e s m args below meth c la X hl => ?_) sz
  refine cn_aload X (i := 0) dd_Mo_init_0 (lv_at hl 0 rfl) ?_
  refine cn_obj X (fb_tb3 134 rfl rfl) ob_2 ob_3 hl.1 dd_Mo_init_1 ⟨Nat.le_of_ble_eq_true rfl, Nat.le_of_ble_eq_true rfl⟩ ?_
  refine cn_aload X (i := 0) dd_Mo_init_4 (lv_at hl 0 rfl) ?_
  refine cn_bipush X dd_Mo_init_5 (v := 6) rfl ?_
  refine cn_newI X dd_Mo_init_7 ar_I (N := 6) (by decide) rfl (by decide) (Nat.le_of_ble_eq_true rfl) (Nat.le_of_ble_eq_true rfl) (fun q7 => ?_)
  refine cn_putF X (T := fb_T5) (ci := 5) (ty := (.array .int)) 0 rfl rfl 2 (by decide) (fb_tb3 137 rfl rfl) rfl rfl (by decide +kernel) rfl rfl (Nat.le_of_ble_eq_true rfl) dd_Mo_init_9 (ws' := [(h0, .inr (5, [.int 0, .int 0, .ref q7, .null, .null, .null, .null, .null, .null, .int 0, .null, .null, .null, .int 0, .int 0, .int 0, .null, .null, .null, .null, .null, .int 0, .int 0, .int 0, .int 0, .int 0, .int 0, .null, .null, .null])), (q7, .inl (cI, 6, .inl (fun _ => 0)))]) rfl ?_
  refine cn_aload X (i := 0) dd_Mo_init_12 (lv_at hl 0 rfl) ?_
  refine cn_bipush X dd_Mo_init_13 (v := 6) rfl ?_
  refine cn_newI X dd_Mo_init_15 ar_I (N := 6) (by decide) rfl (by decide) (Nat.le_of_ble_eq_true rfl) (Nat.le_of_ble_eq_true rfl) (fun q15 => ?_)
  refine cn_putF X (T := fb_T5) (ci := 5) (ty := (.array .int)) 0 rfl rfl 3 (by decide) (fb_tb3 138 rfl rfl) rfl rfl (by decide +kernel) rfl rfl (Nat.le_of_ble_eq_true rfl) dd_Mo_init_17 (ws' := [(h0, .inr (5, [.int 0, .int 0, .ref q7, .ref q15, .null, .null, .null, .null, .null, .int 0, .null, .null, .null, .int 0, .int 0, .int 0, .null, .null, .null, .null, .null, .int 0, .int 0, .int 0, .int 0, .int 0, .int 0, .null, .null, .null])), (q7, .inl (cI, 6, .inl (fun _ => 0))), (q15, .inl (cI, 6, .inl (fun _ => 0)))]) rfl ?_
  refine cn_aload X (i := 0) dd_Mo_init_20 (lv_at hl 0 rfl) ?_
  refine cn_bipush X dd_Mo_init_21 (v := 36) rfl ?_
  refine cn_newI X dd_Mo_init_23 ar_I (N := 36) (by decide) rfl (by decide) (Nat.le_of_ble_eq_true rfl) (Nat.le_of_ble_eq_true rfl) (fun q23 => ?_)
  refine cn_putF X (T := fb_T5) (ci := 5) (ty := (.array .int)) 0 rfl rfl 4 (by decide) (fb_tb3 139 rfl rfl) rfl rfl (by decide +kernel) rfl rfl (Nat.le_of_ble_eq_true rfl) dd_Mo_init_25 (ws' := [(h0, .inr (5, [.int 0, .int 0, .ref q7, .ref q15, .ref q23, .null, .null, .null, .null, .int 0, .null, .null, .null, .int 0, .int 0, .int 0, .null, .null, .null, .null, .null, .int 0, .int 0, .int 0, .int 0, .int 0, .int 0, .null, .null, .null])), (q7, .inl (cI, 6, .inl (fun _ => 0))), (q15, .inl (cI, 6, .inl (fun _ => 0))), (q23, .inl (cI, 36, .inl (fun _ => 0)))]) rfl ?_
  refine cn_aload X (i := 0) dd_Mo_init_28 (lv_at hl 0 rfl) ?_
  refine cn_sipush X dd_Mo_init_29 (v := 144) rfl ?_
  refine cn_newI X dd_Mo_init_32 ar_I (N := 144) (by decide) rfl (by decide) (Nat.le_of_ble_eq_true rfl) (Nat.le_of_ble_eq_true rfl) (fun q32 => ?_)
  refine cn_putF X (T := fb_T5) (ci := 5) (ty := (.array .int)) 0 rfl rfl 5 (by decide) (fb_tb3 140 rfl rfl) rfl rfl (by decide +kernel) rfl rfl (Nat.le_of_ble_eq_true rfl) dd_Mo_init_34 (ws' := [(h0, .inr (5, [.int 0, .int 0, .ref q7, .ref q15, .ref q23, .ref q32, .null, .null, .null, .int 0, .null, .null, .null, .int 0, .int 0, .int 0, .null, .null, .null, .null, .null, .int 0, .int 0, .int 0, .int 0, .int 0, .int 0, .null, .null, .null])), (q7, .inl (cI, 6, .inl (fun _ => 0))), (q15, .inl (cI, 6, .inl (fun _ => 0))), (q23, .inl (cI, 36, .inl (fun _ => 0))), (q32, .inl (cI, 144, .inl (fun _ => 0)))]) rfl ?_
  refine cn_aload X (i := 0) dd_Mo_init_37 (lv_at hl 0 rfl) ?_
  refine cn_sipush X dd_Mo_init_38 (v := 144) rfl ?_
  refine cn_newI X dd_Mo_init_41 ar_I (N := 144) (by decide) rfl (by decide) (Nat.le_of_ble_eq_true rfl) (Nat.le_of_ble_eq_true rfl) (fun q41 => ?_)
  refine cn_putF X (T := fb_T5) (ci := 5) (ty := (.array .int)) 0 rfl rfl 6 (by decide) (fb_tb3 141 rfl rfl) rfl rfl (by decide +kernel) rfl rfl (Nat.le_of_ble_eq_true rfl) dd_Mo_init_43 (ws' := [(h0, .inr (5, [.int 0, .int 0, .ref q7, .ref q15, .ref q23, .ref q32, .ref q41, .null, .null, .int 0, .null, .null, .null, .int 0, .int 0, .int 0, .null, .null, .null, .null, .null, .int 0, .int 0, .int 0, .int 0, .int 0, .int 0, .null, .null, .null])), (q7, .inl (cI, 6, .inl (fun _ => 0))), (q15, .inl (cI, 6, .inl (fun _ => 0))), (q23, .inl (cI, 36, .inl (fun _ => 0))), (q32, .inl (cI, 144, .inl (fun _ => 0))), (q41, .inl (cI, 144, .inl (fun _ => 0)))]) rfl ?_
  refine cn_aload X (i := 0) dd_Mo_init_46 (lv_at hl 0 rfl) ?_
  refine cn_sipush X dd_Mo_init_47 (v := 144) rfl ?_
  refine cn_newI X dd_Mo_init_50 ar_I (N := 144) (by decide) rfl (by decide) (Nat.le_of_ble_eq_true rfl) (Nat.le_of_ble_eq_true rfl) (fun q50 => ?_)
  refine cn_putF X (T := fb_T5) (ci := 5) (ty := (.array .int)) 0 rfl rfl 7 (by decide) (fb_tb3 142 rfl rfl) rfl rfl (by decide +kernel) rfl rfl (Nat.le_of_ble_eq_true rfl) dd_Mo_init_52 (ws' := [(h0, .inr (5, [.int 0, .int 0, .ref q7, .ref q15, .ref q23, .ref q32, .ref q41, .ref q50, .null, .int 0, .null, .null, .null, .int 0, .int 0, .int 0, .null, .null, .null, .null, .null, .int 0, .int 0, .int 0, .int 0, .int 0, .int 0, .null, .null, .null])), (q7, .inl (cI, 6, .inl (fun _ => 0))), (q15, .inl (cI, 6, .inl (fun _ => 0))), (q23, .inl (cI, 36, .inl (fun _ => 0))), (q32, .inl (cI, 144, .inl (fun _ => 0))), (q41, .inl (cI, 144, .inl (fun _ => 0))), (q50, .inl (cI, 144, .inl (fun _ => 0)))]) rfl ?_
  refine cn_aload X (i := 0) dd_Mo_init_55 (lv_at hl 0 rfl) ?_
  refine cn_sipush X dd_Mo_init_56 (v := 144) rfl ?_
  refine cn_newI X dd_Mo_init_59 ar_I (N := 144) (by decide) rfl (by decide) (Nat.le_of_ble_eq_true rfl) (Nat.le_of_ble_eq_true rfl) (fun q59 => ?_)
  refine cn_putF X (T := fb_T5) (ci := 5) (ty := (.array .int)) 0 rfl rfl 8 (by decide) (fb_tb3 143 rfl rfl) rfl rfl (by decide +kernel) rfl rfl (Nat.le_of_ble_eq_true rfl) dd_Mo_init_61 (ws' := [(h0, .inr (5, [.int 0, .int 0, .ref q7, .ref q15, .ref q23, .ref q32, .ref q41, .ref q50, .ref q59, .int 0, .null, .null, .null, .int 0, .int 0, .int 0, .null, .null, .null, .null, .null, .int 0, .int 0, .int 0, .int 0, .int 0, .int 0, .null, .null, .null])), (q7, .inl (cI, 6, .inl (fun _ => 0))), (q15, .inl (cI, 6, .inl (fun _ => 0))), (q23, .inl (cI, 36, .inl (fun _ => 0))), (q32, .inl (cI, 144, .inl (fun _ => 0))), (q41, .inl (cI, 144, .inl (fun _ => 0))), (q50, .inl (cI, 144, .inl (fun _ => 0))), (q59, .inl (cI, 144, .inl (fun _ => 0)))]) rfl ?_
  refine cn_aload X (i := 0) dd_Mo_init_64 (lv_at hl 0 rfl) ?_
  refine cn_bipush X dd_Mo_init_65 (v := 6) rfl ?_
  refine cn_newI X dd_Mo_init_67 ar_I (N := 6) (by decide) rfl (by decide) (Nat.le_of_ble_eq_true rfl) (Nat.le_of_ble_eq_true rfl) (fun q67 => ?_)
  refine cn_putF X (T := fb_T5) (ci := 5) (ty := (.array .int)) 0 rfl rfl 10 (by decide) (fb_tb3 145 rfl rfl) rfl rfl (by decide +kernel) rfl rfl (Nat.le_of_ble_eq_true rfl) dd_Mo_init_69 (ws' := [(h0, .inr (5, [.int 0, .int 0, .ref q7, .ref q15, .ref q23, .ref q32, .ref q41, .ref q50, .ref q59, .int 0, .ref q67, .null, .null, .int 0, .int 0, .int 0, .null, .null, .null, .null, .null, .int 0, .int 0, .int 0, .int 0, .int 0, .int 0, .null, .null, .null])), (q7, .inl (cI, 6, .inl (fun _ => 0))), (q15, .inl (cI, 6, .inl (fun _ => 0))), (q23, .inl (cI, 36, .inl (fun _ => 0))), (q32, .inl (cI, 144, .inl (fun _ => 0))), (q41, .inl (cI, 144, .inl (fun _ => 0))), (q50, .inl (cI, 144, .inl (fun _ => 0))), (q59, .inl (cI, 144, .inl (fun _ => 0))), (q67, .inl (cI, 6, .inl (fun _ => 0)))]) rfl ?_
  refine cn_aload X (i := 0) dd_Mo_init_72 (lv_at hl 0 rfl) ?_
  refine cn_bipush X dd_Mo_init_73 (v := 36) rfl ?_
  refine cn_newZ X dd_Mo_init_75 ar_Z (N := 36) (by decide) rfl (by decide) (Nat.le_of_ble_eq_true rfl) (Nat.le_of_ble_eq_true rfl) (fun q75 => ?_)
  refine cn_putF X (T := fb_T5) (ci := 5) (ty := (.array .boolean)) 0 rfl rfl 11 (by decide) (fb_tb3 146 rfl rfl) rfl rfl (by decide +kernel) rfl rfl (Nat.le_of_ble_eq_true rfl) dd_Mo_init_77 (ws' := [(h0, .inr (5, [.int 0, .int 0, .ref q7, .ref q15, .ref q23, .ref q32, .ref q41, .ref q50, .ref q59, .int 0, .ref q67, .ref q75, .null, .int 0, .int 0, .int 0, .null, .null, .null, .null, .null, .int 0, .int 0, .int 0, .int 0, .int 0, .int 0, .null, .null, .null])), (q7, .inl (cI, 6, .inl (fun _ => 0))), (q15, .inl (cI, 6, .inl (fun _ => 0))), (q23, .inl (cI, 36, .inl (fun _ => 0))), (q32, .inl (cI, 144, .inl (fun _ => 0))), (q41, .inl (cI, 144, .inl (fun _ => 0))), (q50, .inl (cI, 144, .inl (fun _ => 0))), (q59, .inl (cI, 144, .inl (fun _ => 0))), (q67, .inl (cI, 6, .inl (fun _ => 0))), (q75, .inl (cB, 36, .inl (fun _ => 0)))]) rfl ?_
  refine cn_aload X (i := 0) dd_Mo_init_80 (lv_at hl 0 rfl) ?_
  refine cn_sipush X dd_Mo_init_81 (v := 1700) rfl ?_
  refine cn_newI X dd_Mo_init_84 ar_I (N := 1700) (by decide) rfl (by decide) (Nat.le_of_ble_eq_true rfl) (Nat.le_of_ble_eq_true rfl) (fun q84 => ?_)
  refine cn_putF X (T := fb_T5) (ci := 5) (ty := (.array .int)) 0 rfl rfl 12 (by decide) (fb_tb3 147 rfl rfl) rfl rfl (by decide +kernel) rfl rfl (Nat.le_of_ble_eq_true rfl) dd_Mo_init_86 (ws' := [(h0, .inr (5, [.int 0, .int 0, .ref q7, .ref q15, .ref q23, .ref q32, .ref q41, .ref q50, .ref q59, .int 0, .ref q67, .ref q75, .ref q84, .int 0, .int 0, .int 0, .null, .null, .null, .null, .null, .int 0, .int 0, .int 0, .int 0, .int 0, .int 0, .null, .null, .null])), (q7, .inl (cI, 6, .inl (fun _ => 0))), (q15, .inl (cI, 6, .inl (fun _ => 0))), (q23, .inl (cI, 36, .inl (fun _ => 0))), (q32, .inl (cI, 144, .inl (fun _ => 0))), (q41, .inl (cI, 144, .inl (fun _ => 0))), (q50, .inl (cI, 144, .inl (fun _ => 0))), (q59, .inl (cI, 144, .inl (fun _ => 0))), (q67, .inl (cI, 6, .inl (fun _ => 0))), (q75, .inl (cB, 36, .inl (fun _ => 0))), (q84, .inl (cI, 1700, .inl (fun _ => 0)))]) rfl ?_
  refine cn_aload X (i := 0) dd_Mo_init_89 (lv_at hl 0 rfl) ?_
  refine cn_sipush X dd_Mo_init_90 (v := 144) rfl ?_
  refine cn_newI X dd_Mo_init_93 ar_I (N := 144) (by decide) rfl (by decide) (Nat.le_of_ble_eq_true rfl) (Nat.le_of_ble_eq_true rfl) (fun q93 => ?_)
  refine cn_putF X (T := fb_T5) (ci := 5) (ty := (.array .int)) 0 rfl rfl 16 (by decide) (fb_tb3 151 rfl rfl) rfl rfl (by decide +kernel) rfl rfl (Nat.le_of_ble_eq_true rfl) dd_Mo_init_95 (ws' := [(h0, .inr (5, [.int 0, .int 0, .ref q7, .ref q15, .ref q23, .ref q32, .ref q41, .ref q50, .ref q59, .int 0, .ref q67, .ref q75, .ref q84, .int 0, .int 0, .int 0, .ref q93, .null, .null, .null, .null, .int 0, .int 0, .int 0, .int 0, .int 0, .int 0, .null, .null, .null])), (q7, .inl (cI, 6, .inl (fun _ => 0))), (q15, .inl (cI, 6, .inl (fun _ => 0))), (q23, .inl (cI, 36, .inl (fun _ => 0))), (q32, .inl (cI, 144, .inl (fun _ => 0))), (q41, .inl (cI, 144, .inl (fun _ => 0))), (q50, .inl (cI, 144, .inl (fun _ => 0))), (q59, .inl (cI, 144, .inl (fun _ => 0))), (q67, .inl (cI, 6, .inl (fun _ => 0))), (q75, .inl (cB, 36, .inl (fun _ => 0))), (q84, .inl (cI, 1700, .inl (fun _ => 0))), (q93, .inl (cI, 144, .inl (fun _ => 0)))]) rfl ?_
  refine cn_aload X (i := 0) dd_Mo_init_98 (lv_at hl 0 rfl) ?_
  refine cn_sipush X dd_Mo_init_99 (v := 144) rfl ?_
  refine cn_newZ X dd_Mo_init_102 ar_Z (N := 144) (by decide) rfl (by decide) (Nat.le_of_ble_eq_true rfl) (Nat.le_of_ble_eq_true rfl) (fun q102 => ?_)
  refine cn_putF X (T := fb_T5) (ci := 5) (ty := (.array .boolean)) 0 rfl rfl 17 (by decide) (fb_tb3 152 rfl rfl) rfl rfl (by decide +kernel) rfl rfl (Nat.le_of_ble_eq_true rfl) dd_Mo_init_104 (ws' := [(h0, .inr (5, [.int 0, .int 0, .ref q7, .ref q15, .ref q23, .ref q32, .ref q41, .ref q50, .ref q59, .int 0, .ref q67, .ref q75, .ref q84, .int 0, .int 0, .int 0, .ref q93, .ref q102, .null, .null, .null, .int 0, .int 0, .int 0, .int 0, .int 0, .int 0, .null, .null, .null])), (q7, .inl (cI, 6, .inl (fun _ => 0))), (q15, .inl (cI, 6, .inl (fun _ => 0))), (q23, .inl (cI, 36, .inl (fun _ => 0))), (q32, .inl (cI, 144, .inl (fun _ => 0))), (q41, .inl (cI, 144, .inl (fun _ => 0))), (q50, .inl (cI, 144, .inl (fun _ => 0))), (q59, .inl (cI, 144, .inl (fun _ => 0))), (q67, .inl (cI, 6, .inl (fun _ => 0))), (q75, .inl (cB, 36, .inl (fun _ => 0))), (q84, .inl (cI, 1700, .inl (fun _ => 0))), (q93, .inl (cI, 144, .inl (fun _ => 0))), (q102, .inl (cB, 144, .inl (fun _ => 0)))]) rfl ?_
  refine cn_aload X (i := 0) dd_Mo_init_107 (lv_at hl 0 rfl) ?_
  refine cn_sipush X dd_Mo_init_108 (v := 144) rfl ?_
  refine cn_newZ X dd_Mo_init_111 ar_Z (N := 144) (by decide) rfl (by decide) (Nat.le_of_ble_eq_true rfl) (Nat.le_of_ble_eq_true rfl) (fun q111 => ?_)
  refine cn_putF X (T := fb_T5) (ci := 5) (ty := (.array .boolean)) 0 rfl rfl 18 (by decide) (fb_tb3 153 rfl rfl) rfl rfl (by decide +kernel) rfl rfl (Nat.le_of_ble_eq_true rfl) dd_Mo_init_113 (ws' := [(h0, .inr (5, [.int 0, .int 0, .ref q7, .ref q15, .ref q23, .ref q32, .ref q41, .ref q50, .ref q59, .int 0, .ref q67, .ref q75, .ref q84, .int 0, .int 0, .int 0, .ref q93, .ref q102, .ref q111, .null, .null, .int 0, .int 0, .int 0, .int 0, .int 0, .int 0, .null, .null, .null])), (q7, .inl (cI, 6, .inl (fun _ => 0))), (q15, .inl (cI, 6, .inl (fun _ => 0))), (q23, .inl (cI, 36, .inl (fun _ => 0))), (q32, .inl (cI, 144, .inl (fun _ => 0))), (q41, .inl (cI, 144, .inl (fun _ => 0))), (q50, .inl (cI, 144, .inl (fun _ => 0))), (q59, .inl (cI, 144, .inl (fun _ => 0))), (q67, .inl (cI, 6, .inl (fun _ => 0))), (q75, .inl (cB, 36, .inl (fun _ => 0))), (q84, .inl (cI, 1700, .inl (fun _ => 0))), (q93, .inl (cI, 144, .inl (fun _ => 0))), (q102, .inl (cB, 144, .inl (fun _ => 0))), (q111, .inl (cB, 144, .inl (fun _ => 0)))]) rfl ?_
  refine cn_aload X (i := 0) dd_Mo_init_116 (lv_at hl 0 rfl) ?_
  refine cn_sipush X dd_Mo_init_117 (v := 144) rfl ?_
  refine cn_newI X dd_Mo_init_120 ar_I (N := 144) (by decide) rfl (by decide) (Nat.le_of_ble_eq_true rfl) (Nat.le_of_ble_eq_true rfl) (fun q120 => ?_)
  refine cn_putF X (T := fb_T5) (ci := 5) (ty := (.array .int)) 0 rfl rfl 19 (by decide) (fb_tb3 154 rfl rfl) rfl rfl (by decide +kernel) rfl rfl (Nat.le_of_ble_eq_true rfl) dd_Mo_init_122 (ws' := [(h0, .inr (5, [.int 0, .int 0, .ref q7, .ref q15, .ref q23, .ref q32, .ref q41, .ref q50, .ref q59, .int 0, .ref q67, .ref q75, .ref q84, .int 0, .int 0, .int 0, .ref q93, .ref q102, .ref q111, .ref q120, .null, .int 0, .int 0, .int 0, .int 0, .int 0, .int 0, .null, .null, .null])), (q7, .inl (cI, 6, .inl (fun _ => 0))), (q15, .inl (cI, 6, .inl (fun _ => 0))), (q23, .inl (cI, 36, .inl (fun _ => 0))), (q32, .inl (cI, 144, .inl (fun _ => 0))), (q41, .inl (cI, 144, .inl (fun _ => 0))), (q50, .inl (cI, 144, .inl (fun _ => 0))), (q59, .inl (cI, 144, .inl (fun _ => 0))), (q67, .inl (cI, 6, .inl (fun _ => 0))), (q75, .inl (cB, 36, .inl (fun _ => 0))), (q84, .inl (cI, 1700, .inl (fun _ => 0))), (q93, .inl (cI, 144, .inl (fun _ => 0))), (q102, .inl (cB, 144, .inl (fun _ => 0))), (q111, .inl (cB, 144, .inl (fun _ => 0))), (q120, .inl (cI, 144, .inl (fun _ => 0)))]) rfl ?_
  refine cn_aload X (i := 0) dd_Mo_init_125 (lv_at hl 0 rfl) ?_
  refine cn_sipush X dd_Mo_init_126 (v := 144) rfl ?_
  refine cn_newI X dd_Mo_init_129 ar_I (N := 144) (by decide) rfl (by decide) (Nat.le_of_ble_eq_true rfl) (Nat.le_of_ble_eq_true rfl) (fun q129 => ?_)
  refine cn_putF X (T := fb_T5) (ci := 5) (ty := (.array .int)) 0 rfl rfl 20 (by decide) (fb_tb3 155 rfl rfl) rfl rfl (by decide +kernel) rfl rfl (Nat.le_of_ble_eq_true rfl) dd_Mo_init_131 (ws' := [(h0, .inr (5, [.int 0, .int 0, .ref q7, .ref q15, .ref q23, .ref q32, .ref q41, .ref q50, .ref q59, .int 0, .ref q67, .ref q75, .ref q84, .int 0, .int 0, .int 0, .ref q93, .ref q102, .ref q111, .ref q120, .ref q129, .int 0, .int 0, .int 0, .int 0, .int 0, .int 0, .null, .null, .null])), (q7, .inl (cI, 6, .inl (fun _ => 0))), (q15, .inl (cI, 6, .inl (fun _ => 0))), (q23, .inl (cI, 36, .inl (fun _ => 0))), (q32, .inl (cI, 144, .inl (fun _ => 0))), (q41, .inl (cI, 144, .inl (fun _ => 0))), (q50, .inl (cI, 144, .inl (fun _ => 0))), (q59, .inl (cI, 144, .inl (fun _ => 0))), (q67, .inl (cI, 6, .inl (fun _ => 0))), (q75, .inl (cB, 36, .inl (fun _ => 0))), (q84, .inl (cI, 1700, .inl (fun _ => 0))), (q93, .inl (cI, 144, .inl (fun _ => 0))), (q102, .inl (cB, 144, .inl (fun _ => 0))), (q111, .inl (cB, 144, .inl (fun _ => 0))), (q120, .inl (cI, 144, .inl (fun _ => 0))), (q129, .inl (cI, 144, .inl (fun _ => 0)))]) rfl ?_
  refine cn_aload X (i := 0) dd_Mo_init_134 (lv_at hl 0 rfl) ?_
  refine cn_bipush X dd_Mo_init_135 (v := 8) rfl ?_
  refine cn_newI X dd_Mo_init_137 ar_I (N := 8) (by decide) rfl (by decide) (Nat.le_of_ble_eq_true rfl) (Nat.le_of_ble_eq_true rfl) (fun q137 => ?_)
  refine cn_putF X (T := fb_T5) (ci := 5) (ty := (.array .int)) 0 rfl rfl 27 (by decide) (fb_tb3 162 rfl rfl) rfl rfl (by decide +kernel) rfl rfl (Nat.le_of_ble_eq_true rfl) dd_Mo_init_139 (ws' := [(h0, .inr (5, [.int 0, .int 0, .ref q7, .ref q15, .ref q23, .ref q32, .ref q41, .ref q50, .ref q59, .int 0, .ref q67, .ref q75, .ref q84, .int 0, .int 0, .int 0, .ref q93, .ref q102, .ref q111, .ref q120, .ref q129, .int 0, .int 0, .int 0, .int 0, .int 0, .int 0, .ref q137, .null, .null])), (q7, .inl (cI, 6, .inl (fun _ => 0))), (q15, .inl (cI, 6, .inl (fun _ => 0))), (q23, .inl (cI, 36, .inl (fun _ => 0))), (q32, .inl (cI, 144, .inl (fun _ => 0))), (q41, .inl (cI, 144, .inl (fun _ => 0))), (q50, .inl (cI, 144, .inl (fun _ => 0))), (q59, .inl (cI, 144, .inl (fun _ => 0))), (q67, .inl (cI, 6, .inl (fun _ => 0))), (q75, .inl (cB, 36, .inl (fun _ => 0))), (q84, .inl (cI, 1700, .inl (fun _ => 0))), (q93, .inl (cI, 144, .inl (fun _ => 0))), (q102, .inl (cB, 144, .inl (fun _ => 0))), (q111, .inl (cB, 144, .inl (fun _ => 0))), (q120, .inl (cI, 144, .inl (fun _ => 0))), (q129, .inl (cI, 144, .inl (fun _ => 0))), (q137, .inl (cI, 8, .inl (fun _ => 0)))]) rfl ?_
  refine cn_aload X (i := 0) dd_Mo_init_142 (lv_at hl 0 rfl) ?_
  refine cn_sipush X dd_Mo_init_143 (v := 128) rfl ?_
  refine cn_newI X dd_Mo_init_146 ar_I (N := 128) (by decide) rfl (by decide) (Nat.le_of_ble_eq_true rfl) (Nat.le_of_ble_eq_true rfl) (fun q146 => ?_)
  refine cn_putF X (T := fb_T5) (ci := 5) (ty := (.array .int)) 0 rfl rfl 28 (by decide) (fb_tb3 163 rfl rfl) rfl rfl (by decide +kernel) rfl rfl (Nat.le_of_ble_eq_true rfl) dd_Mo_init_148 (ws' := [(h0, .inr (5, [.int 0, .int 0, .ref q7, .ref q15, .ref q23, .ref q32, .ref q41, .ref q50, .ref q59, .int 0, .ref q67, .ref q75, .ref q84, .int 0, .int 0, .int 0, .ref q93, .ref q102, .ref q111, .ref q120, .ref q129, .int 0, .int 0, .int 0, .int 0, .int 0, .int 0, .ref q137, .ref q146, .null])), (q7, .inl (cI, 6, .inl (fun _ => 0))), (q15, .inl (cI, 6, .inl (fun _ => 0))), (q23, .inl (cI, 36, .inl (fun _ => 0))), (q32, .inl (cI, 144, .inl (fun _ => 0))), (q41, .inl (cI, 144, .inl (fun _ => 0))), (q50, .inl (cI, 144, .inl (fun _ => 0))), (q59, .inl (cI, 144, .inl (fun _ => 0))), (q67, .inl (cI, 6, .inl (fun _ => 0))), (q75, .inl (cB, 36, .inl (fun _ => 0))), (q84, .inl (cI, 1700, .inl (fun _ => 0))), (q93, .inl (cI, 144, .inl (fun _ => 0))), (q102, .inl (cB, 144, .inl (fun _ => 0))), (q111, .inl (cB, 144, .inl (fun _ => 0))), (q120, .inl (cI, 144, .inl (fun _ => 0))), (q129, .inl (cI, 144, .inl (fun _ => 0))), (q137, .inl (cI, 8, .inl (fun _ => 0))), (q146, .inl (cI, 128, .inl (fun _ => 0)))]) rfl ?_
  refine cn_aload X (i := 0) dd_Mo_init_151 (lv_at hl 0 rfl) ?_
  refine cn_bipush X dd_Mo_init_152 (v := 100) rfl ?_
  refine cn_newI X dd_Mo_init_154 ar_I (N := 100) (by decide) rfl (by decide) (Nat.le_of_ble_eq_true rfl) (Nat.le_of_ble_eq_true rfl) (fun q154 => ?_)
  refine cn_putF X (T := fb_T5) (ci := 5) (ty := (.array .int)) 0 rfl rfl 29 (by decide) (fb_tb3 164 rfl rfl) rfl rfl (by decide +kernel) rfl rfl (Nat.le_of_ble_eq_true rfl) dd_Mo_init_156 (ws' := [(h0, .inr (5, [.int 0, .int 0, .ref q7, .ref q15, .ref q23, .ref q32, .ref q41, .ref q50, .ref q59, .int 0, .ref q67, .ref q75, .ref q84, .int 0, .int 0, .int 0, .ref q93, .ref q102, .ref q111, .ref q120, .ref q129, .int 0, .int 0, .int 0, .int 0, .int 0, .int 0, .ref q137, .ref q146, .ref q154])), (q7, .inl (cI, 6, .inl (fun _ => 0))), (q15, .inl (cI, 6, .inl (fun _ => 0))), (q23, .inl (cI, 36, .inl (fun _ => 0))), (q32, .inl (cI, 144, .inl (fun _ => 0))), (q41, .inl (cI, 144, .inl (fun _ => 0))), (q50, .inl (cI, 144, .inl (fun _ => 0))), (q59, .inl (cI, 144, .inl (fun _ => 0))), (q67, .inl (cI, 6, .inl (fun _ => 0))), (q75, .inl (cB, 36, .inl (fun _ => 0))), (q84, .inl (cI, 1700, .inl (fun _ => 0))), (q93, .inl (cI, 144, .inl (fun _ => 0))), (q102, .inl (cB, 144, .inl (fun _ => 0))), (q111, .inl (cB, 144, .inl (fun _ => 0))), (q120, .inl (cI, 144, .inl (fun _ => 0))), (q129, .inl (cI, 144, .inl (fun _ => 0))), (q137, .inl (cI, 8, .inl (fun _ => 0))), (q146, .inl (cI, 128, .inl (fun _ => 0))), (q154, .inl (cI, 100, .inl (fun _ => 0)))]) rfl ?_
  exact cn_vret X dd_Mo_init_159 ((fun k => match k with | 40 => q7 | 41 => q15 | 42 => q23 | 43 => q32 | 44 => q41 | 45 => q50 | 46 => q59 | 47 => q67 | 48 => q75 | 49 => q84 | 50 => q93 | 51 => q102 | 52 => q111 | 53 => q120 | 54 => q129 | 55 => q137 | 56 => q146 | 57 => q154 | _ => 0), fun _ => 0) rfl
