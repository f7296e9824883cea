/-! the law from its entry: what is made, what holds then; printed by wip/whole/gen/start.py -/
def st_ad (h g b t : Nat) (u : (Nat × (Nat → Nat) × (Nat → Nat)) × (Nat × (Nat → Nat) × (Nat → Nat)) × (Nat × (Nat → Nat) × (Nat → Nat)) × (Nat × (Nat → Nat) × (Nat → Nat))) (v : (Nat → Nat) × (Nat → Nat)) : Nat → Nat := fun k => match k with
  | 0 => h
  | 1 => u.1.1
  | 2 => u.2.1.1
  | 3 => u.2.2.1.1
  | 4 => u.2.2.2.1
  | 5 => g
  | 6 => u.1.2.1 6
  | 7 => u.1.2.2 0
  | 8 => u.1.2.2 1
  | 9 => u.1.2.2 2
  | 10 => u.1.2.2 3
  | 11 => u.1.2.2 4
  | 12 => u.1.2.2 5
  | 13 => u.1.2.1 13
  | 14 => u.1.2.1 14
  | 15 => u.1.2.1 15
  | 16 => u.1.2.1 16
  | 17 => u.1.2.1 17
  | 18 => u.1.2.1 18
  | 19 => u.1.2.1 19
  | 20 => u.1.2.1 20
  | 21 => u.2.1.2.1 21
  | 22 => u.2.1.2.1 22
  | 23 => u.2.1.2.1 23
  | 24 => u.2.1.2.1 24
  | 25 => u.2.1.2.2 0
  | 26 => u.2.1.2.2 1
  | 27 => u.2.1.2.2 2
  | 28 => u.2.1.2.2 3
  | 29 => u.2.1.2.2 4
  | 30 => u.2.1.2.2 5
  | 31 => u.2.2.1.2.1 31
  | 32 => u.2.2.1.2.1 32
  | 33 => u.2.2.1.2.1 33
  | 34 => u.2.2.1.2.1 34
  | 35 => u.2.2.1.2.1 35
  | 36 => u.2.2.1.2.1 36
  | 37 => u.2.2.2.2.1 37
  | 38 => u.2.2.2.2.1 38
  | 39 => u.2.2.2.2.1 39
  | 40 => v.1 40
  | 41 => v.1 41
  | 42 => v.1 42
  | 43 => v.1 43
  | 44 => v.1 44
  | 45 => v.1 45
  | 46 => v.1 46
  | 47 => v.1 47
  | 48 => v.1 48
  | 49 => v.1 49
  | 50 => v.1 50
  | 51 => v.1 51
  | 52 => v.1 52
  | 53 => v.1 53
  | 54 => v.1 54
  | 55 => v.1 55
  | 56 => v.1 56
  | 57 => v.1 57
  | 98 => b
  | _ => t
def st_pm : Nat → Nat := fun k => match k with
  | 0 => 0
  | 1 => 1
  | 2 => 17
  | 3 => 28
  | 4 => 35
  | 5 => 39
  | 6 => 2
  | 7 => 3
  | 8 => 4
  | 9 => 5
  | 10 => 6
  | 11 => 7
  | 12 => 8
  | 13 => 9
  | 14 => 10
  | 15 => 11
  | 16 => 12
  | 17 => 13
  | 18 => 14
  | 19 => 15
  | 20 => 16
  | 21 => 18
  | 22 => 19
  | 23 => 20
  | 24 => 21
  | 25 => 22
  | 26 => 23
  | 27 => 24
  | 28 => 25
  | 29 => 26
  | 30 => 27
  | 31 => 29
  | 32 => 30
  | 33 => 31
  | 34 => 32
  | 35 => 33
  | 36 => 34
  | 37 => 36
  | 38 => 37
  | 39 => 38
  | 40 => 40
  | 41 => 41
  | 42 => 42
  | 43 => 43
  | 44 => 44
  | 45 => 45
  | 46 => 46
  | 47 => 47
  | 48 => 48
  | 49 => 49
  | 50 => 50
  | 51 => 51
  | 52 => 52
  | 53 => 53
  | 54 => 54
  | 55 => 55
  | 56 => 56
  | _ => 57
def st_0 : fb_S := (fun k => if k = 133 then -1 else 0, fun _ _ => 0)
theorem st_arr (c : ClassId) {f g : Nat → Value} (h : ∀ j, j < 6 → f j = g j) : arrV c 6 f = arrV c 6 g := by
  unfold arrV
  congr 1
  apply Array.ext
  · simp
  · intro i h1 h2
    simp only [Array.getElem_ofFn]
    exact h i (by simpa using h1)
section SA
variable {l : Launch} {D : va_G} {sz : Nat} {cI cB cII : ClassId} {h g b t : Nat} {u : (Nat × (Nat → Nat) × (Nat → Nat)) × (Nat × (Nat → Nat) × (Nat → Nat)) × (Nat × (Nat → Nat) × (Nat → Nat)) × (Nat × (Nat → Nat) × (Nat → Nat))} {v : (Nat → Nat) × (Nat → Nat)} {H : Heap} {A : Nat → Prop}

set_option maxRecDepth 100000 in
theorem st_p0 (hP : va_P D fb_cl (wFb cI cB cII h u ++ wMo cI cB cII g v) H) : va_at D fb_cl (st_ad h g b t u v 0, fb_en (l, D, st_ad h g b t u v, sz, cI, cB, cII) st_0 0 (0, 0, [some 1, some 2, some 3, some 4, none])) H := hP 0 _ rfl
set_option maxRecDepth 100000 in
theorem st_p1 (hP : va_P D fb_cl (wFb cI cB cII h u ++ wMo cI cB cII g v) H) : va_at D fb_cl (st_ad h g b t u v 1, fb_en (l, D, st_ad h g b t u v, sz, cI, cB, cII) st_0 1 (0, 1, [some 6, some 13, some 14, some 15, some 16, some 17, some 18, some 19, some 20, none, none])) H := hP 1 _ rfl
set_option maxRecDepth 100000 in
theorem st_p2 (hP : va_P D fb_cl (wFb cI cB cII h u ++ wMo cI cB cII g v) H) : va_at D fb_cl (st_ad h g b t u v 2, fb_en (l, D, st_ad h g b t u v, sz, cI, cB, cII) st_0 2 (0, 2, [some 1, some 21, some 22, some 23, some 24])) H := hP 17 _ rfl
set_option maxRecDepth 100000 in
theorem st_p3 (hP : va_P D fb_cl (wFb cI cB cII h u ++ wMo cI cB cII g v) H) : va_at D fb_cl (st_ad h g b t u v 3, fb_en (l, D, st_ad h g b t u v, sz, cI, cB, cII) st_0 3 (0, 3, [some 1, some 2, some 31, some 32, some 33, some 34, some 35, some 36, none, none, none, none])) H := hP 28 _ rfl
set_option maxRecDepth 100000 in
theorem st_p4 (hP : va_P D fb_cl (wFb cI cB cII h u ++ wMo cI cB cII g v) H) : va_at D fb_cl (st_ad h g b t u v 4, fb_en (l, D, st_ad h g b t u v, sz, cI, cB, cII) st_0 4 (0, 4, [some 3, some 37, some 38, some 39, none, none, none, none, none, none, none, none, none])) H := hP 35 _ rfl
set_option maxRecDepth 100000 in
set_option maxHeartbeats 4000000 in
theorem st_e5 : fb_en (l, D, st_ad h g b t u v, sz, cI, cB, cII) st_0 5 (0, 5, [none, none, some 40, some 41, some 42, some 43, some 44, some 45, some 46, none, some 47, some 48, some 49, none, none, none, some 50, some 51, some 52, some 53, some 54, none, none, none, none, none, none, some 55, some 56, some 57]) = .inr (5, [.int 0, .int 0, .ref (v.1 40), .ref (v.1 41), .ref (v.1 42), .ref (v.1 43), .ref (v.1 44), .ref (v.1 45), .ref (v.1 46), .int 0, .ref (v.1 47), .ref (v.1 48), .ref (v.1 49), .int 0, .int 0, .int 0, .ref (v.1 50), .ref (v.1 51), .ref (v.1 52), .ref (v.1 53), .ref (v.1 54), .int 0, .int 0, .int 0, .int 0, .int 0, .int 0, .ref (v.1 55), .ref (v.1 56), .ref (v.1 57)]) := by
  show (Sum.inr (5, List.mapIdx (fb_fv (st_ad h g b t u v) st_0 5) [none, none, some 40, some 41, some 42, some 43, some 44, some 45, some 46, none, some 47, some 48, some 49, none, none, none, some 50, some 51, some 52, some 53, some 54, none, none, none, none, none, none, some 55, some 56, some 57]) : va_E) = _
  simp only [List.mapIdx_cons, List.mapIdx_nil]
  rfl
set_option maxRecDepth 100000 in
theorem st_p5 (hP : va_P D fb_cl (wFb cI cB cII h u ++ wMo cI cB cII g v) H) : va_at D fb_cl (st_ad h g b t u v 5, fb_en (l, D, st_ad h g b t u v, sz, cI, cB, cII) st_0 5 (0, 5, [none, none, some 40, some 41, some 42, some 43, some 44, some 45, some 46, none, some 47, some 48, some 49, none, none, none, some 50, some 51, some 52, some 53, some 54, none, none, none, none, none, none, some 55, some 56, some 57])) H := by
  rw [st_e5]
  exact hP 39 _ rfl
set_option maxRecDepth 100000 in
theorem st_p6 (hP : va_P D fb_cl (wFb cI cB cII h u ++ wMo cI cB cII g v) H) : va_at D fb_cl (st_ad h g b t u v 6, fb_en (l, D, st_ad h g b t u v, sz, cI, cB, cII) st_0 6 (3, 6, [some 7])) H := by
  have h1 : H[u.1.2.1 6]? = some (vp_cell cII (6, .inr (.inr (.inr (.inr (fun i => if i < 6 then some (u.1.2.2 i) else none)))))) := hP 2 _ rfl
  show H[u.1.2.1 6]? = some (vp_cell cII (6, .inr (.inr (.inr (.inr (fun i => some (st_ad h g b t u v (7 + i))))))))
  rw [h1, vp_cell_q, vp_cell_q]
  refine congrArg some (st_arr cII (fun j hj => ?_))
  match j, hj with
  | 0, _ => rfl
  | 1, _ => rfl
  | 2, _ => rfl
  | 3, _ => rfl
  | 4, _ => rfl
  | 5, _ => rfl
  | j + 6, h => exact absurd h (by omega)
set_option maxRecDepth 100000 in
theorem st_p7 (hP : va_P D fb_cl (wFb cI cB cII h u ++ wMo cI cB cII g v) H) : va_at D fb_cl (st_ad h g b t u v 7, fb_en (l, D, st_ad h g b t u v, sz, cI, cB, cII) st_0 7 (1, 6, [])) H := hP 3 _ rfl
set_option maxRecDepth 100000 in
theorem st_p8 (hP : va_P D fb_cl (wFb cI cB cII h u ++ wMo cI cB cII g v) H) : va_at D fb_cl (st_ad h g b t u v 8, fb_en (l, D, st_ad h g b t u v, sz, cI, cB, cII) st_0 8 (1, 6, [])) H := hP 4 _ rfl
set_option maxRecDepth 100000 in
theorem st_p9 (hP : va_P D fb_cl (wFb cI cB cII h u ++ wMo cI cB cII g v) H) : va_at D fb_cl (st_ad h g b t u v 9, fb_en (l, D, st_ad h g b t u v, sz, cI, cB, cII) st_0 9 (1, 6, [])) H := hP 5 _ rfl
set_option maxRecDepth 100000 in
theorem st_p10 (hP : va_P D fb_cl (wFb cI cB cII h u ++ wMo cI cB cII g v) H) : va_at D fb_cl (st_ad h g b t u v 10, fb_en (l, D, st_ad h g b t u v, sz, cI, cB, cII) st_0 10 (1, 6, [])) H := hP 6 _ rfl
set_option maxRecDepth 100000 in
theorem st_p11 (hP : va_P D fb_cl (wFb cI cB cII h u ++ wMo cI cB cII g v) H) : va_at D fb_cl (st_ad h g b t u v 11, fb_en (l, D, st_ad h g b t u v, sz, cI, cB, cII) st_0 11 (1, 6, [])) H := hP 7 _ rfl
set_option maxRecDepth 100000 in
theorem st_p12 (hP : va_P D fb_cl (wFb cI cB cII h u ++ wMo cI cB cII g v) H) : va_at D fb_cl (st_ad h g b t u v 12, fb_en (l, D, st_ad h g b t u v, sz, cI, cB, cII) st_0 12 (1, 6, [])) H := hP 8 _ rfl
set_option maxRecDepth 100000 in
theorem st_p13 (hP : va_P D fb_cl (wFb cI cB cII h u ++ wMo cI cB cII g v) H) : va_at D fb_cl (st_ad h g b t u v 13, fb_en (l, D, st_ad h g b t u v, sz, cI, cB, cII) st_0 13 (1, 6, [])) H := hP 9 _ rfl
set_option maxRecDepth 100000 in
theorem st_p14 (hP : va_P D fb_cl (wFb cI cB cII h u ++ wMo cI cB cII g v) H) : va_at D fb_cl (st_ad h g b t u v 14, fb_en (l, D, st_ad h g b t u v, sz, cI, cB, cII) st_0 14 (1, 6, [])) H := hP 10 _ rfl
set_option maxRecDepth 100000 in
theorem st_p15 (hP : va_P D fb_cl (wFb cI cB cII h u ++ wMo cI cB cII g v) H) : va_at D fb_cl (st_ad h g b t u v 15, fb_en (l, D, st_ad h g b t u v, sz, cI, cB, cII) st_0 15 (1, 6, [])) H := hP 11 _ rfl
set_option maxRecDepth 100000 in
theorem st_p16 (hP : va_P D fb_cl (wFb cI cB cII h u ++ wMo cI cB cII g v) H) : va_at D fb_cl (st_ad h g b t u v 16, fb_en (l, D, st_ad h g b t u v, sz, cI, cB, cII) st_0 16 (1, 60, [])) H := hP 12 _ rfl
set_option maxRecDepth 100000 in
theorem st_p17 (hP : va_P D fb_cl (wFb cI cB cII h u ++ wMo cI cB cII g v) H) : va_at D fb_cl (st_ad h g b t u v 17, fb_en (l, D, st_ad h g b t u v, sz, cI, cB, cII) st_0 17 (1, 60, [])) H := hP 13 _ rfl
set_option maxRecDepth 100000 in
theorem st_p18 (hP : va_P D fb_cl (wFb cI cB cII h u ++ wMo cI cB cII g v) H) : va_at D fb_cl (st_ad h g b t u v 18, fb_en (l, D, st_ad h g b t u v, sz, cI, cB, cII) st_0 18 (1, 60, [])) H := hP 14 _ rfl
set_option maxRecDepth 100000 in
theorem st_p19 (hP : va_P D fb_cl (wFb cI cB cII h u ++ wMo cI cB cII g v) H) : va_at D fb_cl (st_ad h g b t u v 19, fb_en (l, D, st_ad h g b t u v, sz, cI, cB, cII) st_0 19 (1, 60, [])) H := hP 15 _ rfl
set_option maxRecDepth 100000 in
theorem st_p20 (hP : va_P D fb_cl (wFb cI cB cII h u ++ wMo cI cB cII g v) H) : va_at D fb_cl (st_ad h g b t u v 20, fb_en (l, D, st_ad h g b t u v, sz, cI, cB, cII) st_0 20 (1, 60, [])) H := hP 16 _ rfl
set_option maxRecDepth 100000 in
theorem st_p21 (hP : va_P D fb_cl (wFb cI cB cII h u ++ wMo cI cB cII g v) H) : va_at D fb_cl (st_ad h g b t u v 21, fb_en (l, D, st_ad h g b t u v, sz, cI, cB, cII) st_0 21 (2, 36, [])) H := hP 18 _ rfl
set_option maxRecDepth 100000 in
theorem st_p22 (hP : va_P D fb_cl (wFb cI cB cII h u ++ wMo cI cB cII g v) H) : va_at D fb_cl (st_ad h g b t u v 22, fb_en (l, D, st_ad h g b t u v, sz, cI, cB, cII) st_0 22 (2, 36, [])) H := hP 19 _ rfl
set_option maxRecDepth 100000 in
theorem st_p23 (hP : va_P D fb_cl (wFb cI cB cII h u ++ wMo cI cB cII g v) H) : va_at D fb_cl (st_ad h g b t u v 23, fb_en (l, D, st_ad h g b t u v, sz, cI, cB, cII) st_0 23 (1, 6, [])) H := hP 20 _ rfl
set_option maxRecDepth 100000 in
theorem st_p24 (hP : va_P D fb_cl (wFb cI cB cII h u ++ wMo cI cB cII g v) H) : va_at D fb_cl (st_ad h g b t u v 24, fb_en (l, D, st_ad h g b t u v, sz, cI, cB, cII) st_0 24 (3, 6, [some 25])) H := by
  have h1 : H[u.2.1.2.1 24]? = some (vp_cell cII (6, .inr (.inr (.inr (.inr (fun i => if i < 6 then some (u.2.1.2.2 i) else none)))))) := hP 21 _ rfl
  show H[u.2.1.2.1 24]? = some (vp_cell cII (6, .inr (.inr (.inr (.inr (fun i => some (st_ad h g b t u v (25 + i))))))))
  rw [h1, vp_cell_q, vp_cell_q]
  refine congrArg some (st_arr cII (fun j hj => ?_))
  match j, hj with
  | 0, _ => rfl
  | 1, _ => rfl
  | 2, _ => rfl
  | 3, _ => rfl
  | 4, _ => rfl
  | 5, _ => rfl
  | j + 6, h => exact absurd h (by omega)
set_option maxRecDepth 100000 in
theorem st_p25 (hP : va_P D fb_cl (wFb cI cB cII h u ++ wMo cI cB cII g v) H) : va_at D fb_cl (st_ad h g b t u v 25, fb_en (l, D, st_ad h g b t u v, sz, cI, cB, cII) st_0 25 (1, 6, [])) H := hP 22 _ rfl
set_option maxRecDepth 100000 in
theorem st_p26 (hP : va_P D fb_cl (wFb cI cB cII h u ++ wMo cI cB cII g v) H) : va_at D fb_cl (st_ad h g b t u v 26, fb_en (l, D, st_ad h g b t u v, sz, cI, cB, cII) st_0 26 (1, 6, [])) H := hP 23 _ rfl
set_option maxRecDepth 100000 in
theorem st_p27 (hP : va_P D fb_cl (wFb cI cB cII h u ++ wMo cI cB cII g v) H) : va_at D fb_cl (st_ad h g b t u v 27, fb_en (l, D, st_ad h g b t u v, sz, cI, cB, cII) st_0 27 (1, 6, [])) H := hP 24 _ rfl
set_option maxRecDepth 100000 in
theorem st_p28 (hP : va_P D fb_cl (wFb cI cB cII h u ++ wMo cI cB cII g v) H) : va_at D fb_cl (st_ad h g b t u v 28, fb_en (l, D, st_ad h g b t u v, sz, cI, cB, cII) st_0 28 (1, 6, [])) H := hP 25 _ rfl
set_option maxRecDepth 100000 in
theorem st_p29 (hP : va_P D fb_cl (wFb cI cB cII h u ++ wMo cI cB cII g v) H) : va_at D fb_cl (st_ad h g b t u v 29, fb_en (l, D, st_ad h g b t u v, sz, cI, cB, cII) st_0 29 (1, 6, [])) H := hP 26 _ rfl
set_option maxRecDepth 100000 in
theorem st_p30 (hP : va_P D fb_cl (wFb cI cB cII h u ++ wMo cI cB cII g v) H) : va_at D fb_cl (st_ad h g b t u v 30, fb_en (l, D, st_ad h g b t u v, sz, cI, cB, cII) st_0 30 (1, 6, [])) H := hP 27 _ rfl
set_option maxRecDepth 100000 in
theorem st_p31 (hP : va_P D fb_cl (wFb cI cB cII h u ++ wMo cI cB cII g v) H) : va_at D fb_cl (st_ad h g b t u v 31, fb_en (l, D, st_ad h g b t u v, sz, cI, cB, cII) st_0 31 (1, 500, [])) H := hP 29 _ rfl
set_option maxRecDepth 100000 in
theorem st_p32 (hP : va_P D fb_cl (wFb cI cB cII h u ++ wMo cI cB cII g v) H) : va_at D fb_cl (st_ad h g b t u v 32, fb_en (l, D, st_ad h g b t u v, sz, cI, cB, cII) st_0 32 (1, 500, [])) H := hP 30 _ rfl
set_option maxRecDepth 100000 in
theorem st_p33 (hP : va_P D fb_cl (wFb cI cB cII h u ++ wMo cI cB cII g v) H) : va_at D fb_cl (st_ad h g b t u v 33, fb_en (l, D, st_ad h g b t u v, sz, cI, cB, cII) st_0 33 (1, 60, [])) H := hP 31 _ rfl
set_option maxRecDepth 100000 in
theorem st_p34 (hP : va_P D fb_cl (wFb cI cB cII h u ++ wMo cI cB cII g v) H) : va_at D fb_cl (st_ad h g b t u v 34, fb_en (l, D, st_ad h g b t u v, sz, cI, cB, cII) st_0 34 (1, 60, [])) H := hP 32 _ rfl
set_option maxRecDepth 100000 in
theorem st_p35 (hP : va_P D fb_cl (wFb cI cB cII h u ++ wMo cI cB cII g v) H) : va_at D fb_cl (st_ad h g b t u v 35, fb_en (l, D, st_ad h g b t u v, sz, cI, cB, cII) st_0 35 (2, 60, [])) H := hP 33 _ rfl
set_option maxRecDepth 100000 in
theorem st_p36 (hP : va_P D fb_cl (wFb cI cB cII h u ++ wMo cI cB cII g v) H) : va_at D fb_cl (st_ad h g b t u v 36, fb_en (l, D, st_ad h g b t u v, sz, cI, cB, cII) st_0 36 (2, 60, [])) H := hP 34 _ rfl
set_option maxRecDepth 100000 in
theorem st_p37 (hP : va_P D fb_cl (wFb cI cB cII h u ++ wMo cI cB cII g v) H) : va_at D fb_cl (st_ad h g b t u v 37, fb_en (l, D, st_ad h g b t u v, sz, cI, cB, cII) st_0 37 (1, 128, [])) H := hP 36 _ rfl
set_option maxRecDepth 100000 in
theorem st_p38 (hP : va_P D fb_cl (wFb cI cB cII h u ++ wMo cI cB cII g v) H) : va_at D fb_cl (st_ad h g b t u v 38, fb_en (l, D, st_ad h g b t u v, sz, cI, cB, cII) st_0 38 (1, 100, [])) H := hP 37 _ rfl
set_option maxRecDepth 100000 in
theorem st_p39 (hP : va_P D fb_cl (wFb cI cB cII h u ++ wMo cI cB cII g v) H) : va_at D fb_cl (st_ad h g b t u v 39, fb_en (l, D, st_ad h g b t u v, sz, cI, cB, cII) st_0 39 (1, 6, [])) H := hP 38 _ rfl
set_option maxRecDepth 100000 in
theorem st_p40 (hP : va_P D fb_cl (wFb cI cB cII h u ++ wMo cI cB cII g v) H) : va_at D fb_cl (st_ad h g b t u v 40, fb_en (l, D, st_ad h g b t u v, sz, cI, cB, cII) st_0 40 (1, 6, [])) H := hP 40 _ rfl
set_option maxRecDepth 100000 in
theorem st_p41 (hP : va_P D fb_cl (wFb cI cB cII h u ++ wMo cI cB cII g v) H) : va_at D fb_cl (st_ad h g b t u v 41, fb_en (l, D, st_ad h g b t u v, sz, cI, cB, cII) st_0 41 (1, 6, [])) H := hP 41 _ rfl
set_option maxRecDepth 100000 in
theorem st_p42 (hP : va_P D fb_cl (wFb cI cB cII h u ++ wMo cI cB cII g v) H) : va_at D fb_cl (st_ad h g b t u v 42, fb_en (l, D, st_ad h g b t u v, sz, cI, cB, cII) st_0 42 (1, 36, [])) H := hP 42 _ rfl
set_option maxRecDepth 100000 in
theorem st_p43 (hP : va_P D fb_cl (wFb cI cB cII h u ++ wMo cI cB cII g v) H) : va_at D fb_cl (st_ad h g b t u v 43, fb_en (l, D, st_ad h g b t u v, sz, cI, cB, cII) st_0 43 (1, 144, [])) H := hP 43 _ rfl
set_option maxRecDepth 100000 in
theorem st_p44 (hP : va_P D fb_cl (wFb cI cB cII h u ++ wMo cI cB cII g v) H) : va_at D fb_cl (st_ad h g b t u v 44, fb_en (l, D, st_ad h g b t u v, sz, cI, cB, cII) st_0 44 (1, 144, [])) H := hP 44 _ rfl
set_option maxRecDepth 100000 in
theorem st_p45 (hP : va_P D fb_cl (wFb cI cB cII h u ++ wMo cI cB cII g v) H) : va_at D fb_cl (st_ad h g b t u v 45, fb_en (l, D, st_ad h g b t u v, sz, cI, cB, cII) st_0 45 (1, 144, [])) H := hP 45 _ rfl
set_option maxRecDepth 100000 in
theorem st_p46 (hP : va_P D fb_cl (wFb cI cB cII h u ++ wMo cI cB cII g v) H) : va_at D fb_cl (st_ad h g b t u v 46, fb_en (l, D, st_ad h g b t u v, sz, cI, cB, cII) st_0 46 (1, 144, [])) H := hP 46 _ rfl
set_option maxRecDepth 100000 in
theorem st_p47 (hP : va_P D fb_cl (wFb cI cB cII h u ++ wMo cI cB cII g v) H) : va_at D fb_cl (st_ad h g b t u v 47, fb_en (l, D, st_ad h g b t u v, sz, cI, cB, cII) st_0 47 (1, 6, [])) H := hP 47 _ rfl
set_option maxRecDepth 100000 in
theorem st_p48 (hP : va_P D fb_cl (wFb cI cB cII h u ++ wMo cI cB cII g v) H) : va_at D fb_cl (st_ad h g b t u v 48, fb_en (l, D, st_ad h g b t u v, sz, cI, cB, cII) st_0 48 (2, 36, [])) H := hP 48 _ rfl
set_option maxRecDepth 100000 in
theorem st_p49 (hP : va_P D fb_cl (wFb cI cB cII h u ++ wMo cI cB cII g v) H) : va_at D fb_cl (st_ad h g b t u v 49, fb_en (l, D, st_ad h g b t u v, sz, cI, cB, cII) st_0 49 (1, 1700, [])) H := hP 49 _ rfl
set_option maxRecDepth 100000 in
theorem st_p50 (hP : va_P D fb_cl (wFb cI cB cII h u ++ wMo cI cB cII g v) H) : va_at D fb_cl (st_ad h g b t u v 50, fb_en (l, D, st_ad h g b t u v, sz, cI, cB, cII) st_0 50 (1, 144, [])) H := hP 50 _ rfl
set_option maxRecDepth 100000 in
theorem st_p51 (hP : va_P D fb_cl (wFb cI cB cII h u ++ wMo cI cB cII g v) H) : va_at D fb_cl (st_ad h g b t u v 51, fb_en (l, D, st_ad h g b t u v, sz, cI, cB, cII) st_0 51 (2, 144, [])) H := hP 51 _ rfl
set_option maxRecDepth 100000 in
theorem st_p52 (hP : va_P D fb_cl (wFb cI cB cII h u ++ wMo cI cB cII g v) H) : va_at D fb_cl (st_ad h g b t u v 52, fb_en (l, D, st_ad h g b t u v, sz, cI, cB, cII) st_0 52 (2, 144, [])) H := hP 52 _ rfl
set_option maxRecDepth 100000 in
theorem st_p53 (hP : va_P D fb_cl (wFb cI cB cII h u ++ wMo cI cB cII g v) H) : va_at D fb_cl (st_ad h g b t u v 53, fb_en (l, D, st_ad h g b t u v, sz, cI, cB, cII) st_0 53 (1, 144, [])) H := hP 53 _ rfl
set_option maxRecDepth 100000 in
theorem st_p54 (hP : va_P D fb_cl (wFb cI cB cII h u ++ wMo cI cB cII g v) H) : va_at D fb_cl (st_ad h g b t u v 54, fb_en (l, D, st_ad h g b t u v, sz, cI, cB, cII) st_0 54 (1, 144, [])) H := hP 54 _ rfl
set_option maxRecDepth 100000 in
theorem st_p55 (hP : va_P D fb_cl (wFb cI cB cII h u ++ wMo cI cB cII g v) H) : va_at D fb_cl (st_ad h g b t u v 55, fb_en (l, D, st_ad h g b t u v, sz, cI, cB, cII) st_0 55 (1, 8, [])) H := hP 55 _ rfl
set_option maxRecDepth 100000 in
theorem st_p56 (hP : va_P D fb_cl (wFb cI cB cII h u ++ wMo cI cB cII g v) H) : va_at D fb_cl (st_ad h g b t u v 56, fb_en (l, D, st_ad h g b t u v, sz, cI, cB, cII) st_0 56 (1, 128, [])) H := hP 56 _ rfl
set_option maxRecDepth 100000 in
theorem st_p57 (hP : va_P D fb_cl (wFb cI cB cII h u ++ wMo cI cB cII g v) H) : va_at D fb_cl (st_ad h g b t u v 57, fb_en (l, D, st_ad h g b t u v, sz, cI, cB, cII) st_0 57 (1, 100, [])) H := hP 57 _ rfl
theorem st_P (hP : va_P D fb_cl (wFb cI cB cII h u ++ wMo cI cB cII g v) H) : va_P D fb_cl (fb_W (l, D, st_ad h g b t u v, sz, cI, cB, cII) st_0) H := by
  have key : ∀ (k : Nat) (sh : fb_Sh), fb_shp[k]? = some sh → va_at D fb_cl (st_ad h g b t u v k, fb_en (l, D, st_ad h g b t u v, sz, cI, cB, cII) st_0 k sh) H := fun k sh hk => match k, hk with
    | 0, hk => by cases hk; exact st_p0 hP
    | 1, hk => by cases hk; exact st_p1 hP
    | 2, hk => by cases hk; exact st_p2 hP
    | 3, hk => by cases hk; exact st_p3 hP
    | 4, hk => by cases hk; exact st_p4 hP
    | 5, hk => by cases hk; exact st_p5 hP
    | 6, hk => by cases hk; exact st_p6 hP
    | 7, hk => by cases hk; exact st_p7 hP
    | 8, hk => by cases hk; exact st_p8 hP
    | 9, hk => by cases hk; exact st_p9 hP
    | 10, hk => by cases hk; exact st_p10 hP
    | 11, hk => by cases hk; exact st_p11 hP
    | 12, hk => by cases hk; exact st_p12 hP
    | 13, hk => by cases hk; exact st_p13 hP
    | 14, hk => by cases hk; exact st_p14 hP
    | 15, hk => by cases hk; exact st_p15 hP
    | 16, hk => by cases hk; exact st_p16 hP
    | 17, hk => by cases hk; exact st_p17 hP
    | 18, hk => by cases hk; exact st_p18 hP
    | 19, hk => by cases hk; exact st_p19 hP
    | 20, hk => by cases hk; exact st_p20 hP
    | 21, hk => by cases hk; exact st_p21 hP
    | 22, hk => by cases hk; exact st_p22 hP
    | 23, hk => by cases hk; exact st_p23 hP
    | 24, hk => by cases hk; exact st_p24 hP
    | 25, hk => by cases hk; exact st_p25 hP
    | 26, hk => by cases hk; exact st_p26 hP
    | 27, hk => by cases hk; exact st_p27 hP
    | 28, hk => by cases hk; exact st_p28 hP
    | 29, hk => by cases hk; exact st_p29 hP
    | 30, hk => by cases hk; exact st_p30 hP
    | 31, hk => by cases hk; exact st_p31 hP
    | 32, hk => by cases hk; exact st_p32 hP
    | 33, hk => by cases hk; exact st_p33 hP
    | 34, hk => by cases hk; exact st_p34 hP
    | 35, hk => by cases hk; exact st_p35 hP
    | 36, hk => by cases hk; exact st_p36 hP
    | 37, hk => by cases hk; exact st_p37 hP
    | 38, hk => by cases hk; exact st_p38 hP
    | 39, hk => by cases hk; exact st_p39 hP
    | 40, hk => by cases hk; exact st_p40 hP
    | 41, hk => by cases hk; exact st_p41 hP
    | 42, hk => by cases hk; exact st_p42 hP
    | 43, hk => by cases hk; exact st_p43 hP
    | 44, hk => by cases hk; exact st_p44 hP
    | 45, hk => by cases hk; exact st_p45 hP
    | 46, hk => by cases hk; exact st_p46 hP
    | 47, hk => by cases hk; exact st_p47 hP
    | 48, hk => by cases hk; exact st_p48 hP
    | 49, hk => by cases hk; exact st_p49 hP
    | 50, hk => by cases hk; exact st_p50 hP
    | 51, hk => by cases hk; exact st_p51 hP
    | 52, hk => by cases hk; exact st_p52 hP
    | 53, hk => by cases hk; exact st_p53 hP
    | 54, hk => by cases hk; exact st_p54 hP
    | 55, hk => by cases hk; exact st_p55 hP
    | 56, hk => by cases hk; exact st_p56 hP
    | 57, hk => by cases hk; exact st_p57 hP
    | k + 58, hk => by
      have : k + 58 < 58 := (List.getElem?_eq_some_iff.mp hk).1
      omega
  intro k q hk
  obtain ⟨sh, hsh, rfl⟩ := fb_W_of hk
  exact key k sh hsh
set_option maxHeartbeats 4000000 in
set_option maxRecDepth 100000 in
theorem st_at (k : Nat) (hk : k < 58) : ∃ x, (wFb cI cB cII h u ++ wMo cI cB cII g v)[st_pm k]? = some (st_ad h g b t u v k, x) := by
  exact match k, hk with
  | 0, _ => ⟨_, rfl⟩
  | 1, _ => ⟨_, rfl⟩
  | 2, _ => ⟨_, rfl⟩
  | 3, _ => ⟨_, rfl⟩
  | 4, _ => ⟨_, rfl⟩
  | 5, _ => ⟨_, rfl⟩
  | 6, _ => ⟨_, rfl⟩
  | 7, _ => ⟨_, rfl⟩
  | 8, _ => ⟨_, rfl⟩
  | 9, _ => ⟨_, rfl⟩
  | 10, _ => ⟨_, rfl⟩
  | 11, _ => ⟨_, rfl⟩
  | 12, _ => ⟨_, rfl⟩
  | 13, _ => ⟨_, rfl⟩
  | 14, _ => ⟨_, rfl⟩
  | 15, _ => ⟨_, rfl⟩
  | 16, _ => ⟨_, rfl⟩
  | 17, _ => ⟨_, rfl⟩
  | 18, _ => ⟨_, rfl⟩
  | 19, _ => ⟨_, rfl⟩
  | 20, _ => ⟨_, rfl⟩
  | 21, _ => ⟨_, rfl⟩
  | 22, _ => ⟨_, rfl⟩
  | 23, _ => ⟨_, rfl⟩
  | 24, _ => ⟨_, rfl⟩
  | 25, _ => ⟨_, rfl⟩
  | 26, _ => ⟨_, rfl⟩
  | 27, _ => ⟨_, rfl⟩
  | 28, _ => ⟨_, rfl⟩
  | 29, _ => ⟨_, rfl⟩
  | 30, _ => ⟨_, rfl⟩
  | 31, _ => ⟨_, rfl⟩
  | 32, _ => ⟨_, rfl⟩
  | 33, _ => ⟨_, rfl⟩
  | 34, _ => ⟨_, rfl⟩
  | 35, _ => ⟨_, rfl⟩
  | 36, _ => ⟨_, rfl⟩
  | 37, _ => ⟨_, rfl⟩
  | 38, _ => ⟨_, rfl⟩
  | 39, _ => ⟨_, rfl⟩
  | 40, _ => ⟨_, rfl⟩
  | 41, _ => ⟨_, rfl⟩
  | 42, _ => ⟨_, rfl⟩
  | 43, _ => ⟨_, rfl⟩
  | 44, _ => ⟨_, rfl⟩
  | 45, _ => ⟨_, rfl⟩
  | 46, _ => ⟨_, rfl⟩
  | 47, _ => ⟨_, rfl⟩
  | 48, _ => ⟨_, rfl⟩
  | 49, _ => ⟨_, rfl⟩
  | 50, _ => ⟨_, rfl⟩
  | 51, _ => ⟨_, rfl⟩
  | 52, _ => ⟨_, rfl⟩
  | 53, _ => ⟨_, rfl⟩
  | 54, _ => ⟨_, rfl⟩
  | 55, _ => ⟨_, rfl⟩
  | 56, _ => ⟨_, rfl⟩
  | 57, _ => ⟨_, rfl⟩
  | k + 58, h => absurd h (by omega)
theorem st_pm_inj : ∀ i, i < 58 → ∀ j, j < 58 → st_pm i = st_pm j → i = j := by decide +kernel
theorem st_H (hD : va_D (fun q => sz ≤ q) (wFb cI cB cII h u ++ wMo cI cB cII g v)) : fb_H (l, D, st_ad h g b t u v, sz, cI, cB, cII) := by
  refine ⟨fun i j hi hj e => ?_, fun i hi => ?_⟩
  · obtain ⟨x, hx⟩ := st_at (b := b) (t := t) (cI := cI) (cB := cB) (cII := cII) (h := h) (g := g) (u := u) (v := v) i hi
    obtain ⟨y, hy⟩ := st_at (b := b) (t := t) (cI := cI) (cB := cB) (cII := cII) (h := h) (g := g) (u := u) (v := v) j hj
    exact st_pm_inj i hi j hj (hD.1 _ _ _ _ hx hy e)
  · obtain ⟨x, hx⟩ := st_at (b := b) (t := t) (cI := cI) (cB := cB) (cII := cII) (h := h) (g := g) (u := u) (v := v) i hi
    exact hD.2 _ _ hx
end SA
theorem st_inv : inv 0 st_0 := by
  have z1 : ∀ k, k ≠ 133 → st_0.1 k = 0 := fun k hk => if_neg hk
  have z2 : ∀ a j, st_0.2 a j = 0 := fun _ _ => rfl
  have e41 := z1 41 (by decide)
  have e42 := z1 42 (by decide)
  refine ⟨⟨?_, ?_, ?_, ?_, ?_, ?_, ?_⟩, ⟨?_, ?_⟩, Or.inl ⟨z1 4 (by decide), z1 169 (by decide), rfl, z1 134 (by decide), z1 135 (by decide), z1 182 (by decide)⟩⟩
  · unfold iv_A
    rw [e41, e42, z1 160 (by decide), z1 161 (by decide)]
    omega
  · intro f f0 f6
    rw [z2, z2, z2, z2]
    exact ⟨by omega, rfl, by omega, rfl, fun _ => ⟨rfl, rfl⟩⟩
  · intro f v f0 f6 v0 v1
    rw [z2] at v1
    omega
  · refine ⟨fun _ => e42, fun h => rfl, fun f f0 f1 => ?_, fun h => ?_⟩
    · omega
    · omega
  · intro f f0 f1
    omega
  · intro k k0 k1
    omega
  · intro f i f0 f1
    omega
  · intro j j0 j1
    rw [z2]; omega
  · intro j j0 j1
    rw [z2]; omega
section SB
variable {p : Program} {s : State} {m : MethodId} {meth : Method} {c : Code} {b L : Nat} {xs : Nat → Int32}
theorem st_tb {w : Cond} (h : w ∈ fb_WA) : w ∈ lw_tbl := (List.mem_filter.mp h).1
theorem st_K (C0 : lw_At p s m meth c b L xs) : ∃ (D : va_G) (cI cB cII : ClassId), cn_K D cI cB cII s := by
  obtain ⟨x1, x2, x3, x4, x5, hts, x7, x8, x9, x10⟩ := C0
  obtain ⟨c0, i0, k0⟩ := u_known (C := "FrameBackEnd") (T := fb_T0) (N := 5) hts (fun w hw => st_tb (fb_w0 w hw)) (hts (.instantiable "FrameBackEnd" 5) (List.mem_append_right _ (fb_r1 (List.mem_of_getElem? (i := 10) rfl))))
  obtain ⟨c1, i1, k1⟩ := u_known (C := "FrameBackEnd$Program") (T := fb_T1) (N := 11) hts (fun w hw => st_tb (fb_w1 w hw)) (hts (.instantiable "FrameBackEnd$Program" 11) (List.mem_append_right _ (fb_r1 (List.mem_of_getElem? (i := 18) rfl))))
  obtain ⟨c2, i2, k2⟩ := u_known (C := "FrameBackEnd$Frames") (T := fb_T2) (N := 5) hts (fun w hw => st_tb (fb_w2 w hw)) (hts (.instantiable "FrameBackEnd$Frames" 5) (List.mem_append_right _ (fb_r1 (List.mem_of_getElem? (i := 76) rfl))))
  obtain ⟨c3, i3, k3⟩ := u_known (C := "FrameBackEnd$Assembler") (T := fb_T3) (N := 12) hts (fun w hw => st_tb (fb_w3 w hw)) (hts (.instantiable "FrameBackEnd$Assembler" 12) (List.mem_append_right _ (fb_r1 (List.mem_of_getElem? (i := 103) rfl))))
  obtain ⟨c4, i4, k4⟩ := u_known (C := "FrameBackEnd$Processor") (T := fb_T4) (N := 13) hts (fun w hw => st_tb (fb_w4 w hw)) (hts (.instantiable "FrameBackEnd$Processor" 13) (List.mem_append_right _ (fb_r1 (List.mem_of_getElem? (i := 152) rfl))))
  obtain ⟨c5, i5, k5⟩ := u_known (C := "FrameBackEndModel") (T := fb_T5) (N := 30) hts (fun w hw => st_tb (fb_w5 w hw)) (hts (.instantiable "FrameBackEndModel" 30) (List.mem_append_right _ (fb_r3 (List.mem_of_getElem? (i := 130) rfl))))
  obtain ⟨cI, k6, a6, e6, f6, g6⟩ := Cond.arrayClass_spec (hts (.arrayClass .int) (List.mem_append_right _ (fb_r1 (List.mem_of_getElem? (i := 74) rfl))))
  obtain ⟨cB, k7, a7, e7, f7, g7⟩ := Cond.arrayClass_spec (hts (.arrayClass .boolean) (List.mem_append_right _ (fb_r1 (List.mem_of_getElem? (i := 101) rfl))))
  have ho := hts (.arrayOver (.array .int)) (List.mem_append_right _ (fb_r1 (List.mem_of_getElem? (i := 24) rfl)))
  obtain ⟨a8, cII, k8, -, f8, g8, e8⟩ := Cond.arrayOver_specA ho
  refine ⟨(fun k => match k with | 0 => c0 | 1 => c1 | 2 => c2 | 3 => c3 | 4 => c4 | _ => c5, fun k => match k with | 0 => i0 | 1 => i1 | 2 => i2 | 3 => i3 | 4 => i4 | _ => i5), cI, cB, cII, ⟨fun k q hq => ?_, fun k q hq => ?_⟩, fun w hw => va_Nw.of (fb_NW_on hw) (hts w (List.mem_append_right _ (List.mem_filter.mp hw).1)), va_AOA.of ho⟩
  · exact match k, hq with
    | 0, hq => by have e := Option.some.inj hq; rw [← e]; exact k0
    | 1, hq => by have e := Option.some.inj hq; rw [← e]; exact k1
    | 2, hq => by have e := Option.some.inj hq; rw [← e]; exact k2
    | 3, hq => by have e := Option.some.inj hq; rw [← e]; exact k3
    | 4, hq => by have e := Option.some.inj hq; rw [← e]; exact k4
    | 5, hq => by have e := Option.some.inj hq; rw [← e]; exact k5
    | k + 6, hq => by
      have : k + 6 < 6 := (List.getElem?_eq_some_iff.mp hq).1
      omega
  · exact match k, hq with
    | 0, hq => by have e := Option.some.inj hq; rw [← e]; exact ⟨fun N z => ⟨(fun q hq => by cases hq), k6, f6, a6, g6⟩, e6⟩
    | 1, hq => by have e := Option.some.inj hq; rw [← e]; exact ⟨fun N z => ⟨(fun q hq => by cases hq), k7, f7, a7, g7⟩, e7⟩
    | 2, hq => by have e := Option.some.inj hq; rw [← e]; exact ⟨fun N z => ⟨(fun q hq => by cases hq), k8, f8, a8, g8⟩, e8⟩
    | k + 3, hq => by
      have : k + 3 < 3 := (List.getElem?_eq_some_iff.mp hq).1
      omega
set_option maxRecDepth 100000 in
theorem st_T (C0 : lw_At p s m meth c b L xs) : ∃ t : Nat, va_Z "FrameBackEnd" "SORTS" "[I" (.ref t) (fun q => s.heap.size ≤ q) s s.heap ∧ va_T .int t 48 (fun j => .int (Int32.ofInt (fb_sorts j))) (fun q => s.heap.size ≤ q) s s.heap := by
  obtain ⟨x1, x2, x3, x4, x5, hts, x7, x8, x9, x10⟩ := C0
  have hs := flat_of_before _ x10
  have hA : ∀ a : Nat, a < s.heap.size → ¬ s.heap.size ≤ a := fun a h => by omega
  obtain ⟨t, ht, hT⟩ := va_Tof (args := #[Value.ref b]) (s := s) (tm := (.static "FrameBackEnd" "SORTS" "[I")) (ty := .int) (N := 48) (f := fun j => .int (Int32.ofInt (fb_sorts j))) (A := fun q => s.heap.size ≤ q) (by decide) (hs (.arrayOf (.static "FrameBackEnd" "SORTS" "[I") .int) (by decide +kernel)) (va_eqt (hs (.eq (.length (.static "FrameBackEnd" "SORTS" "[I")) (.int 48)) (by decide +kernel))) (fun j hj => match j, hj with
    | 0, _ => va_eqt (hs (.eq (.elem (.static "FrameBackEnd" "SORTS" "[I") (.int 0)) (.int 1)) (by decide +kernel))
    | 1, _ => va_eqt (hs (.eq (.elem (.static "FrameBackEnd" "SORTS" "[I") (.int 1)) (.int 4)) (by decide +kernel))
    | 2, _ => va_eqt (hs (.eq (.elem (.static "FrameBackEnd" "SORTS" "[I") (.int 2)) (.int 0)) (by decide +kernel))
    | 3, _ => va_eqt (hs (.eq (.elem (.static "FrameBackEnd" "SORTS" "[I") (.int 3)) (.int 1)) (by decide +kernel))
    | 4, _ => va_eqt (hs (.eq (.elem (.static "FrameBackEnd" "SORTS" "[I") (.int 4)) (.int 1)) (by decide +kernel))
    | 5, _ => va_eqt (hs (.eq (.elem (.static "FrameBackEnd" "SORTS" "[I") (.int 5)) (.int 0)) (by decide +kernel))
    | 6, _ => va_eqt (hs (.eq (.elem (.static "FrameBackEnd" "SORTS" "[I") (.int 6)) (.int 1)) (by decide +kernel))
    | 7, _ => va_eqt (hs (.eq (.elem (.static "FrameBackEnd" "SORTS" "[I") (.int 7)) (.int 1)) (by decide +kernel))
    | 8, _ => va_eqt (hs (.eq (.elem (.static "FrameBackEnd" "SORTS" "[I") (.int 8)) (.int 1)) (by decide +kernel))
    | 9, _ => va_eqt (hs (.eq (.elem (.static "FrameBackEnd" "SORTS" "[I") (.int 9)) (.int 1)) (by decide +kernel))
    | 10, _ => va_eqt (hs (.eq (.elem (.static "FrameBackEnd" "SORTS" "[I") (.int 10)) (.int 1)) (by decide +kernel))
    | 11, _ => va_eqt (hs (.eq (.elem (.static "FrameBackEnd" "SORTS" "[I") (.int 11)) (.int 1)) (by decide +kernel))
    | 12, _ => va_eqt (hs (.eq (.elem (.static "FrameBackEnd" "SORTS" "[I") (.int 12)) (.int 1)) (by decide +kernel))
    | 13, _ => va_eqt (hs (.eq (.elem (.static "FrameBackEnd" "SORTS" "[I") (.int 13)) (.int 1)) (by decide +kernel))
    | 14, _ => va_eqt (hs (.eq (.elem (.static "FrameBackEnd" "SORTS" "[I") (.int 14)) (.int 1)) (by decide +kernel))
    | 15, _ => va_eqt (hs (.eq (.elem (.static "FrameBackEnd" "SORTS" "[I") (.int 15)) (.int 1)) (by decide +kernel))
    | 16, _ => va_eqt (hs (.eq (.elem (.static "FrameBackEnd" "SORTS" "[I") (.int 16)) (.int 1)) (by decide +kernel))
    | 17, _ => va_eqt (hs (.eq (.elem (.static "FrameBackEnd" "SORTS" "[I") (.int 17)) (.int 1)) (by decide +kernel))
    | 18, _ => va_eqt (hs (.eq (.elem (.static "FrameBackEnd" "SORTS" "[I") (.int 18)) (.int 1)) (by decide +kernel))
    | 19, _ => va_eqt (hs (.eq (.elem (.static "FrameBackEnd" "SORTS" "[I") (.int 19)) (.int 1)) (by decide +kernel))
    | 20, _ => va_eqt (hs (.eq (.elem (.static "FrameBackEnd" "SORTS" "[I") (.int 20)) (.int 1)) (by decide +kernel))
    | 21, _ => va_eqt (hs (.eq (.elem (.static "FrameBackEnd" "SORTS" "[I") (.int 21)) (.int 1)) (by decide +kernel))
    | 22, _ => va_eqt (hs (.eq (.elem (.static "FrameBackEnd" "SORTS" "[I") (.int 22)) (.int 0)) (by decide +kernel))
    | 23, _ => va_eqt (hs (.eq (.elem (.static "FrameBackEnd" "SORTS" "[I") (.int 23)) (.int 0)) (by decide +kernel))
    | 24, _ => va_eqt (hs (.eq (.elem (.static "FrameBackEnd" "SORTS" "[I") (.int 24)) (.int 1)) (by decide +kernel))
    | 25, _ => va_eqt (hs (.eq (.elem (.static "FrameBackEnd" "SORTS" "[I") (.int 25)) (.int 3)) (by decide +kernel))
    | 26, _ => va_eqt (hs (.eq (.elem (.static "FrameBackEnd" "SORTS" "[I") (.int 26)) (.int 2)) (by decide +kernel))
    | 27, _ => va_eqt (hs (.eq (.elem (.static "FrameBackEnd" "SORTS" "[I") (.int 27)) (.int 3)) (by decide +kernel))
    | 28, _ => va_eqt (hs (.eq (.elem (.static "FrameBackEnd" "SORTS" "[I") (.int 28)) (.int 2)) (by decide +kernel))
    | 29, _ => va_eqt (hs (.eq (.elem (.static "FrameBackEnd" "SORTS" "[I") (.int 29)) (.int 1)) (by decide +kernel))
    | 30, _ => va_eqt (hs (.eq (.elem (.static "FrameBackEnd" "SORTS" "[I") (.int 30)) (.int 0)) (by decide +kernel))
    | 31, _ => va_eqt (hs (.eq (.elem (.static "FrameBackEnd" "SORTS" "[I") (.int 31)) (.int 0)) (by decide +kernel))
    | 32, _ => va_eqt (hs (.eq (.elem (.static "FrameBackEnd" "SORTS" "[I") (.int 32)) (.int 0)) (by decide +kernel))
    | 33, _ => va_eqt (hs (.eq (.elem (.static "FrameBackEnd" "SORTS" "[I") (.int 33)) (.int 1)) (by decide +kernel))
    | 34, _ => va_eqt (hs (.eq (.elem (.static "FrameBackEnd" "SORTS" "[I") (.int 34)) (.int 0)) (by decide +kernel))
    | 35, _ => va_eqt (hs (.eq (.elem (.static "FrameBackEnd" "SORTS" "[I") (.int 35)) (.int 0)) (by decide +kernel))
    | 36, _ => va_eqt (hs (.eq (.elem (.static "FrameBackEnd" "SORTS" "[I") (.int 36)) (.int 1)) (by decide +kernel))
    | 37, _ => va_eqt (hs (.eq (.elem (.static "FrameBackEnd" "SORTS" "[I") (.int 37)) (.int 1)) (by decide +kernel))
    | 38, _ => va_eqt (hs (.eq (.elem (.static "FrameBackEnd" "SORTS" "[I") (.int 38)) (.int 0)) (by decide +kernel))
    | 39, _ => va_eqt (hs (.eq (.elem (.static "FrameBackEnd" "SORTS" "[I") (.int 39)) (.int 0)) (by decide +kernel))
    | 40, _ => va_eqt (hs (.eq (.elem (.static "FrameBackEnd" "SORTS" "[I") (.int 40)) (.int 1)) (by decide +kernel))
    | 41, _ => va_eqt (hs (.eq (.elem (.static "FrameBackEnd" "SORTS" "[I") (.int 41)) (.int 1)) (by decide +kernel))
    | 42, _ => va_eqt (hs (.eq (.elem (.static "FrameBackEnd" "SORTS" "[I") (.int 42)) (.int 1)) (by decide +kernel))
    | 43, _ => va_eqt (hs (.eq (.elem (.static "FrameBackEnd" "SORTS" "[I") (.int 43)) (.int 0)) (by decide +kernel))
    | 44, _ => va_eqt (hs (.eq (.elem (.static "FrameBackEnd" "SORTS" "[I") (.int 44)) (.int 0)) (by decide +kernel))
    | 45, _ => va_eqt (hs (.eq (.elem (.static "FrameBackEnd" "SORTS" "[I") (.int 45)) (.int 1)) (by decide +kernel))
    | 46, _ => va_eqt (hs (.eq (.elem (.static "FrameBackEnd" "SORTS" "[I") (.int 46)) (.int 0)) (by decide +kernel))
    | 47, _ => va_eqt (hs (.eq (.elem (.static "FrameBackEnd" "SORTS" "[I") (.int 47)) (.int 0)) (by decide +kernel))
    | j + 48, h => absurd h (by omega)) hA
  exact ⟨t, va_Zref (hts (.laysStatic "FrameBackEnd" "SORTS" "[I") (List.mem_append_right _ (fb_r2 (List.mem_of_getElem? (i := 16) rfl)))) (hts (.initialized "FrameBackEnd") (List.mem_append_right _ (fb_r1 (List.mem_of_getElem? (i := 1) rfl)))) ht hA, hT⟩
end SB
