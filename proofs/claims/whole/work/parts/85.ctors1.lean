/-! the constructors: worlds, contracts -/
def rl0 : Nat → Int32 := (upd (upd (upd (upd (upd (upd z0 (nI 0).toNatClampNeg (nI 3)) (nI 1).toNatClampNeg (nI 2)) (nI 2).toNatClampNeg (nI 6)) (nI 3).toNatClampNeg (-(nI 1))) (nI 4).toNatClampNeg (nI 4)) (nI 5).toNatClampNeg (nI 50))
def so0 : Nat → Int32 := (upd (upd (upd (upd z0 (nI 0).toNatClampNeg (-(nI 1))) (nI 1).toNatClampNeg (-(nI 1))) (nI 2).toNatClampNeg (-(nI 1))) (nI 3).toNatClampNeg (-(nI 1)))
def wX6 (cI cB cO : ClassId) (h : Nat) (q : Nat → Nat) : va_W := [(h, .inr (5, [.int (nI 0), .ref (q 0), .ref (q 1)])), (q 0, .inl (cI, 50, .inl z0)), (q 1, .inl (cI, 50, .inl z0))]
set_option maxRecDepth 20000 in
set_option maxHeartbeats 4000000 in
theorem k_X6 (l : Launch) (D : va_G) (cI cB cO : ClassId) (h0 sz : Nat) : KM l D cI cB cO (yX6_init, cX6_init, 1, none) 5 [.int 0, .null, .null] 0 2 100 (fun h q => wX6 cI cB cO h q) h0 sz := by
  refine nw_in 6 (by decide +kernel) rfl rfl ?_
  intro E A hEl hX hin hE hr hlk
  have hEc : (Ero E).cells = 2 := by rw [hE]; rfl
  have hEs : (Ero E).slots = 100 := by rw [hE]; rfl
  have hEf : (Ero E).frames = 1 := by rw [hE]; rfl
  have hEo : (Ero E).locals = 60 := by rw [hE]; rfl
  refine nw_al hX (by decide +kernel) ?_
  refine nw_obj hX (idx := 3) (gt_c1 138 (by decide +kernel) rfl) (gt_c1 21 (by decide +kernel) rfl) (gt_c1 22 (by decide +kernel) rfl) (by decide +kernel) (by rw [hEf]; exact Nat.le_of_ble_eq_true rfl) (by rw [hEo]; exact Nat.le_of_ble_eq_true rfl) ?_
  show NW E D A 1 _ 4 [(0, .ref h0)] [] [(h0, .inr (5, [.int 0, .null, .null]))] 0 0
  refine nw_al hX (by decide +kernel) ?_
  refine nw_ci hX (I := .iconst 0) (L := 1) (x := nI 0) (Or.inl ⟨0, rfl, rfl, rfl⟩) (by decide +kernel) ?_
  refine nw_put hX hin (idx := 9) (C := RX6) (T := TX6) (N := 3) rfl 0 (by decide) (gt_c1 139 (by decide +kernel) rfl) rfl rfl (ty := tyX6 0) (tyX6_ok 0 (by decide)) rfl rfl (Nat.le_of_ble_eq_true rfl) (by decide +kernel) ?_
  show NW E D A 1 _ 9 [(0, .ref h0)] [] [(h0, .inr (5, [.int (nI 0), .null, .null]))] 0 0
  refine nw_al hX (by decide +kernel) ?_
  refine nw_ci hX (I := .bipush 50) (L := 2) (x := nI 50) (Or.inr (Or.inl ⟨50, rfl, rfl, rfl, by decide, by decide⟩)) (by decide +kernel) ?_
  refine nw_newa hX false (N := 50) (by decide) (by decide +kernel) (gt_c1 55 (by decide +kernel) rfl) (gt_c1 91 (by decide +kernel) rfl) (by rw [hEc]; exact Nat.le_of_ble_eq_true rfl) (by rw [hEs]; exact Nat.le_of_ble_eq_true rfl) (fun q12 => ?_)
  show NW E D A 1 _ 14 [(0, .ref h0)] [.ref q12, .ref h0] [(h0, .inr (5, [.int (nI 0), .null, .null])), (q12, .inl (cI, 50, .inl z0))] 1 50
  refine nw_put hX hin (idx := 15) (C := RX6) (T := TX6) (N := 3) rfl 1 (by decide) (gt_c1 141 (by decide +kernel) rfl) rfl rfl (ty := tyX6 1) (tyX6_ok 1 (by decide)) rfl rfl (Nat.le_of_ble_eq_true rfl) (by decide +kernel) ?_
  show NW E D A 1 _ 17 [(0, .ref h0)] [] [(h0, .inr (5, [.int (nI 0), .ref q12, .null])), (q12, .inl (cI, 50, .inl z0))] 1 50
  refine nw_al hX (by decide +kernel) ?_
  refine nw_ci hX (I := .bipush 50) (L := 2) (x := nI 50) (Or.inr (Or.inl ⟨50, rfl, rfl, rfl, by decide, by decide⟩)) (by decide +kernel) ?_
  refine nw_newa hX false (N := 50) (by decide) (by decide +kernel) (gt_c1 55 (by decide +kernel) rfl) (gt_c1 91 (by decide +kernel) rfl) (by rw [hEc]; exact Nat.le_of_ble_eq_true rfl) (by rw [hEs]; exact Nat.le_of_ble_eq_true rfl) (fun q20 => ?_)
  show NW E D A 1 _ 22 [(0, .ref h0)] [.ref q20, .ref h0] [(h0, .inr (5, [.int (nI 0), .ref q12, .null])), (q12, .inl (cI, 50, .inl z0)), (q20, .inl (cI, 50, .inl z0))] 2 100
  refine nw_put hX hin (idx := 19) (C := RX6) (T := TX6) (N := 3) rfl 2 (by decide) (gt_c1 143 (by decide +kernel) rfl) rfl rfl (ty := tyX6 2) (tyX6_ok 2 (by decide)) rfl rfl (Nat.le_of_ble_eq_true rfl) (by decide +kernel) ?_
  show NW E D A 1 _ 25 [(0, .ref h0)] [] [(h0, .inr (5, [.int (nI 0), .ref q12, .ref q20])), (q12, .inl (cI, 50, .inl z0)), (q20, .inl (cI, 50, .inl z0))] 2 100
  exact nw_ret (wY := wX6 cI cB cO h0) hX hr hlk (fun i => [q12, q20].getD i 0) (by decide +kernel)
def wX0 (cI cB cO : ClassId) (h : Nat) (q : Nat → Nat) : va_W := [(h, .inr (0, [.int (nI 0), .ref (q 0), .ref (q 1), .ref (q 2), .ref (q 3), .ref (q 4), .ref (q 5), .ref (q 6), .int (nI 0)])), (q 0, .inl (cI, 64, .inl z0)), (q 1, .inl (cI, 250, .inl z0)), (q 2, .inl (cI, 250, .inl z0)), (q 3, .inl (cI, 250, .inl z0)), (q 4, .inl (cI, 250, .inl z0)), (q 5, .inl (cI, 250, .inl z0)), (q 6, .inl (cB, 250, .inl z0))]
set_option maxRecDepth 20000 in
set_option maxHeartbeats 4000000 in
theorem k_X0 (l : Launch) (D : va_G) (cI cB cO : ClassId) (h0 sz : Nat) : KM l D cI cB cO (yX0_init, cX0_init, 1, none) 0 [.int 0, .null, .null, .null, .null, .null, .null, .null, .int 0] 0 7 1564 (fun h q => wX0 cI cB cO h q) h0 sz := by
  refine nw_in 0 (by decide +kernel) rfl rfl ?_
  intro E A hEl hX hin hE hr hlk
  have hEc : (Ero E).cells = 7 := by rw [hE]; rfl
  have hEs : (Ero E).slots = 1564 := by rw [hE]; rfl
  have hEf : (Ero E).frames = 1 := by rw [hE]; rfl
  have hEo : (Ero E).locals = 60 := by rw [hE]; rfl
  refine nw_al hX (by decide +kernel) ?_
  refine nw_obj hX (idx := 3) (gt_c1 97 (by decide +kernel) rfl) (gt_c1 21 (by decide +kernel) rfl) (gt_c1 22 (by decide +kernel) rfl) (by decide +kernel) (by rw [hEf]; exact Nat.le_of_ble_eq_true rfl) (by rw [hEo]; exact Nat.le_of_ble_eq_true rfl) ?_
  show NW E D A 1 _ 4 [(0, .ref h0)] [] [(h0, .inr (0, [.int 0, .null, .null, .null, .null, .null, .null, .null, .int 0]))] 0 0
  refine nw_al hX (by decide +kernel) ?_
  refine nw_ci hX (I := .iconst 0) (L := 1) (x := nI 0) (Or.inl ⟨0, rfl, rfl, rfl⟩) (by decide +kernel) ?_
  refine nw_put hX hin (idx := 9) (C := RX0) (T := TX0) (N := 9) rfl 0 (by decide) (gt_c1 98 (by decide +kernel) rfl) rfl rfl (ty := tyX0 0) (tyX0_ok 0 (by decide)) rfl rfl (Nat.le_of_ble_eq_true rfl) (by decide +kernel) ?_
  show NW E D A 1 _ 9 [(0, .ref h0)] [] [(h0, .inr (0, [.int (nI 0), .null, .null, .null, .null, .null, .null, .null, .int 0]))] 0 0
  refine nw_al hX (by decide +kernel) ?_
  refine nw_ci hX (I := .bipush 64) (L := 2) (x := nI 64) (Or.inr (Or.inl ⟨64, rfl, rfl, rfl, by decide, by decide⟩)) (by decide +kernel) ?_
  refine nw_newa hX false (N := 64) (by decide) (by decide +kernel) (gt_c1 55 (by decide +kernel) rfl) (gt_c1 91 (by decide +kernel) rfl) (by rw [hEc]; exact Nat.le_of_ble_eq_true rfl) (by rw [hEs]; exact Nat.le_of_ble_eq_true rfl) (fun q12 => ?_)
  show NW E D A 1 _ 14 [(0, .ref h0)] [.ref q12, .ref h0] [(h0, .inr (0, [.int (nI 0), .null, .null, .null, .null, .null, .null, .null, .int 0])), (q12, .inl (cI, 64, .inl z0))] 1 64
  refine nw_put hX hin (idx := 15) (C := RX0) (T := TX0) (N := 9) rfl 1 (by decide) (gt_c1 100 (by decide +kernel) rfl) rfl rfl (ty := tyX0 1) (tyX0_ok 1 (by decide)) rfl rfl (Nat.le_of_ble_eq_true rfl) (by decide +kernel) ?_
  show NW E D A 1 _ 17 [(0, .ref h0)] [] [(h0, .inr (0, [.int (nI 0), .ref q12, .null, .null, .null, .null, .null, .null, .int 0])), (q12, .inl (cI, 64, .inl z0))] 1 64
  refine nw_al hX (by decide +kernel) ?_
  refine nw_ci hX (I := .sipush 250) (L := 3) (x := nI 250) (Or.inr (Or.inr ⟨250, rfl, rfl, rfl, by decide, by decide⟩)) (by decide +kernel) ?_
  refine nw_newa hX false (N := 250) (by decide) (by decide +kernel) (gt_c1 55 (by decide +kernel) rfl) (gt_c1 91 (by decide +kernel) rfl) (by rw [hEc]; exact Nat.le_of_ble_eq_true rfl) (by rw [hEs]; exact Nat.le_of_ble_eq_true rfl) (fun q21 => ?_)
  show NW E D A 1 _ 23 [(0, .ref h0)] [.ref q21, .ref h0] [(h0, .inr (0, [.int (nI 0), .ref q12, .null, .null, .null, .null, .null, .null, .int 0])), (q12, .inl (cI, 64, .inl z0)), (q21, .inl (cI, 250, .inl z0))] 2 314
  refine nw_put hX hin (idx := 19) (C := RX0) (T := TX0) (N := 9) rfl 2 (by decide) (gt_c1 101 (by decide +kernel) rfl) rfl rfl (ty := tyX0 2) (tyX0_ok 2 (by decide)) rfl rfl (Nat.le_of_ble_eq_true rfl) (by decide +kernel) ?_
  show NW E D A 1 _ 26 [(0, .ref h0)] [] [(h0, .inr (0, [.int (nI 0), .ref q12, .ref q21, .null, .null, .null, .null, .null, .int 0])), (q12, .inl (cI, 64, .inl z0)), (q21, .inl (cI, 250, .inl z0))] 2 314
  refine nw_al hX (by decide +kernel) ?_
  refine nw_ci hX (I := .sipush 250) (L := 3) (x := nI 250) (Or.inr (Or.inr ⟨250, rfl, rfl, rfl, by decide, by decide⟩)) (by decide +kernel) ?_
  refine nw_newa hX false (N := 250) (by decide) (by decide +kernel) (gt_c1 55 (by decide +kernel) rfl) (gt_c1 91 (by decide +kernel) rfl) (by rw [hEc]; exact Nat.le_of_ble_eq_true rfl) (by rw [hEs]; exact Nat.le_of_ble_eq_true rfl) (fun q30 => ?_)
  show NW E D A 1 _ 32 [(0, .ref h0)] [.ref q30, .ref h0] [(h0, .inr (0, [.int (nI 0), .ref q12, .ref q21, .null, .null, .null, .null, .null, .int 0])), (q12, .inl (cI, 64, .inl z0)), (q21, .inl (cI, 250, .inl z0)), (q30, .inl (cI, 250, .inl z0))] 3 564
  refine nw_put hX hin (idx := 22) (C := RX0) (T := TX0) (N := 9) rfl 3 (by decide) (gt_c1 102 (by decide +kernel) rfl) rfl rfl (ty := tyX0 3) (tyX0_ok 3 (by decide)) rfl rfl (Nat.le_of_ble_eq_true rfl) (by decide +kernel) ?_
  show NW E D A 1 _ 35 [(0, .ref h0)] [] [(h0, .inr (0, [.int (nI 0), .ref q12, .ref q21, .ref q30, .null, .null, .null, .null, .int 0])), (q12, .inl (cI, 64, .inl z0)), (q21, .inl (cI, 250, .inl z0)), (q30, .inl (cI, 250, .inl z0))] 3 564
  refine nw_al hX (by decide +kernel) ?_
  refine nw_ci hX (I := .sipush 250) (L := 3) (x := nI 250) (Or.inr (Or.inr ⟨250, rfl, rfl, rfl, by decide, by decide⟩)) (by decide +kernel) ?_
  refine nw_newa hX false (N := 250) (by decide) (by decide +kernel) (gt_c1 55 (by decide +kernel) rfl) (gt_c1 91 (by decide +kernel) rfl) (by rw [hEc]; exact Nat.le_of_ble_eq_true rfl) (by rw [hEs]; exact Nat.le_of_ble_eq_true rfl) (fun q39 => ?_)
  show NW E D A 1 _ 41 [(0, .ref h0)] [.ref q39, .ref h0] [(h0, .inr (0, [.int (nI 0), .ref q12, .ref q21, .ref q30, .null, .null, .null, .null, .int 0])), (q12, .inl (cI, 64, .inl z0)), (q21, .inl (cI, 250, .inl z0)), (q30, .inl (cI, 250, .inl z0)), (q39, .inl (cI, 250, .inl z0))] 4 814
  refine nw_put hX hin (idx := 25) (C := RX0) (T := TX0) (N := 9) rfl 4 (by decide) (gt_c1 103 (by decide +kernel) rfl) rfl rfl (ty := tyX0 4) (tyX0_ok 4 (by decide)) rfl rfl (Nat.le_of_ble_eq_true rfl) (by decide +kernel) ?_
  show NW E D A 1 _ 44 [(0, .ref h0)] [] [(h0, .inr (0, [.int (nI 0), .ref q12, .ref q21, .ref q30, .ref q39, .null, .null, .null, .int 0])), (q12, .inl (cI, 64, .inl z0)), (q21, .inl (cI, 250, .inl z0)), (q30, .inl (cI, 250, .inl z0)), (q39, .inl (cI, 250, .inl z0))] 4 814
  refine nw_al hX (by decide +kernel) ?_
  refine nw_ci hX (I := .sipush 250) (L := 3) (x := nI 250) (Or.inr (Or.inr ⟨250, rfl, rfl, rfl, by decide, by decide⟩)) (by decide +kernel) ?_
  refine nw_newa hX false (N := 250) (by decide) (by decide +kernel) (gt_c1 55 (by decide +kernel) rfl) (gt_c1 91 (by decide +kernel) rfl) (by rw [hEc]; exact Nat.le_of_ble_eq_true rfl) (by rw [hEs]; exact Nat.le_of_ble_eq_true rfl) (fun q48 => ?_)
  show NW E D A 1 _ 50 [(0, .ref h0)] [.ref q48, .ref h0] [(h0, .inr (0, [.int (nI 0), .ref q12, .ref q21, .ref q30, .ref q39, .null, .null, .null, .int 0])), (q12, .inl (cI, 64, .inl z0)), (q21, .inl (cI, 250, .inl z0)), (q30, .inl (cI, 250, .inl z0)), (q39, .inl (cI, 250, .inl z0)), (q48, .inl (cI, 250, .inl z0))] 5 1064
  refine nw_put hX hin (idx := 28) (C := RX0) (T := TX0) (N := 9) rfl 5 (by decide) (gt_c1 104 (by decide +kernel) rfl) rfl rfl (ty := tyX0 5) (tyX0_ok 5 (by decide)) rfl rfl (Nat.le_of_ble_eq_true rfl) (by decide +kernel) ?_
  show NW E D A 1 _ 53 [(0, .ref h0)] [] [(h0, .inr (0, [.int (nI 0), .ref q12, .ref q21, .ref q30, .ref q39, .ref q48, .null, .null, .int 0])), (q12, .inl (cI, 64, .inl z0)), (q21, .inl (cI, 250, .inl z0)), (q30, .inl (cI, 250, .inl z0)), (q39, .inl (cI, 250, .inl z0)), (q48, .inl (cI, 250, .inl z0))] 5 1064
  refine nw_al hX (by decide +kernel) ?_
  refine nw_ci hX (I := .sipush 250) (L := 3) (x := nI 250) (Or.inr (Or.inr ⟨250, rfl, rfl, rfl, by decide, by decide⟩)) (by decide +kernel) ?_
  refine nw_newa hX false (N := 250) (by decide) (by decide +kernel) (gt_c1 55 (by decide +kernel) rfl) (gt_c1 91 (by decide +kernel) rfl) (by rw [hEc]; exact Nat.le_of_ble_eq_true rfl) (by rw [hEs]; exact Nat.le_of_ble_eq_true rfl) (fun q57 => ?_)
  show NW E D A 1 _ 59 [(0, .ref h0)] [.ref q57, .ref h0] [(h0, .inr (0, [.int (nI 0), .ref q12, .ref q21, .ref q30, .ref q39, .ref q48, .null, .null, .int 0])), (q12, .inl (cI, 64, .inl z0)), (q21, .inl (cI, 250, .inl z0)), (q30, .inl (cI, 250, .inl z0)), (q39, .inl (cI, 250, .inl z0)), (q48, .inl (cI, 250, .inl z0)), (q57, .inl (cI, 250, .inl z0))] 6 1314
  refine nw_put hX hin (idx := 31) (C := RX0) (T := TX0) (N := 9) rfl 6 (by decide) (gt_c1 105 (by decide +kernel) rfl) rfl rfl (ty := tyX0 6) (tyX0_ok 6 (by decide)) rfl rfl (Nat.le_of_ble_eq_true rfl) (by decide +kernel) ?_
  show NW E D A 1 _ 62 [(0, .ref h0)] [] [(h0, .inr (0, [.int (nI 0), .ref q12, .ref q21, .ref q30, .ref q39, .ref q48, .ref q57, .null, .int 0])), (q12, .inl (cI, 64, .inl z0)), (q21, .inl (cI, 250, .inl z0)), (q30, .inl (cI, 250, .inl z0)), (q39, .inl (cI, 250, .inl z0)), (q48, .inl (cI, 250, .inl z0)), (q57, .inl (cI, 250, .inl z0))] 6 1314
  refine nw_al hX (by decide +kernel) ?_
  refine nw_ci hX (I := .sipush 250) (L := 3) (x := nI 250) (Or.inr (Or.inr ⟨250, rfl, rfl, rfl, by decide, by decide⟩)) (by decide +kernel) ?_
  refine nw_newa hX true (N := 250) (by decide) (by decide +kernel) (gt_c1 55 (by decide +kernel) rfl) (gt_c1 91 (by decide +kernel) rfl) (by rw [hEc]; exact Nat.le_of_ble_eq_true rfl) (by rw [hEs]; exact Nat.le_of_ble_eq_true rfl) (fun q66 => ?_)
  show NW E D A 1 _ 68 [(0, .ref h0)] [.ref q66, .ref h0] [(h0, .inr (0, [.int (nI 0), .ref q12, .ref q21, .ref q30, .ref q39, .ref q48, .ref q57, .null, .int 0])), (q12, .inl (cI, 64, .inl z0)), (q21, .inl (cI, 250, .inl z0)), (q30, .inl (cI, 250, .inl z0)), (q39, .inl (cI, 250, .inl z0)), (q48, .inl (cI, 250, .inl z0)), (q57, .inl (cI, 250, .inl z0)), (q66, .inl (cB, 250, .inl z0))] 7 1564
  refine nw_put hX hin (idx := 34) (C := RX0) (T := TX0) (N := 9) rfl 7 (by decide) (gt_c1 106 (by decide +kernel) rfl) rfl rfl (ty := tyX0 7) (tyX0_ok 7 (by decide)) rfl rfl (Nat.le_of_ble_eq_true rfl) (by decide +kernel) ?_
  show NW E D A 1 _ 71 [(0, .ref h0)] [] [(h0, .inr (0, [.int (nI 0), .ref q12, .ref q21, .ref q30, .ref q39, .ref q48, .ref q57, .ref q66, .int 0])), (q12, .inl (cI, 64, .inl z0)), (q21, .inl (cI, 250, .inl z0)), (q30, .inl (cI, 250, .inl z0)), (q39, .inl (cI, 250, .inl z0)), (q48, .inl (cI, 250, .inl z0)), (q57, .inl (cI, 250, .inl z0)), (q66, .inl (cB, 250, .inl z0))] 7 1564
  refine nw_al hX (by decide +kernel) ?_
  refine nw_ci hX (I := .iconst 0) (L := 1) (x := nI 0) (Or.inl ⟨0, rfl, rfl, rfl⟩) (by decide +kernel) ?_
  refine nw_put hX hin (idx := 38) (C := RX0) (T := TX0) (N := 9) rfl 8 (by decide) (gt_c1 107 (by decide +kernel) rfl) rfl rfl (ty := tyX0 8) (tyX0_ok 8 (by decide)) rfl rfl (Nat.le_of_ble_eq_true rfl) (by decide +kernel) ?_
  show NW E D A 1 _ 76 [(0, .ref h0)] [] [(h0, .inr (0, [.int (nI 0), .ref q12, .ref q21, .ref q30, .ref q39, .ref q48, .ref q57, .ref q66, .int (nI 0)])), (q12, .inl (cI, 64, .inl z0)), (q21, .inl (cI, 250, .inl z0)), (q30, .inl (cI, 250, .inl z0)), (q39, .inl (cI, 250, .inl z0)), (q48, .inl (cI, 250, .inl z0)), (q57, .inl (cI, 250, .inl z0)), (q66, .inl (cB, 250, .inl z0))] 7 1564
  exact nw_ret (wY := wX0 cI cB cO h0) hX hr hlk (fun i => [q12, q21, q30, q39, q48, q57, q66].getD i 0) (by decide +kernel)
def wX3 (cI cB cO : ClassId) (h : Nat) (q : Nat → Nat) : va_W := [(h, .inr (2, [.ref (q 0), .ref (q 1), .ref (q 2), .ref (q 3), .ref (q 4), .ref (q 5), .ref (q 6)])), (q 0, .inl (cI, 5, .inl z0)), (q 1, .inl (cI, 5, .inl z0)), (q 2, .inl (cI, 250, .inl z0)), (q 3, .inl (cI, 250, .inl z0)), (q 4, .inl (cI, 250, .inl z0)), (q 5, .inl (cI, 250, .inl z0)), (q 6, .inl (cB, 250, .inl z0))]
set_option maxRecDepth 20000 in
set_option maxHeartbeats 4000000 in
theorem k_X3 (l : Launch) (D : va_G) (cI cB cO : ClassId) (h0 sz : Nat) : KM l D cI cB cO (yX3_init, cX3_init, 1, none) 2 [.null, .null, .null, .null, .null, .null, .null] 0 7 1260 (fun h q => wX3 cI cB cO h q) h0 sz := by
  refine nw_in 3 (by decide +kernel) rfl rfl ?_
  intro E A hEl hX hin hE hr hlk
  have hEc : (Ero E).cells = 7 := by rw [hE]; rfl
  have hEs : (Ero E).slots = 1260 := by rw [hE]; rfl
  have hEf : (Ero E).frames = 1 := by rw [hE]; rfl
  have hEo : (Ero E).locals = 60 := by rw [hE]; rfl
  refine nw_al hX (by decide +kernel) ?_
  refine nw_obj hX (idx := 3) (gt_c1 67 (by decide +kernel) rfl) (gt_c1 21 (by decide +kernel) rfl) (gt_c1 22 (by decide +kernel) rfl) (by decide +kernel) (by rw [hEf]; exact Nat.le_of_ble_eq_true rfl) (by rw [hEo]; exact Nat.le_of_ble_eq_true rfl) ?_
  show NW E D A 1 _ 4 [(0, .ref h0)] [] [(h0, .inr (2, [.null, .null, .null, .null, .null, .null, .null]))] 0 0
  refine nw_al hX (by decide +kernel) ?_
  refine nw_ci hX (I := .iconst 5) (L := 1) (x := nI 5) (Or.inl ⟨5, rfl, rfl, rfl⟩) (by decide +kernel) ?_
  refine nw_newa hX false (N := 5) (by decide) (by decide +kernel) (gt_c1 55 (by decide +kernel) rfl) (gt_c1 91 (by decide +kernel) rfl) (by rw [hEc]; exact Nat.le_of_ble_eq_true rfl) (by rw [hEs]; exact Nat.le_of_ble_eq_true rfl) (fun q6 => ?_)
  show NW E D A 1 _ 8 [(0, .ref h0)] [.ref q6, .ref h0] [(h0, .inr (2, [.null, .null, .null, .null, .null, .null, .null])), (q6, .inl (cI, 5, .inl z0))] 1 5
  refine nw_put hX hin (idx := 9) (C := RX3) (T := TX3) (N := 7) rfl 0 (by decide) (gt_c1 68 (by decide +kernel) rfl) rfl rfl (ty := tyX3 0) (tyX3_ok 0 (by decide)) rfl rfl (Nat.le_of_ble_eq_true rfl) (by decide +kernel) ?_
  show NW E D A 1 _ 11 [(0, .ref h0)] [] [(h0, .inr (2, [.ref q6, .null, .null, .null, .null, .null, .null])), (q6, .inl (cI, 5, .inl z0))] 1 5
  refine nw_al hX (by decide +kernel) ?_
  refine nw_ci hX (I := .iconst 5) (L := 1) (x := nI 5) (Or.inl ⟨5, rfl, rfl, rfl⟩) (by decide +kernel) ?_
  refine nw_newa hX false (N := 5) (by decide) (by decide +kernel) (gt_c1 55 (by decide +kernel) rfl) (gt_c1 91 (by decide +kernel) rfl) (by rw [hEc]; exact Nat.le_of_ble_eq_true rfl) (by rw [hEs]; exact Nat.le_of_ble_eq_true rfl) (fun q13 => ?_)
  show NW E D A 1 _ 15 [(0, .ref h0)] [.ref q13, .ref h0] [(h0, .inr (2, [.ref q6, .null, .null, .null, .null, .null, .null])), (q6, .inl (cI, 5, .inl z0)), (q13, .inl (cI, 5, .inl z0))] 2 10
  refine nw_put hX hin (idx := 15) (C := RX3) (T := TX3) (N := 7) rfl 1 (by decide) (gt_c1 70 (by decide +kernel) rfl) rfl rfl (ty := tyX3 1) (tyX3_ok 1 (by decide)) rfl rfl (Nat.le_of_ble_eq_true rfl) (by decide +kernel) ?_
  show NW E D A 1 _ 18 [(0, .ref h0)] [] [(h0, .inr (2, [.ref q6, .ref q13, .null, .null, .null, .null, .null])), (q6, .inl (cI, 5, .inl z0)), (q13, .inl (cI, 5, .inl z0))] 2 10
  refine nw_al hX (by decide +kernel) ?_
  refine nw_ci hX (I := .sipush 250) (L := 3) (x := nI 250) (Or.inr (Or.inr ⟨250, rfl, rfl, rfl, by decide, by decide⟩)) (by decide +kernel) ?_
  refine nw_newa hX false (N := 250) (by decide) (by decide +kernel) (gt_c1 55 (by decide +kernel) rfl) (gt_c1 91 (by decide +kernel) rfl) (by rw [hEc]; exact Nat.le_of_ble_eq_true rfl) (by rw [hEs]; exact Nat.le_of_ble_eq_true rfl) (fun q22 => ?_)
  show NW E D A 1 _ 24 [(0, .ref h0)] [.ref q22, .ref h0] [(h0, .inr (2, [.ref q6, .ref q13, .null, .null, .null, .null, .null])), (q6, .inl (cI, 5, .inl z0)), (q13, .inl (cI, 5, .inl z0)), (q22, .inl (cI, 250, .inl z0))] 3 260
  refine nw_put hX hin (idx := 18) (C := RX3) (T := TX3) (N := 7) rfl 2 (by decide) (gt_c1 71 (by decide +kernel) rfl) rfl rfl (ty := tyX3 2) (tyX3_ok 2 (by decide)) rfl rfl (Nat.le_of_ble_eq_true rfl) (by decide +kernel) ?_
  show NW E D A 1 _ 27 [(0, .ref h0)] [] [(h0, .inr (2, [.ref q6, .ref q13, .ref q22, .null, .null, .null, .null])), (q6, .inl (cI, 5, .inl z0)), (q13, .inl (cI, 5, .inl z0)), (q22, .inl (cI, 250, .inl z0))] 3 260
  refine nw_al hX (by decide +kernel) ?_
  refine nw_ci hX (I := .sipush 250) (L := 3) (x := nI 250) (Or.inr (Or.inr ⟨250, rfl, rfl, rfl, by decide, by decide⟩)) (by decide +kernel) ?_
  refine nw_newa hX false (N := 250) (by decide) (by decide +kernel) (gt_c1 55 (by decide +kernel) rfl) (gt_c1 91 (by decide +kernel) rfl) (by rw [hEc]; exact Nat.le_of_ble_eq_true rfl) (by rw [hEs]; exact Nat.le_of_ble_eq_true rfl) (fun q31 => ?_)
  show NW E D A 1 _ 33 [(0, .ref h0)] [.ref q31, .ref h0] [(h0, .inr (2, [.ref q6, .ref q13, .ref q22, .null, .null, .null, .null])), (q6, .inl (cI, 5, .inl z0)), (q13, .inl (cI, 5, .inl z0)), (q22, .inl (cI, 250, .inl z0)), (q31, .inl (cI, 250, .inl z0))] 4 510
  refine nw_put hX hin (idx := 21) (C := RX3) (T := TX3) (N := 7) rfl 3 (by decide) (gt_c1 72 (by decide +kernel) rfl) rfl rfl (ty := tyX3 3) (tyX3_ok 3 (by decide)) rfl rfl (Nat.le_of_ble_eq_true rfl) (by decide +kernel) ?_
  show NW E D A 1 _ 36 [(0, .ref h0)] [] [(h0, .inr (2, [.ref q6, .ref q13, .ref q22, .ref q31, .null, .null, .null])), (q6, .inl (cI, 5, .inl z0)), (q13, .inl (cI, 5, .inl z0)), (q22, .inl (cI, 250, .inl z0)), (q31, .inl (cI, 250, .inl z0))] 4 510
  refine nw_al hX (by decide +kernel) ?_
  refine nw_ci hX (I := .sipush 250) (L := 3) (x := nI 250) (Or.inr (Or.inr ⟨250, rfl, rfl, rfl, by decide, by decide⟩)) (by decide +kernel) ?_
  refine nw_newa hX false (N := 250) (by decide) (by decide +kernel) (gt_c1 55 (by decide +kernel) rfl) (gt_c1 91 (by decide +kernel) rfl) (by rw [hEc]; exact Nat.le_of_ble_eq_true rfl) (by rw [hEs]; exact Nat.le_of_ble_eq_true rfl) (fun q40 => ?_)
  show NW E D A 1 _ 42 [(0, .ref h0)] [.ref q40, .ref h0] [(h0, .inr (2, [.ref q6, .ref q13, .ref q22, .ref q31, .null, .null, .null])), (q6, .inl (cI, 5, .inl z0)), (q13, .inl (cI, 5, .inl z0)), (q22, .inl (cI, 250, .inl z0)), (q31, .inl (cI, 250, .inl z0)), (q40, .inl (cI, 250, .inl z0))] 5 760
  refine nw_put hX hin (idx := 24) (C := RX3) (T := TX3) (N := 7) rfl 4 (by decide) (gt_c1 73 (by decide +kernel) rfl) rfl rfl (ty := tyX3 4) (tyX3_ok 4 (by decide)) rfl rfl (Nat.le_of_ble_eq_true rfl) (by decide +kernel) ?_
  show NW E D A 1 _ 45 [(0, .ref h0)] [] [(h0, .inr (2, [.ref q6, .ref q13, .ref q22, .ref q31, .ref q40, .null, .null])), (q6, .inl (cI, 5, .inl z0)), (q13, .inl (cI, 5, .inl z0)), (q22, .inl (cI, 250, .inl z0)), (q31, .inl (cI, 250, .inl z0)), (q40, .inl (cI, 250, .inl z0))] 5 760
  refine nw_al hX (by decide +kernel) ?_
  refine nw_ci hX (I := .sipush 250) (L := 3) (x := nI 250) (Or.inr (Or.inr ⟨250, rfl, rfl, rfl, by decide, by decide⟩)) (by decide +kernel) ?_
  refine nw_newa hX false (N := 250) (by decide) (by decide +kernel) (gt_c1 55 (by decide +kernel) rfl) (gt_c1 91 (by decide +kernel) rfl) (by rw [hEc]; exact Nat.le_of_ble_eq_true rfl) (by rw [hEs]; exact Nat.le_of_ble_eq_true rfl) (fun q49 => ?_)
  show NW E D A 1 _ 51 [(0, .ref h0)] [.ref q49, .ref h0] [(h0, .inr (2, [.ref q6, .ref q13, .ref q22, .ref q31, .ref q40, .null, .null])), (q6, .inl (cI, 5, .inl z0)), (q13, .inl (cI, 5, .inl z0)), (q22, .inl (cI, 250, .inl z0)), (q31, .inl (cI, 250, .inl z0)), (q40, .inl (cI, 250, .inl z0)), (q49, .inl (cI, 250, .inl z0))] 6 1010
  refine nw_put hX hin (idx := 27) (C := RX3) (T := TX3) (N := 7) rfl 5 (by decide) (gt_c1 74 (by decide +kernel) rfl) rfl rfl (ty := tyX3 5) (tyX3_ok 5 (by decide)) rfl rfl (Nat.le_of_ble_eq_true rfl) (by decide +kernel) ?_
  show NW E D A 1 _ 54 [(0, .ref h0)] [] [(h0, .inr (2, [.ref q6, .ref q13, .ref q22, .ref q31, .ref q40, .ref q49, .null])), (q6, .inl (cI, 5, .inl z0)), (q13, .inl (cI, 5, .inl z0)), (q22, .inl (cI, 250, .inl z0)), (q31, .inl (cI, 250, .inl z0)), (q40, .inl (cI, 250, .inl z0)), (q49, .inl (cI, 250, .inl z0))] 6 1010
  refine nw_al hX (by decide +kernel) ?_
  refine nw_ci hX (I := .sipush 250) (L := 3) (x := nI 250) (Or.inr (Or.inr ⟨250, rfl, rfl, rfl, by decide, by decide⟩)) (by decide +kernel) ?_
  refine nw_newa hX true (N := 250) (by decide) (by decide +kernel) (gt_c1 55 (by decide +kernel) rfl) (gt_c1 91 (by decide +kernel) rfl) (by rw [hEc]; exact Nat.le_of_ble_eq_true rfl) (by rw [hEs]; exact Nat.le_of_ble_eq_true rfl) (fun q58 => ?_)
  show NW E D A 1 _ 60 [(0, .ref h0)] [.ref q58, .ref h0] [(h0, .inr (2, [.ref q6, .ref q13, .ref q22, .ref q31, .ref q40, .ref q49, .null])), (q6, .inl (cI, 5, .inl z0)), (q13, .inl (cI, 5, .inl z0)), (q22, .inl (cI, 250, .inl z0)), (q31, .inl (cI, 250, .inl z0)), (q40, .inl (cI, 250, .inl z0)), (q49, .inl (cI, 250, .inl z0)), (q58, .inl (cB, 250, .inl z0))] 7 1260
  refine nw_put hX hin (idx := 30) (C := RX3) (T := TX3) (N := 7) rfl 6 (by decide) (gt_c1 75 (by decide +kernel) rfl) rfl rfl (ty := tyX3 6) (tyX3_ok 6 (by decide)) rfl rfl (Nat.le_of_ble_eq_true rfl) (by decide +kernel) ?_
  show NW E D A 1 _ 63 [(0, .ref h0)] [] [(h0, .inr (2, [.ref q6, .ref q13, .ref q22, .ref q31, .ref q40, .ref q49, .ref q58])), (q6, .inl (cI, 5, .inl z0)), (q13, .inl (cI, 5, .inl z0)), (q22, .inl (cI, 250, .inl z0)), (q31, .inl (cI, 250, .inl z0)), (q40, .inl (cI, 250, .inl z0)), (q49, .inl (cI, 250, .inl z0)), (q58, .inl (cB, 250, .inl z0))] 7 1260
  exact nw_ret (wY := wX3 cI cB cO h0) hX hr hlk (fun i => [q6, q13, q22, q31, q40, q49, q58].getD i 0) (by decide +kernel)
def wX4 (cI cB cO : ClassId) (h : Nat) (q : Nat → Nat) : va_W := [(h, .inr (3, [.ref (q 0), .ref (q 1), .ref (q 2)])), (q 0, .inl (cI, 160, .inl z0)), (q 1, .inl (cI, 4, .inl z0)), (q 2, .inl (cI, 4, .inl so0))]
set_option maxRecDepth 20000 in
set_option maxHeartbeats 4000000 in
theorem k_X4 (l : Launch) (D : va_G) (cI cB cO : ClassId) (h0 sz : Nat) : KM l D cI cB cO (yX4_init, cX4_init, 1, none) 3 [.null, .null, .null] 0 3 168 (fun h q => wX4 cI cB cO h q) h0 sz := by
  refine nw_in 4 (by decide +kernel) rfl rfl ?_
  intro E A hEl hX hin hE hr hlk
  have hEc : (Ero E).cells = 3 := by rw [hE]; rfl
  have hEs : (Ero E).slots = 168 := by rw [hE]; rfl
  have hEf : (Ero E).frames = 1 := by rw [hE]; rfl
  have hEo : (Ero E).locals = 60 := by rw [hE]; rfl
  refine nw_al hX (by decide +kernel) ?_
  refine nw_obj hX (idx := 3) (gt_c2 6 (by decide +kernel) rfl) (gt_c1 21 (by decide +kernel) rfl) (gt_c1 22 (by decide +kernel) rfl) (by decide +kernel) (by rw [hEf]; exact Nat.le_of_ble_eq_true rfl) (by rw [hEo]; exact Nat.le_of_ble_eq_true rfl) ?_
  show NW E D A 1 _ 4 [(0, .ref h0)] [] [(h0, .inr (3, [.null, .null, .null]))] 0 0
  refine nw_al hX (by decide +kernel) ?_
  refine nw_ci hX (I := .sipush 160) (L := 3) (x := nI 160) (Or.inr (Or.inr ⟨160, rfl, rfl, rfl, by decide, by decide⟩)) (by decide +kernel) ?_
  refine nw_newa hX false (N := 160) (by decide) (by decide +kernel) (gt_c1 55 (by decide +kernel) rfl) (gt_c1 91 (by decide +kernel) rfl) (by rw [hEc]; exact Nat.le_of_ble_eq_true rfl) (by rw [hEs]; exact Nat.le_of_ble_eq_true rfl) (fun q8 => ?_)
  show NW E D A 1 _ 10 [(0, .ref h0)] [.ref q8, .ref h0] [(h0, .inr (3, [.null, .null, .null])), (q8, .inl (cI, 160, .inl z0))] 1 160
  refine nw_put hX hin (idx := 9) (C := RX4) (T := TX4) (N := 3) rfl 0 (by decide) (gt_c2 7 (by decide +kernel) rfl) rfl rfl (ty := tyX4 0) (tyX4_ok 0 (by decide)) rfl rfl (Nat.le_of_ble_eq_true rfl) (by decide +kernel) ?_
  show NW E D A 1 _ 13 [(0, .ref h0)] [] [(h0, .inr (3, [.ref q8, .null, .null])), (q8, .inl (cI, 160, .inl z0))] 1 160
  refine nw_al hX (by decide +kernel) ?_
  refine nw_ci hX (I := .iconst 4) (L := 1) (x := nI 4) (Or.inl ⟨4, rfl, rfl, rfl⟩) (by decide +kernel) ?_
  refine nw_newa hX false (N := 4) (by decide) (by decide +kernel) (gt_c1 55 (by decide +kernel) rfl) (gt_c1 91 (by decide +kernel) rfl) (by rw [hEc]; exact Nat.le_of_ble_eq_true rfl) (by rw [hEs]; exact Nat.le_of_ble_eq_true rfl) (fun q15 => ?_)
  show NW E D A 1 _ 17 [(0, .ref h0)] [.ref q15, .ref h0] [(h0, .inr (3, [.ref q8, .null, .null])), (q8, .inl (cI, 160, .inl z0)), (q15, .inl (cI, 4, .inl z0))] 2 164
  refine nw_put hX hin (idx := 15) (C := RX4) (T := TX4) (N := 3) rfl 1 (by decide) (gt_c2 8 (by decide +kernel) rfl) rfl rfl (ty := tyX4 1) (tyX4_ok 1 (by decide)) rfl rfl (Nat.le_of_ble_eq_true rfl) (by decide +kernel) ?_
  show NW E D A 1 _ 20 [(0, .ref h0)] [] [(h0, .inr (3, [.ref q8, .ref q15, .null])), (q8, .inl (cI, 160, .inl z0)), (q15, .inl (cI, 4, .inl z0))] 2 164
  refine nw_al hX (by decide +kernel) ?_
  refine nw_ci hX (I := .iconst 4) (L := 1) (x := nI 4) (Or.inl ⟨4, rfl, rfl, rfl⟩) (by decide +kernel) ?_
  refine nw_newa hX false (N := 4) (by decide) (by decide +kernel) (gt_c1 55 (by decide +kernel) rfl) (gt_c1 91 (by decide +kernel) rfl) (by rw [hEc]; exact Nat.le_of_ble_eq_true rfl) (by rw [hEs]; exact Nat.le_of_ble_eq_true rfl) (fun q22 => ?_)
  show NW E D A 1 _ 24 [(0, .ref h0)] [.ref q22, .ref h0] [(h0, .inr (3, [.ref q8, .ref q15, .null])), (q8, .inl (cI, 160, .inl z0)), (q15, .inl (cI, 4, .inl z0)), (q22, .inl (cI, 4, .inl z0))] 3 168
  refine nw_dup hX (by decide +kernel) ?_
  refine nw_ci hX (I := .iconst 0) (L := 1) (x := nI 0) (Or.inl ⟨0, rfl, rfl, rfl⟩) (by decide +kernel) ?_
  refine nw_ci hX (I := .iconst (-1)) (L := 1) (x := -(nI 1)) (Or.inl ⟨(-1), rfl, rfl, rfl⟩) (by decide +kernel) ?_
  refine nw_iast hX 3 rfl (vp_in_nI (by decide) (by decide)) (by decide +kernel) ?_
  show NW E D A 1 _ 28 [(0, .ref h0)] [.ref q22, .ref h0] [(h0, .inr (3, [.ref q8, .ref q15, .null])), (q8, .inl (cI, 160, .inl z0)), (q15, .inl (cI, 4, .inl z0)), (q22, .inl (cI, 4, .inl (upd z0 (nI 0).toNatClampNeg (-(nI 1)))))] 3 168
  refine nw_dup hX (by decide +kernel) ?_
  refine nw_ci hX (I := .iconst 1) (L := 1) (x := nI 1) (Or.inl ⟨1, rfl, rfl, rfl⟩) (by decide +kernel) ?_
  refine nw_ci hX (I := .iconst (-1)) (L := 1) (x := -(nI 1)) (Or.inl ⟨(-1), rfl, rfl, rfl⟩) (by decide +kernel) ?_
  refine nw_iast hX 3 rfl (vp_in_nI (by decide) (by decide)) (by decide +kernel) ?_
  show NW E D A 1 _ 32 [(0, .ref h0)] [.ref q22, .ref h0] [(h0, .inr (3, [.ref q8, .ref q15, .null])), (q8, .inl (cI, 160, .inl z0)), (q15, .inl (cI, 4, .inl z0)), (q22, .inl (cI, 4, .inl (upd (upd z0 (nI 0).toNatClampNeg (-(nI 1))) (nI 1).toNatClampNeg (-(nI 1)))))] 3 168
  refine nw_dup hX (by decide +kernel) ?_
  refine nw_ci hX (I := .iconst 2) (L := 1) (x := nI 2) (Or.inl ⟨2, rfl, rfl, rfl⟩) (by decide +kernel) ?_
  refine nw_ci hX (I := .iconst (-1)) (L := 1) (x := -(nI 1)) (Or.inl ⟨(-1), rfl, rfl, rfl⟩) (by decide +kernel) ?_
  refine nw_iast hX 3 rfl (vp_in_nI (by decide) (by decide)) (by decide +kernel) ?_
  show NW E D A 1 _ 36 [(0, .ref h0)] [.ref q22, .ref h0] [(h0, .inr (3, [.ref q8, .ref q15, .null])), (q8, .inl (cI, 160, .inl z0)), (q15, .inl (cI, 4, .inl z0)), (q22, .inl (cI, 4, .inl (upd (upd (upd z0 (nI 0).toNatClampNeg (-(nI 1))) (nI 1).toNatClampNeg (-(nI 1))) (nI 2).toNatClampNeg (-(nI 1)))))] 3 168
  refine nw_dup hX (by decide +kernel) ?_
  refine nw_ci hX (I := .iconst 3) (L := 1) (x := nI 3) (Or.inl ⟨3, rfl, rfl, rfl⟩) (by decide +kernel) ?_
  refine nw_ci hX (I := .iconst (-1)) (L := 1) (x := -(nI 1)) (Or.inl ⟨(-1), rfl, rfl, rfl⟩) (by decide +kernel) ?_
  refine nw_iast hX 3 rfl (vp_in_nI (by decide) (by decide)) (by decide +kernel) ?_
  show NW E D A 1 _ 40 [(0, .ref h0)] [.ref q22, .ref h0] [(h0, .inr (3, [.ref q8, .ref q15, .null])), (q8, .inl (cI, 160, .inl z0)), (q15, .inl (cI, 4, .inl z0)), (q22, .inl (cI, 4, .inl (upd (upd (upd (upd z0 (nI 0).toNatClampNeg (-(nI 1))) (nI 1).toNatClampNeg (-(nI 1))) (nI 2).toNatClampNeg (-(nI 1))) (nI 3).toNatClampNeg (-(nI 1)))))] 3 168
  refine nw_put hX hin (idx := 18) (C := RX4) (T := TX4) (N := 3) rfl 2 (by decide) (gt_c2 9 (by decide +kernel) rfl) rfl rfl (ty := tyX4 2) (tyX4_ok 2 (by decide)) rfl rfl (Nat.le_of_ble_eq_true rfl) (by decide +kernel) ?_
  show NW E D A 1 _ 43 [(0, .ref h0)] [] [(h0, .inr (3, [.ref q8, .ref q15, .ref q22])), (q8, .inl (cI, 160, .inl z0)), (q15, .inl (cI, 4, .inl z0)), (q22, .inl (cI, 4, .inl (upd (upd (upd (upd z0 (nI 0).toNatClampNeg (-(nI 1))) (nI 1).toNatClampNeg (-(nI 1))) (nI 2).toNatClampNeg (-(nI 1))) (nI 3).toNatClampNeg (-(nI 1)))))] 3 168
  exact nw_ret (wY := wX4 cI cB cO h0) hX hr hlk (fun i => [q8, q15, q22].getD i 0) (by decide +kernel)
def wX5 (cI cB cO : ClassId) (h : Nat) (q : Nat → Nat) : va_W := [(h, .inr (4, [.ref (q 0), .ref (q 1), .ref (q 2), .ref (q 3), .ref (q 4), .ref (q 5)])), (q 0, .inl (cI, 250, .inl z0)), (q 1, .inl (cI, 5, .inl z0)), (q 2, .inl (cI, 5, .inl z0)), (q 3, .inl (cI, 5, .inl z0)), (q 4, .inl (cI, 6, .inl rl0)), (q 5, .inl (cI, 50, .inl z0))]
set_option maxRecDepth 20000 in
set_option maxHeartbeats 4000000 in
theorem k_X5 (l : Launch) (D : va_G) (cI cB cO : ClassId) (h0 sz : Nat) : KM l D cI cB cO (yX5_init, cX5_init, 1, none) 4 [.null, .null, .null, .null, .null, .null] 0 6 321 (fun h q => wX5 cI cB cO h q) h0 sz := by
  refine nw_in 5 (by decide +kernel) rfl rfl ?_
  intro E A hEl hX hin hE hr hlk
  have hEc : (Ero E).cells = 6 := by rw [hE]; rfl
  have hEs : (Ero E).slots = 321 := by rw [hE]; rfl
  have hEf : (Ero E).frames = 1 := by rw [hE]; rfl
  have hEo : (Ero E).locals = 60 := by rw [hE]; rfl
  refine nw_al hX (by decide +kernel) ?_
  refine nw_obj hX (idx := 3) (gt_c1 28 (by decide +kernel) rfl) (gt_c1 21 (by decide +kernel) rfl) (gt_c1 22 (by decide +kernel) rfl) (by decide +kernel) (by rw [hEf]; exact Nat.le_of_ble_eq_true rfl) (by rw [hEo]; exact Nat.le_of_ble_eq_true rfl) ?_
  show NW E D A 1 _ 4 [(0, .ref h0)] [] [(h0, .inr (4, [.null, .null, .null, .null, .null, .null]))] 0 0
  refine nw_al hX (by decide +kernel) ?_
  refine nw_ci hX (I := .sipush 250) (L := 3) (x := nI 250) (Or.inr (Or.inr ⟨250, rfl, rfl, rfl, by decide, by decide⟩)) (by decide +kernel) ?_
  refine nw_newa hX false (N := 250) (by decide) (by decide +kernel) (gt_c1 55 (by decide +kernel) rfl) (gt_c1 91 (by decide +kernel) rfl) (by rw [hEc]; exact Nat.le_of_ble_eq_true rfl) (by rw [hEs]; exact Nat.le_of_ble_eq_true rfl) (fun q8 => ?_)
  show NW E D A 1 _ 10 [(0, .ref h0)] [.ref q8, .ref h0] [(h0, .inr (4, [.null, .null, .null, .null, .null, .null])), (q8, .inl (cI, 250, .inl z0))] 1 250
  refine nw_put hX hin (idx := 9) (C := RX5) (T := TX5) (N := 6) rfl 0 (by decide) (gt_c1 29 (by decide +kernel) rfl) rfl rfl (ty := tyX5 0) (tyX5_ok 0 (by decide)) rfl rfl (Nat.le_of_ble_eq_true rfl) (by decide +kernel) ?_
  show NW E D A 1 _ 13 [(0, .ref h0)] [] [(h0, .inr (4, [.ref q8, .null, .null, .null, .null, .null])), (q8, .inl (cI, 250, .inl z0))] 1 250
  refine nw_al hX (by decide +kernel) ?_
  refine nw_ci hX (I := .iconst 5) (L := 1) (x := nI 5) (Or.inl ⟨5, rfl, rfl, rfl⟩) (by decide +kernel) ?_
  refine nw_newa hX false (N := 5) (by decide) (by decide +kernel) (gt_c1 55 (by decide +kernel) rfl) (gt_c1 91 (by decide +kernel) rfl) (by rw [hEc]; exact Nat.le_of_ble_eq_true rfl) (by rw [hEs]; exact Nat.le_of_ble_eq_true rfl) (fun q15 => ?_)
  show NW E D A 1 _ 17 [(0, .ref h0)] [.ref q15, .ref h0] [(h0, .inr (4, [.ref q8, .null, .null, .null, .null, .null])), (q8, .inl (cI, 250, .inl z0)), (q15, .inl (cI, 5, .inl z0))] 2 255
  refine nw_put hX hin (idx := 15) (C := RX5) (T := TX5) (N := 6) rfl 1 (by decide) (gt_c1 30 (by decide +kernel) rfl) rfl rfl (ty := tyX5 1) (tyX5_ok 1 (by decide)) rfl rfl (Nat.le_of_ble_eq_true rfl) (by decide +kernel) ?_
  show NW E D A 1 _ 20 [(0, .ref h0)] [] [(h0, .inr (4, [.ref q8, .ref q15, .null, .null, .null, .null])), (q8, .inl (cI, 250, .inl z0)), (q15, .inl (cI, 5, .inl z0))] 2 255
  refine nw_al hX (by decide +kernel) ?_
  refine nw_ci hX (I := .iconst 5) (L := 1) (x := nI 5) (Or.inl ⟨5, rfl, rfl, rfl⟩) (by decide +kernel) ?_
  refine nw_newa hX false (N := 5) (by decide) (by decide +kernel) (gt_c1 55 (by decide +kernel) rfl) (gt_c1 91 (by decide +kernel) rfl) (by rw [hEc]; exact Nat.le_of_ble_eq_true rfl) (by rw [hEs]; exact Nat.le_of_ble_eq_true rfl) (fun q22 => ?_)
  show NW E D A 1 _ 24 [(0, .ref h0)] [.ref q22, .ref h0] [(h0, .inr (4, [.ref q8, .ref q15, .null, .null, .null, .null])), (q8, .inl (cI, 250, .inl z0)), (q15, .inl (cI, 5, .inl z0)), (q22, .inl (cI, 5, .inl z0))] 3 260
  refine nw_put hX hin (idx := 18) (C := RX5) (T := TX5) (N := 6) rfl 2 (by decide) (gt_c1 32 (by decide +kernel) rfl) rfl rfl (ty := tyX5 2) (tyX5_ok 2 (by decide)) rfl rfl (Nat.le_of_ble_eq_true rfl) (by decide +kernel) ?_
  show NW E D A 1 _ 27 [(0, .ref h0)] [] [(h0, .inr (4, [.ref q8, .ref q15, .ref q22, .null, .null, .null])), (q8, .inl (cI, 250, .inl z0)), (q15, .inl (cI, 5, .inl z0)), (q22, .inl (cI, 5, .inl z0))] 3 260
  refine nw_al hX (by decide +kernel) ?_
  refine nw_ci hX (I := .iconst 5) (L := 1) (x := nI 5) (Or.inl ⟨5, rfl, rfl, rfl⟩) (by decide +kernel) ?_
  refine nw_newa hX false (N := 5) (by decide) (by decide +kernel) (gt_c1 55 (by decide +kernel) rfl) (gt_c1 91 (by decide +kernel) rfl) (by rw [hEc]; exact Nat.le_of_ble_eq_true rfl) (by rw [hEs]; exact Nat.le_of_ble_eq_true rfl) (fun q29 => ?_)
  show NW E D A 1 _ 31 [(0, .ref h0)] [.ref q29, .ref h0] [(h0, .inr (4, [.ref q8, .ref q15, .ref q22, .null, .null, .null])), (q8, .inl (cI, 250, .inl z0)), (q15, .inl (cI, 5, .inl z0)), (q22, .inl (cI, 5, .inl z0)), (q29, .inl (cI, 5, .inl z0))] 4 265
  refine nw_put hX hin (idx := 21) (C := RX5) (T := TX5) (N := 6) rfl 3 (by decide) (gt_c1 35 (by decide +kernel) rfl) rfl rfl (ty := tyX5 3) (tyX5_ok 3 (by decide)) rfl rfl (Nat.le_of_ble_eq_true rfl) (by decide +kernel) ?_
  show NW E D A 1 _ 34 [(0, .ref h0)] [] [(h0, .inr (4, [.ref q8, .ref q15, .ref q22, .ref q29, .null, .null])), (q8, .inl (cI, 250, .inl z0)), (q15, .inl (cI, 5, .inl z0)), (q22, .inl (cI, 5, .inl z0)), (q29, .inl (cI, 5, .inl z0))] 4 265
  refine nw_al hX (by decide +kernel) ?_
  refine nw_ci hX (I := .bipush 6) (L := 2) (x := nI 6) (Or.inr (Or.inl ⟨6, rfl, rfl, rfl, by decide, by decide⟩)) (by decide +kernel) ?_
  refine nw_newa hX false (N := 6) (by decide) (by decide +kernel) (gt_c1 55 (by decide +kernel) rfl) (gt_c1 91 (by decide +kernel) rfl) (by rw [hEc]; exact Nat.le_of_ble_eq_true rfl) (by rw [hEs]; exact Nat.le_of_ble_eq_true rfl) (fun q37 => ?_)
  show NW E D A 1 _ 39 [(0, .ref h0)] [.ref q37, .ref h0] [(h0, .inr (4, [.ref q8, .ref q15, .ref q22, .ref q29, .null, .null])), (q8, .inl (cI, 250, .inl z0)), (q15, .inl (cI, 5, .inl z0)), (q22, .inl (cI, 5, .inl z0)), (q29, .inl (cI, 5, .inl z0)), (q37, .inl (cI, 6, .inl z0))] 5 271
  refine nw_dup hX (by decide +kernel) ?_
  refine nw_ci hX (I := .iconst 0) (L := 1) (x := nI 0) (Or.inl ⟨0, rfl, rfl, rfl⟩) (by decide +kernel) ?_
  refine nw_ci hX (I := .iconst 3) (L := 1) (x := nI 3) (Or.inl ⟨3, rfl, rfl, rfl⟩) (by decide +kernel) ?_
  refine nw_iast hX 5 rfl (vp_in_nI (by decide) (by decide)) (by decide +kernel) ?_
  show NW E D A 1 _ 43 [(0, .ref h0)] [.ref q37, .ref h0] [(h0, .inr (4, [.ref q8, .ref q15, .ref q22, .ref q29, .null, .null])), (q8, .inl (cI, 250, .inl z0)), (q15, .inl (cI, 5, .inl z0)), (q22, .inl (cI, 5, .inl z0)), (q29, .inl (cI, 5, .inl z0)), (q37, .inl (cI, 6, .inl (upd z0 (nI 0).toNatClampNeg (nI 3))))] 5 271
  refine nw_dup hX (by decide +kernel) ?_
  refine nw_ci hX (I := .iconst 1) (L := 1) (x := nI 1) (Or.inl ⟨1, rfl, rfl, rfl⟩) (by decide +kernel) ?_
  refine nw_ci hX (I := .iconst 2) (L := 1) (x := nI 2) (Or.inl ⟨2, rfl, rfl, rfl⟩) (by decide +kernel) ?_
  refine nw_iast hX 5 rfl (vp_in_nI (by decide) (by decide)) (by decide +kernel) ?_
  show NW E D A 1 _ 47 [(0, .ref h0)] [.ref q37, .ref h0] [(h0, .inr (4, [.ref q8, .ref q15, .ref q22, .ref q29, .null, .null])), (q8, .inl (cI, 250, .inl z0)), (q15, .inl (cI, 5, .inl z0)), (q22, .inl (cI, 5, .inl z0)), (q29, .inl (cI, 5, .inl z0)), (q37, .inl (cI, 6, .inl (upd (upd z0 (nI 0).toNatClampNeg (nI 3)) (nI 1).toNatClampNeg (nI 2))))] 5 271
  refine nw_dup hX (by decide +kernel) ?_
  refine nw_ci hX (I := .iconst 2) (L := 1) (x := nI 2) (Or.inl ⟨2, rfl, rfl, rfl⟩) (by decide +kernel) ?_
  refine nw_ci hX (I := .bipush 6) (L := 2) (x := nI 6) (Or.inr (Or.inl ⟨6, rfl, rfl, rfl, by decide, by decide⟩)) (by decide +kernel) ?_
  refine nw_iast hX 5 rfl (vp_in_nI (by decide) (by decide)) (by decide +kernel) ?_
  show NW E D A 1 _ 52 [(0, .ref h0)] [.ref q37, .ref h0] [(h0, .inr (4, [.ref q8, .ref q15, .ref q22, .ref q29, .null, .null])), (q8, .inl (cI, 250, .inl z0)), (q15, .inl (cI, 5, .inl z0)), (q22, .inl (cI, 5, .inl z0)), (q29, .inl (cI, 5, .inl z0)), (q37, .inl (cI, 6, .inl (upd (upd (upd z0 (nI 0).toNatClampNeg (nI 3)) (nI 1).toNatClampNeg (nI 2)) (nI 2).toNatClampNeg (nI 6))))] 5 271
  refine nw_dup hX (by decide +kernel) ?_
  refine nw_ci hX (I := .iconst 3) (L := 1) (x := nI 3) (Or.inl ⟨3, rfl, rfl, rfl⟩) (by decide +kernel) ?_
  refine nw_ci hX (I := .iconst (-1)) (L := 1) (x := -(nI 1)) (Or.inl ⟨(-1), rfl, rfl, rfl⟩) (by decide +kernel) ?_
  refine nw_iast hX 5 rfl (vp_in_nI (by decide) (by decide)) (by decide +kernel) ?_
  show NW E D A 1 _ 56 [(0, .ref h0)] [.ref q37, .ref h0] [(h0, .inr (4, [.ref q8, .ref q15, .ref q22, .ref q29, .null, .null])), (q8, .inl (cI, 250, .inl z0)), (q15, .inl (cI, 5, .inl z0)), (q22, .inl (cI, 5, .inl z0)), (q29, .inl (cI, 5, .inl z0)), (q37, .inl (cI, 6, .inl (upd (upd (upd (upd z0 (nI 0).toNatClampNeg (nI 3)) (nI 1).toNatClampNeg (nI 2)) (nI 2).toNatClampNeg (nI 6)) (nI 3).toNatClampNeg (-(nI 1)))))] 5 271
  refine nw_dup hX (by decide +kernel) ?_
  refine nw_ci hX (I := .iconst 4) (L := 1) (x := nI 4) (Or.inl ⟨4, rfl, rfl, rfl⟩) (by decide +kernel) ?_
  refine nw_ci hX (I := .iconst 4) (L := 1) (x := nI 4) (Or.inl ⟨4, rfl, rfl, rfl⟩) (by decide +kernel) ?_
  refine nw_iast hX 5 rfl (vp_in_nI (by decide) (by decide)) (by decide +kernel) ?_
  show NW E D A 1 _ 60 [(0, .ref h0)] [.ref q37, .ref h0] [(h0, .inr (4, [.ref q8, .ref q15, .ref q22, .ref q29, .null, .null])), (q8, .inl (cI, 250, .inl z0)), (q15, .inl (cI, 5, .inl z0)), (q22, .inl (cI, 5, .inl z0)), (q29, .inl (cI, 5, .inl z0)), (q37, .inl (cI, 6, .inl (upd (upd (upd (upd (upd z0 (nI 0).toNatClampNeg (nI 3)) (nI 1).toNatClampNeg (nI 2)) (nI 2).toNatClampNeg (nI 6)) (nI 3).toNatClampNeg (-(nI 1))) (nI 4).toNatClampNeg (nI 4))))] 5 271
  refine nw_dup hX (by decide +kernel) ?_
  refine nw_ci hX (I := .iconst 5) (L := 1) (x := nI 5) (Or.inl ⟨5, rfl, rfl, rfl⟩) (by decide +kernel) ?_
  refine nw_ci hX (I := .bipush 50) (L := 2) (x := nI 50) (Or.inr (Or.inl ⟨50, rfl, rfl, rfl, by decide, by decide⟩)) (by decide +kernel) ?_
  refine nw_iast hX 5 rfl (vp_in_nI (by decide) (by decide)) (by decide +kernel) ?_
  show NW E D A 1 _ 65 [(0, .ref h0)] [.ref q37, .ref h0] [(h0, .inr (4, [.ref q8, .ref q15, .ref q22, .ref q29, .null, .null])), (q8, .inl (cI, 250, .inl z0)), (q15, .inl (cI, 5, .inl z0)), (q22, .inl (cI, 5, .inl z0)), (q29, .inl (cI, 5, .inl z0)), (q37, .inl (cI, 6, .inl (upd (upd (upd (upd (upd (upd z0 (nI 0).toNatClampNeg (nI 3)) (nI 1).toNatClampNeg (nI 2)) (nI 2).toNatClampNeg (nI 6)) (nI 3).toNatClampNeg (-(nI 1))) (nI 4).toNatClampNeg (nI 4)) (nI 5).toNatClampNeg (nI 50))))] 5 271
  refine nw_put hX hin (idx := 24) (C := RX5) (T := TX5) (N := 6) rfl 4 (by decide) (gt_c1 38 (by decide +kernel) rfl) rfl rfl (ty := tyX5 4) (tyX5_ok 4 (by decide)) rfl rfl (Nat.le_of_ble_eq_true rfl) (by decide +kernel) ?_
  show NW E D A 1 _ 68 [(0, .ref h0)] [] [(h0, .inr (4, [.ref q8, .ref q15, .ref q22, .ref q29, .ref q37, .null])), (q8, .inl (cI, 250, .inl z0)), (q15, .inl (cI, 5, .inl z0)), (q22, .inl (cI, 5, .inl z0)), (q29, .inl (cI, 5, .inl z0)), (q37, .inl (cI, 6, .inl (upd (upd (upd (upd (upd (upd z0 (nI 0).toNatClampNeg (nI 3)) (nI 1).toNatClampNeg (nI 2)) (nI 2).toNatClampNeg (nI 6)) (nI 3).toNatClampNeg (-(nI 1))) (nI 4).toNatClampNeg (nI 4)) (nI 5).toNatClampNeg (nI 50))))] 5 271
  refine nw_al hX (by decide +kernel) ?_
  refine nw_ci hX (I := .bipush 50) (L := 2) (x := nI 50) (Or.inr (Or.inl ⟨50, rfl, rfl, rfl, by decide, by decide⟩)) (by decide +kernel) ?_
  refine nw_newa hX false (N := 50) (by decide) (by decide +kernel) (gt_c1 55 (by decide +kernel) rfl) (gt_c1 91 (by decide +kernel) rfl) (by rw [hEc]; exact Nat.le_of_ble_eq_true rfl) (by rw [hEs]; exact Nat.le_of_ble_eq_true rfl) (fun q71 => ?_)
  show NW E D A 1 _ 73 [(0, .ref h0)] [.ref q71, .ref h0] [(h0, .inr (4, [.ref q8, .ref q15, .ref q22, .ref q29, .ref q37, .null])), (q8, .inl (cI, 250, .inl z0)), (q15, .inl (cI, 5, .inl z0)), (q22, .inl (cI, 5, .inl z0)), (q29, .inl (cI, 5, .inl z0)), (q37, .inl (cI, 6, .inl (upd (upd (upd (upd (upd (upd z0 (nI 0).toNatClampNeg (nI 3)) (nI 1).toNatClampNeg (nI 2)) (nI 2).toNatClampNeg (nI 6)) (nI 3).toNatClampNeg (-(nI 1))) (nI 4).toNatClampNeg (nI 4)) (nI 5).toNatClampNeg (nI 50)))), (q71, .inl (cI, 50, .inl z0))] 6 321
  refine nw_put hX hin (idx := 27) (C := RX5) (T := TX5) (N := 6) rfl 5 (by decide) (gt_c1 41 (by decide +kernel) rfl) rfl rfl (ty := tyX5 5) (tyX5_ok 5 (by decide)) rfl rfl (Nat.le_of_ble_eq_true rfl) (by decide +kernel) ?_
  show NW E D A 1 _ 76 [(0, .ref h0)] [] [(h0, .inr (4, [.ref q8, .ref q15, .ref q22, .ref q29, .ref q37, .ref q71])), (q8, .inl (cI, 250, .inl z0)), (q15, .inl (cI, 5, .inl z0)), (q22, .inl (cI, 5, .inl z0)), (q29, .inl (cI, 5, .inl z0)), (q37, .inl (cI, 6, .inl (upd (upd (upd (upd (upd (upd z0 (nI 0).toNatClampNeg (nI 3)) (nI 1).toNatClampNeg (nI 2)) (nI 2).toNatClampNeg (nI 6)) (nI 3).toNatClampNeg (-(nI 1))) (nI 4).toNatClampNeg (nI 4)) (nI 5).toNatClampNeg (nI 50)))), (q71, .inl (cI, 50, .inl z0))] 6 321
  exact nw_ret (wY := wX5 cI cB cO h0) hX hr hlk (fun i => [q8, q15, q22, q29, q37, q71].getD i 0) (by decide +kernel)
def wX7 (cI cB cO : ClassId) (h : Nat) (q : Nat → Nat) : va_W := [(h, .inr (6, [.int (nI 0), .int (nI 0), .int (nI 0), .ref (q 0), .ref (q 1), .ref (q 2), .ref (q 3), .ref (q 4), .ref (q 5)])), (q 0, .inl (cI, 50, .inl z0)), (q 1, .inl (cI, 50, .inl z0)), (q 2, .inl (cI, 50, .inl z0)), (q 3, .inl (cI, 50, .inl z0)), (q 4, .inl (cI, 50, .inl z0)), (q 5, .inl (cI, 5, .inl z0))]
set_option maxRecDepth 20000 in
set_option maxHeartbeats 4000000 in
theorem k_X7 (l : Launch) (D : va_G) (cI cB cO : ClassId) (h0 sz : Nat) : KM l D cI cB cO (yX7_init, cX7_init, 1, none) 6 [.int 0, .int 0, .int 0, .null, .null, .null, .null, .null, .null] 0 6 255 (fun h q => wX7 cI cB cO h q) h0 sz := by
  refine nw_in 7 (by decide +kernel) rfl rfl ?_
  intro E A hEl hX hin hE hr hlk
  have hEc : (Ero E).cells = 6 := by rw [hE]; rfl
  have hEs : (Ero E).slots = 255 := by rw [hE]; rfl
  have hEf : (Ero E).frames = 1 := by rw [hE]; rfl
  have hEo : (Ero E).locals = 60 := by rw [hE]; rfl
  refine nw_al hX (by decide +kernel) ?_
  refine nw_obj hX (idx := 3) (gt_c1 190 (by decide +kernel) rfl) (gt_c1 21 (by decide +kernel) rfl) (gt_c1 22 (by decide +kernel) rfl) (by decide +kernel) (by rw [hEf]; exact Nat.le_of_ble_eq_true rfl) (by rw [hEo]; exact Nat.le_of_ble_eq_true rfl) ?_
  show NW E D A 1 _ 4 [(0, .ref h0)] [] [(h0, .inr (6, [.int 0, .int 0, .int 0, .null, .null, .null, .null, .null, .null]))] 0 0
  refine nw_al hX (by decide +kernel) ?_
  refine nw_ci hX (I := .iconst 0) (L := 1) (x := nI 0) (Or.inl ⟨0, rfl, rfl, rfl⟩) (by decide +kernel) ?_
  refine nw_put hX hin (idx := 9) (C := RX7) (T := TX7) (N := 9) rfl 0 (by decide) (gt_c1 191 (by decide +kernel) rfl) rfl rfl (ty := tyX7 0) (tyX7_ok 0 (by decide)) rfl rfl (Nat.le_of_ble_eq_true rfl) (by decide +kernel) ?_
  show NW E D A 1 _ 9 [(0, .ref h0)] [] [(h0, .inr (6, [.int (nI 0), .int 0, .int 0, .null, .null, .null, .null, .null, .null]))] 0 0
  refine nw_al hX (by decide +kernel) ?_
  refine nw_ci hX (I := .iconst 0) (L := 1) (x := nI 0) (Or.inl ⟨0, rfl, rfl, rfl⟩) (by decide +kernel) ?_
  refine nw_put hX hin (idx := 15) (C := RX7) (T := TX7) (N := 9) rfl 1 (by decide) (gt_c1 193 (by decide +kernel) rfl) rfl rfl (ty := tyX7 1) (tyX7_ok 1 (by decide)) rfl rfl (Nat.le_of_ble_eq_true rfl) (by decide +kernel) ?_
  show NW E D A 1 _ 14 [(0, .ref h0)] [] [(h0, .inr (6, [.int (nI 0), .int (nI 0), .int 0, .null, .null, .null, .null, .null, .null]))] 0 0
  refine nw_al hX (by decide +kernel) ?_
  refine nw_ci hX (I := .iconst 0) (L := 1) (x := nI 0) (Or.inl ⟨0, rfl, rfl, rfl⟩) (by decide +kernel) ?_
  refine nw_put hX hin (idx := 18) (C := RX7) (T := TX7) (N := 9) rfl 2 (by decide) (gt_c1 195 (by decide +kernel) rfl) rfl rfl (ty := tyX7 2) (tyX7_ok 2 (by decide)) rfl rfl (Nat.le_of_ble_eq_true rfl) (by decide +kernel) ?_
  show NW E D A 1 _ 19 [(0, .ref h0)] [] [(h0, .inr (6, [.int (nI 0), .int (nI 0), .int (nI 0), .null, .null, .null, .null, .null, .null]))] 0 0
  refine nw_al hX (by decide +kernel) ?_
  refine nw_ci hX (I := .bipush 50) (L := 2) (x := nI 50) (Or.inr (Or.inl ⟨50, rfl, rfl, rfl, by decide, by decide⟩)) (by decide +kernel) ?_
  refine nw_newa hX false (N := 50) (by decide) (by decide +kernel) (gt_c1 55 (by decide +kernel) rfl) (gt_c1 91 (by decide +kernel) rfl) (by rw [hEc]; exact Nat.le_of_ble_eq_true rfl) (by rw [hEs]; exact Nat.le_of_ble_eq_true rfl) (fun q22 => ?_)
  show NW E D A 1 _ 24 [(0, .ref h0)] [.ref q22, .ref h0] [(h0, .inr (6, [.int (nI 0), .int (nI 0), .int (nI 0), .null, .null, .null, .null, .null, .null])), (q22, .inl (cI, 50, .inl z0))] 1 50
  refine nw_put hX hin (idx := 21) (C := RX7) (T := TX7) (N := 9) rfl 3 (by decide) (gt_c1 196 (by decide +kernel) rfl) rfl rfl (ty := tyX7 3) (tyX7_ok 3 (by decide)) rfl rfl (Nat.le_of_ble_eq_true rfl) (by decide +kernel) ?_
  show NW E D A 1 _ 27 [(0, .ref h0)] [] [(h0, .inr (6, [.int (nI 0), .int (nI 0), .int (nI 0), .ref q22, .null, .null, .null, .null, .null])), (q22, .inl (cI, 50, .inl z0))] 1 50
  refine nw_al hX (by decide +kernel) ?_
  refine nw_ci hX (I := .bipush 50) (L := 2) (x := nI 50) (Or.inr (Or.inl ⟨50, rfl, rfl, rfl, by decide, by decide⟩)) (by decide +kernel) ?_
  refine nw_newa hX false (N := 50) (by decide) (by decide +kernel) (gt_c1 55 (by decide +kernel) rfl) (gt_c1 91 (by decide +kernel) rfl) (by rw [hEc]; exact Nat.le_of_ble_eq_true rfl) (by rw [hEs]; exact Nat.le_of_ble_eq_true rfl) (fun q30 => ?_)
  show NW E D A 1 _ 32 [(0, .ref h0)] [.ref q30, .ref h0] [(h0, .inr (6, [.int (nI 0), .int (nI 0), .int (nI 0), .ref q22, .null, .null, .null, .null, .null])), (q22, .inl (cI, 50, .inl z0)), (q30, .inl (cI, 50, .inl z0))] 2 100
  refine nw_put hX hin (idx := 25) (C := RX7) (T := TX7) (N := 9) rfl 4 (by decide) (gt_c1 197 (by decide +kernel) rfl) rfl rfl (ty := tyX7 4) (tyX7_ok 4 (by decide)) rfl rfl (Nat.le_of_ble_eq_true rfl) (by decide +kernel) ?_
  show NW E D A 1 _ 35 [(0, .ref h0)] [] [(h0, .inr (6, [.int (nI 0), .int (nI 0), .int (nI 0), .ref q22, .ref q30, .null, .null, .null, .null])), (q22, .inl (cI, 50, .inl z0)), (q30, .inl (cI, 50, .inl z0))] 2 100
  refine nw_al hX (by decide +kernel) ?_
  refine nw_ci hX (I := .bipush 50) (L := 2) (x := nI 50) (Or.inr (Or.inl ⟨50, rfl, rfl, rfl, by decide, by decide⟩)) (by decide +kernel) ?_
  refine nw_newa hX false (N := 50) (by decide) (by decide +kernel) (gt_c1 55 (by decide +kernel) rfl) (gt_c1 91 (by decide +kernel) rfl) (by rw [hEc]; exact Nat.le_of_ble_eq_true rfl) (by rw [hEs]; exact Nat.le_of_ble_eq_true rfl) (fun q38 => ?_)
  show NW E D A 1 _ 40 [(0, .ref h0)] [.ref q38, .ref h0] [(h0, .inr (6, [.int (nI 0), .int (nI 0), .int (nI 0), .ref q22, .ref q30, .null, .null, .null, .null])), (q22, .inl (cI, 50, .inl z0)), (q30, .inl (cI, 50, .inl z0)), (q38, .inl (cI, 50, .inl z0))] 3 150
  refine nw_put hX hin (idx := 28) (C := RX7) (T := TX7) (N := 9) rfl 5 (by decide) (gt_c1 198 (by decide +kernel) rfl) rfl rfl (ty := tyX7 5) (tyX7_ok 5 (by decide)) rfl rfl (Nat.le_of_ble_eq_true rfl) (by decide +kernel) ?_
  show NW E D A 1 _ 43 [(0, .ref h0)] [] [(h0, .inr (6, [.int (nI 0), .int (nI 0), .int (nI 0), .ref q22, .ref q30, .ref q38, .null, .null, .null])), (q22, .inl (cI, 50, .inl z0)), (q30, .inl (cI, 50, .inl z0)), (q38, .inl (cI, 50, .inl z0))] 3 150
  refine nw_al hX (by decide +kernel) ?_
  refine nw_ci hX (I := .bipush 50) (L := 2) (x := nI 50) (Or.inr (Or.inl ⟨50, rfl, rfl, rfl, by decide, by decide⟩)) (by decide +kernel) ?_
  refine nw_newa hX false (N := 50) (by decide) (by decide +kernel) (gt_c1 55 (by decide +kernel) rfl) (gt_c1 91 (by decide +kernel) rfl) (by rw [hEc]; exact Nat.le_of_ble_eq_true rfl) (by rw [hEs]; exact Nat.le_of_ble_eq_true rfl) (fun q46 => ?_)
  show NW E D A 1 _ 48 [(0, .ref h0)] [.ref q46, .ref h0] [(h0, .inr (6, [.int (nI 0), .int (nI 0), .int (nI 0), .ref q22, .ref q30, .ref q38, .null, .null, .null])), (q22, .inl (cI, 50, .inl z0)), (q30, .inl (cI, 50, .inl z0)), (q38, .inl (cI, 50, .inl z0)), (q46, .inl (cI, 50, .inl z0))] 4 200
  refine nw_put hX hin (idx := 31) (C := RX7) (T := TX7) (N := 9) rfl 6 (by decide) (gt_c1 199 (by decide +kernel) rfl) rfl rfl (ty := tyX7 6) (tyX7_ok 6 (by decide)) rfl rfl (Nat.le_of_ble_eq_true rfl) (by decide +kernel) ?_
  show NW E D A 1 _ 51 [(0, .ref h0)] [] [(h0, .inr (6, [.int (nI 0), .int (nI 0), .int (nI 0), .ref q22, .ref q30, .ref q38, .ref q46, .null, .null])), (q22, .inl (cI, 50, .inl z0)), (q30, .inl (cI, 50, .inl z0)), (q38, .inl (cI, 50, .inl z0)), (q46, .inl (cI, 50, .inl z0))] 4 200
  refine nw_al hX (by decide +kernel) ?_
  refine nw_ci hX (I := .bipush 50) (L := 2) (x := nI 50) (Or.inr (Or.inl ⟨50, rfl, rfl, rfl, by decide, by decide⟩)) (by decide +kernel) ?_
  refine nw_newa hX false (N := 50) (by decide) (by decide +kernel) (gt_c1 55 (by decide +kernel) rfl) (gt_c1 91 (by decide +kernel) rfl) (by rw [hEc]; exact Nat.le_of_ble_eq_true rfl) (by rw [hEs]; exact Nat.le_of_ble_eq_true rfl) (fun q54 => ?_)
  show NW E D A 1 _ 56 [(0, .ref h0)] [.ref q54, .ref h0] [(h0, .inr (6, [.int (nI 0), .int (nI 0), .int (nI 0), .ref q22, .ref q30, .ref q38, .ref q46, .null, .null])), (q22, .inl (cI, 50, .inl z0)), (q30, .inl (cI, 50, .inl z0)), (q38, .inl (cI, 50, .inl z0)), (q46, .inl (cI, 50, .inl z0)), (q54, .inl (cI, 50, .inl z0))] 5 250
  refine nw_put hX hin (idx := 34) (C := RX7) (T := TX7) (N := 9) rfl 7 (by decide) (gt_c1 200 (by decide +kernel) rfl) rfl rfl (ty := tyX7 7) (tyX7_ok 7 (by decide)) rfl rfl (Nat.le_of_ble_eq_true rfl) (by decide +kernel) ?_
  show NW E D A 1 _ 59 [(0, .ref h0)] [] [(h0, .inr (6, [.int (nI 0), .int (nI 0), .int (nI 0), .ref q22, .ref q30, .ref q38, .ref q46, .ref q54, .null])), (q22, .inl (cI, 50, .inl z0)), (q30, .inl (cI, 50, .inl z0)), (q38, .inl (cI, 50, .inl z0)), (q46, .inl (cI, 50, .inl z0)), (q54, .inl (cI, 50, .inl z0))] 5 250
  refine nw_al hX (by decide +kernel) ?_
  refine nw_ci hX (I := .iconst 5) (L := 1) (x := nI 5) (Or.inl ⟨5, rfl, rfl, rfl⟩) (by decide +kernel) ?_
  refine nw_newa hX false (N := 5) (by decide) (by decide +kernel) (gt_c1 55 (by decide +kernel) rfl) (gt_c1 91 (by decide +kernel) rfl) (by rw [hEc]; exact Nat.le_of_ble_eq_true rfl) (by rw [hEs]; exact Nat.le_of_ble_eq_true rfl) (fun q61 => ?_)
  show NW E D A 1 _ 63 [(0, .ref h0)] [.ref q61, .ref h0] [(h0, .inr (6, [.int (nI 0), .int (nI 0), .int (nI 0), .ref q22, .ref q30, .ref q38, .ref q46, .ref q54, .null])), (q22, .inl (cI, 50, .inl z0)), (q30, .inl (cI, 50, .inl z0)), (q38, .inl (cI, 50, .inl z0)), (q46, .inl (cI, 50, .inl z0)), (q54, .inl (cI, 50, .inl z0)), (q61, .inl (cI, 5, .inl z0))] 6 255
  refine nw_put hX hin (idx := 37) (C := RX7) (T := TX7) (N := 9) rfl 8 (by decide) (gt_c1 201 (by decide +kernel) rfl) rfl rfl (ty := tyX7 8) (tyX7_ok 8 (by decide)) rfl rfl (Nat.le_of_ble_eq_true rfl) (by decide +kernel) ?_
  show NW E D A 1 _ 66 [(0, .ref h0)] [] [(h0, .inr (6, [.int (nI 0), .int (nI 0), .int (nI 0), .ref q22, .ref q30, .ref q38, .ref q46, .ref q54, .ref q61])), (q22, .inl (cI, 50, .inl z0)), (q30, .inl (cI, 50, .inl z0)), (q38, .inl (cI, 50, .inl z0)), (q46, .inl (cI, 50, .inl z0)), (q54, .inl (cI, 50, .inl z0)), (q61, .inl (cI, 5, .inl z0))] 6 255
  exact nw_ret (wY := wX7 cI cB cO h0) hX hr hlk (fun i => [q22, q30, q38, q46, q54, q61].getD i 0) (by decide +kernel)
def wX2 (cI cB cO : ClassId) (h : Nat) (q : Nat → Nat) : va_W := [(h, .inr (1, [.int (nI 0), .ref (q 0), .ref (q 3), .ref (q 6), .ref (q 7), .ref (q 8), .ref (q 9), .ref (q 10), .ref (q 11), .ref (q 12)])), (q 0, .inr (5, [.int (nI 0), .ref (q 1), .ref (q 2)])), (q 1, .inl (cI, 50, .inl z0)), (q 2, .inl (cI, 50, .inl z0)), (q 3, .inr (5, [.int (nI 0), .ref (q 4), .ref (q 5)])), (q 4, .inl (cI, 50, .inl z0)), (q 5, .inl (cI, 50, .inl z0)), (q 6, .inl (cI, 840, .inl z0)), (q 7, .inl (cI, 840, .inl z0)), (q 8, .inl (cI, 840, .inl z0)), (q 9, .inl (cI, 840, .inl z0)), (q 10, .inl (cI, 840, .inl z0)), (q 11, .inl (cB, 840, .inl z0)), (q 12, .inl (cI, 50, .inl z0))]
set_option maxRecDepth 20000 in
set_option maxHeartbeats 4000000 in
theorem k_X2 (l : Launch) (D : va_G) (cI cB cO : ClassId) (h0 sz : Nat) : KM l D cI cB cO (yX2_init, cX2_init, 1, none) 1 [.int 0, .null, .null, .null, .null, .null, .null, .null, .null, .null] 1 13 5296 (fun h q => wX2 cI cB cO h q) h0 sz := by
  refine nw_in 2 (by decide +kernel) rfl rfl ?_
  intro E A hEl hX hin hE hr hlk
  have hEc : (Ero E).cells = 13 := by rw [hE]; rfl
  have hEs : (Ero E).slots = 5296 := by rw [hE]; rfl
  have hEf : (Ero E).frames = 2 := by rw [hE]; rfl
  have hEo : (Ero E).locals = 120 := by rw [hE]; rfl
  refine nw_al hX (by decide +kernel) ?_
  refine nw_obj hX (idx := 3) (gt_c1 132 (by decide +kernel) rfl) (gt_c1 21 (by decide +kernel) rfl) (gt_c1 22 (by decide +kernel) rfl) (by decide +kernel) (by rw [hEf]; exact Nat.le_of_ble_eq_true rfl) (by rw [hEo]; exact Nat.le_of_ble_eq_true rfl) ?_
  show NW E D A 1 _ 4 [(0, .ref h0)] [] [(h0, .inr (1, [.int 0, .null, .null, .null, .null, .null, .null, .null, .null, .null]))] 0 0
  refine nw_al hX (by decide +kernel) ?_
  refine nw_ci hX (I := .iconst 0) (L := 1) (x := nI 0) (Or.inl ⟨0, rfl, rfl, rfl⟩) (by decide +kernel) ?_
  refine nw_put hX hin (idx := 9) (C := RX2) (T := TX2) (N := 10) rfl 0 (by decide) (gt_c1 152 (by decide +kernel) rfl) rfl rfl (ty := tyX2 0) (tyX2_ok 0 (by decide)) rfl rfl (Nat.le_of_ble_eq_true rfl) (by decide +kernel) ?_
  show NW E D A 1 _ 9 [(0, .ref h0)] [] [(h0, .inr (1, [.int (nI 0), .null, .null, .null, .null, .null, .null, .null, .null, .null]))] 0 0
  refine nw_al hX (by decide +kernel) ?_
  refine nw_mk hX (idx := 15) (idx2 := 17) (ci := 5) (d := 0) (mc := 2) (ms := 100) (C := RX6) (T := TX6) (N := 3) rfl (fs0 := [.int 0, .null, .null]) (fun j hj => by rcases (show j = 0 ∨ j = 1 ∨ j = 2 by omega) with rfl | rfl | rfl <;> rfl) (gt_c1 133 (by decide +kernel) rfl) (gt_c1 134 (by decide +kernel) rfl) (gt_c1 7 (by decide +kernel) rfl) (y := yX6_init) (yc := cX6_init) (wY := fun h q => wX6 cI cB cO h q) (fun a sz => k_X6 _ D cI cB cO a sz) rfl rfl (Or.inr (nw_c1 135 (by decide +kernel) rfl)) (gt_c1 136 (by decide +kernel) rfl) (gt_c1 137 (by decide +kernel) rfl) (by decide +kernel) (by decide +kernel) (by decide +kernel) (by decide +kernel) (by decide +kernel) (by decide +kernel) (by rw [hEc]; exact Nat.le_of_ble_eq_true rfl) (by rw [hEs]; exact Nat.le_of_ble_eq_true rfl) (by rw [hEf]; exact Nat.le_of_ble_eq_true rfl) (by rw [hEo]; exact Nat.le_of_ble_eq_true rfl) (Nat.le_of_ble_eq_true rfl) (fun a10 q10 => ?_)
  show NW E D A 1 _ 17 [(0, .ref h0)] [.ref a10, .ref h0] [(h0, .inr (1, [.int (nI 0), .null, .null, .null, .null, .null, .null, .null, .null, .null])), (a10, .inr (5, [.int (nI 0), .ref (q10 0), .ref (q10 1)])), (q10 0, .inl (cI, 50, .inl z0)), (q10 1, .inl (cI, 50, .inl z0))] 3 103
  refine nw_put hX hin (idx := 18) (C := RX2) (T := TX2) (N := 10) rfl 1 (by decide) (gt_c1 155 (by decide +kernel) rfl) rfl rfl (ty := tyX2 1) (tyX2_ok 1 (by decide)) rfl rfl (Nat.le_of_ble_eq_true rfl) (by decide +kernel) ?_
  show NW E D A 1 _ 20 [(0, .ref h0)] [] [(h0, .inr (1, [.int (nI 0), .ref a10, .null, .null, .null, .null, .null, .null, .null, .null])), (a10, .inr (5, [.int (nI 0), .ref (q10 0), .ref (q10 1)])), (q10 0, .inl (cI, 50, .inl z0)), (q10 1, .inl (cI, 50, .inl z0))] 3 103
  refine nw_al hX (by decide +kernel) ?_
  refine nw_mk hX (idx := 15) (idx2 := 17) (ci := 5) (d := 0) (mc := 2) (ms := 100) (C := RX6) (T := TX6) (N := 3) rfl (fs0 := [.int 0, .null, .null]) (fun j hj => by rcases (show j = 0 ∨ j = 1 ∨ j = 2 by omega) with rfl | rfl | rfl <;> rfl) (gt_c1 133 (by decide +kernel) rfl) (gt_c1 134 (by decide +kernel) rfl) (gt_c1 7 (by decide +kernel) rfl) (y := yX6_init) (yc := cX6_init) (wY := fun h q => wX6 cI cB cO h q) (fun a sz => k_X6 _ D cI cB cO a sz) rfl rfl (Or.inr (nw_c1 135 (by decide +kernel) rfl)) (gt_c1 136 (by decide +kernel) rfl) (gt_c1 137 (by decide +kernel) rfl) (by decide +kernel) (by decide +kernel) (by decide +kernel) (by decide +kernel) (by decide +kernel) (by decide +kernel) (by rw [hEc]; exact Nat.le_of_ble_eq_true rfl) (by rw [hEs]; exact Nat.le_of_ble_eq_true rfl) (by rw [hEf]; exact Nat.le_of_ble_eq_true rfl) (by rw [hEo]; exact Nat.le_of_ble_eq_true rfl) (Nat.le_of_ble_eq_true rfl) (fun a21 q21 => ?_)
  show NW E D A 1 _ 28 [(0, .ref h0)] [.ref a21, .ref h0] [(h0, .inr (1, [.int (nI 0), .ref a10, .null, .null, .null, .null, .null, .null, .null, .null])), (a10, .inr (5, [.int (nI 0), .ref (q10 0), .ref (q10 1)])), (q10 0, .inl (cI, 50, .inl z0)), (q10 1, .inl (cI, 50, .inl z0)), (a21, .inr (5, [.int (nI 0), .ref (q21 0), .ref (q21 1)])), (q21 0, .inl (cI, 50, .inl z0)), (q21 1, .inl (cI, 50, .inl z0))] 6 206
  refine nw_put hX hin (idx := 22) (C := RX2) (T := TX2) (N := 10) rfl 2 (by decide) (gt_c1 156 (by decide +kernel) rfl) rfl rfl (ty := tyX2 2) (tyX2_ok 2 (by decide)) rfl rfl (Nat.le_of_ble_eq_true rfl) (by decide +kernel) ?_
  show NW E D A 1 _ 31 [(0, .ref h0)] [] [(h0, .inr (1, [.int (nI 0), .ref a10, .ref a21, .null, .null, .null, .null, .null, .null, .null])), (a10, .inr (5, [.int (nI 0), .ref (q10 0), .ref (q10 1)])), (q10 0, .inl (cI, 50, .inl z0)), (q10 1, .inl (cI, 50, .inl z0)), (a21, .inr (5, [.int (nI 0), .ref (q21 0), .ref (q21 1)])), (q21 0, .inl (cI, 50, .inl z0)), (q21 1, .inl (cI, 50, .inl z0))] 6 206
  refine nw_al hX (by decide +kernel) ?_
  refine nw_ci hX (I := .sipush 840) (L := 3) (x := nI 840) (Or.inr (Or.inr ⟨840, rfl, rfl, rfl, by decide, by decide⟩)) (by decide +kernel) ?_
  refine nw_newa hX false (N := 840) (by decide) (by decide +kernel) (gt_c1 55 (by decide +kernel) rfl) (gt_c1 91 (by decide +kernel) rfl) (by rw [hEc]; exact Nat.le_of_ble_eq_true rfl) (by rw [hEs]; exact Nat.le_of_ble_eq_true rfl) (fun q35 => ?_)
  show NW E D A 1 _ 37 [(0, .ref h0)] [.ref q35, .ref h0] [(h0, .inr (1, [.int (nI 0), .ref a10, .ref a21, .null, .null, .null, .null, .null, .null, .null])), (a10, .inr (5, [.int (nI 0), .ref (q10 0), .ref (q10 1)])), (q10 0, .inl (cI, 50, .inl z0)), (q10 1, .inl (cI, 50, .inl z0)), (a21, .inr (5, [.int (nI 0), .ref (q21 0), .ref (q21 1)])), (q21 0, .inl (cI, 50, .inl z0)), (q21 1, .inl (cI, 50, .inl z0)), (q35, .inl (cI, 840, .inl z0))] 7 1046
  refine nw_put hX hin (idx := 25) (C := RX2) (T := TX2) (N := 10) rfl 3 (by decide) (gt_c1 157 (by decide +kernel) rfl) rfl rfl (ty := tyX2 3) (tyX2_ok 3 (by decide)) rfl rfl (Nat.le_of_ble_eq_true rfl) (by decide +kernel) ?_
  show NW E D A 1 _ 40 [(0, .ref h0)] [] [(h0, .inr (1, [.int (nI 0), .ref a10, .ref a21, .ref q35, .null, .null, .null, .null, .null, .null])), (a10, .inr (5, [.int (nI 0), .ref (q10 0), .ref (q10 1)])), (q10 0, .inl (cI, 50, .inl z0)), (q10 1, .inl (cI, 50, .inl z0)), (a21, .inr (5, [.int (nI 0), .ref (q21 0), .ref (q21 1)])), (q21 0, .inl (cI, 50, .inl z0)), (q21 1, .inl (cI, 50, .inl z0)), (q35, .inl (cI, 840, .inl z0))] 7 1046
  refine nw_al hX (by decide +kernel) ?_
  refine nw_ci hX (I := .sipush 840) (L := 3) (x := nI 840) (Or.inr (Or.inr ⟨840, rfl, rfl, rfl, by decide, by decide⟩)) (by decide +kernel) ?_
  refine nw_newa hX false (N := 840) (by decide) (by decide +kernel) (gt_c1 55 (by decide +kernel) rfl) (gt_c1 91 (by decide +kernel) rfl) (by rw [hEc]; exact Nat.le_of_ble_eq_true rfl) (by rw [hEs]; exact Nat.le_of_ble_eq_true rfl) (fun q44 => ?_)
  show NW E D A 1 _ 46 [(0, .ref h0)] [.ref q44, .ref h0] [(h0, .inr (1, [.int (nI 0), .ref a10, .ref a21, .ref q35, .null, .null, .null, .null, .null, .null])), (a10, .inr (5, [.int (nI 0), .ref (q10 0), .ref (q10 1)])), (q10 0, .inl (cI, 50, .inl z0)), (q10 1, .inl (cI, 50, .inl z0)), (a21, .inr (5, [.int (nI 0), .ref (q21 0), .ref (q21 1)])), (q21 0, .inl (cI, 50, .inl z0)), (q21 1, .inl (cI, 50, .inl z0)), (q35, .inl (cI, 840, .inl z0)), (q44, .inl (cI, 840, .inl z0))] 8 1886
  refine nw_put hX hin (idx := 29) (C := RX2) (T := TX2) (N := 10) rfl 4 (by decide) (gt_c1 158 (by decide +kernel) rfl) rfl rfl (ty := tyX2 4) (tyX2_ok 4 (by decide)) rfl rfl (Nat.le_of_ble_eq_true rfl) (by decide +kernel) ?_
  show NW E D A 1 _ 49 [(0, .ref h0)] [] [(h0, .inr (1, [.int (nI 0), .ref a10, .ref a21, .ref q35, .ref q44, .null, .null, .null, .null, .null])), (a10, .inr (5, [.int (nI 0), .ref (q10 0), .ref (q10 1)])), (q10 0, .inl (cI, 50, .inl z0)), (q10 1, .inl (cI, 50, .inl z0)), (a21, .inr (5, [.int (nI 0), .ref (q21 0), .ref (q21 1)])), (q21 0, .inl (cI, 50, .inl z0)), (q21 1, .inl (cI, 50, .inl z0)), (q35, .inl (cI, 840, .inl z0)), (q44, .inl (cI, 840, .inl z0))] 8 1886
  refine nw_al hX (by decide +kernel) ?_
  refine nw_ci hX (I := .sipush 840) (L := 3) (x := nI 840) (Or.inr (Or.inr ⟨840, rfl, rfl, rfl, by decide, by decide⟩)) (by decide +kernel) ?_
  refine nw_newa hX false (N := 840) (by decide) (by decide +kernel) (gt_c1 55 (by decide +kernel) rfl) (gt_c1 91 (by decide +kernel) rfl) (by rw [hEc]; exact Nat.le_of_ble_eq_true rfl) (by rw [hEs]; exact Nat.le_of_ble_eq_true rfl) (fun q53 => ?_)
  show NW E D A 1 _ 55 [(0, .ref h0)] [.ref q53, .ref h0] [(h0, .inr (1, [.int (nI 0), .ref a10, .ref a21, .ref q35, .ref q44, .null, .null, .null, .null, .null])), (a10, .inr (5, [.int (nI 0), .ref (q10 0), .ref (q10 1)])), (q10 0, .inl (cI, 50, .inl z0)), (q10 1, .inl (cI, 50, .inl z0)), (a21, .inr (5, [.int (nI 0), .ref (q21 0), .ref (q21 1)])), (q21 0, .inl (cI, 50, .inl z0)), (q21 1, .inl (cI, 50, .inl z0)), (q35, .inl (cI, 840, .inl z0)), (q44, .inl (cI, 840, .inl z0)), (q53, .inl (cI, 840, .inl z0))] 9 2726
  refine nw_put hX hin (idx := 32) (C := RX2) (T := TX2) (N := 10) rfl 5 (by decide) (gt_c1 159 (by decide +kernel) rfl) rfl rfl (ty := tyX2 5) (tyX2_ok 5 (by decide)) rfl rfl (Nat.le_of_ble_eq_true rfl) (by decide +kernel) ?_
  show NW E D A 1 _ 58 [(0, .ref h0)] [] [(h0, .inr (1, [.int (nI 0), .ref a10, .ref a21, .ref q35, .ref q44, .ref q53, .null, .null, .null, .null])), (a10, .inr (5, [.int (nI 0), .ref (q10 0), .ref (q10 1)])), (q10 0, .inl (cI, 50, .inl z0)), (q10 1, .inl (cI, 50, .inl z0)), (a21, .inr (5, [.int (nI 0), .ref (q21 0), .ref (q21 1)])), (q21 0, .inl (cI, 50, .inl z0)), (q21 1, .inl (cI, 50, .inl z0)), (q35, .inl (cI, 840, .inl z0)), (q44, .inl (cI, 840, .inl z0)), (q53, .inl (cI, 840, .inl z0))] 9 2726
  refine nw_al hX (by decide +kernel) ?_
  refine nw_ci hX (I := .sipush 840) (L := 3) (x := nI 840) (Or.inr (Or.inr ⟨840, rfl, rfl, rfl, by decide, by decide⟩)) (by decide +kernel) ?_
  refine nw_newa hX false (N := 840) (by decide) (by decide +kernel) (gt_c1 55 (by decide +kernel) rfl) (gt_c1 91 (by decide +kernel) rfl) (by rw [hEc]; exact Nat.le_of_ble_eq_true rfl) (by rw [hEs]; exact Nat.le_of_ble_eq_true rfl) (fun q62 => ?_)
  show NW E D A 1 _ 64 [(0, .ref h0)] [.ref q62, .ref h0] [(h0, .inr (1, [.int (nI 0), .ref a10, .ref a21, .ref q35, .ref q44, .ref q53, .null, .null, .null, .null])), (a10, .inr (5, [.int (nI 0), .ref (q10 0), .ref (q10 1)])), (q10 0, .inl (cI, 50, .inl z0)), (q10 1, .inl (cI, 50, .inl z0)), (a21, .inr (5, [.int (nI 0), .ref (q21 0), .ref (q21 1)])), (q21 0, .inl (cI, 50, .inl z0)), (q21 1, .inl (cI, 50, .inl z0)), (q35, .inl (cI, 840, .inl z0)), (q44, .inl (cI, 840, .inl z0)), (q53, .inl (cI, 840, .inl z0)), (q62, .inl (cI, 840, .inl z0))] 10 3566
  refine nw_put hX hin (idx := 35) (C := RX2) (T := TX2) (N := 10) rfl 6 (by decide) (gt_c1 160 (by decide +kernel) rfl) rfl rfl (ty := tyX2 6) (tyX2_ok 6 (by decide)) rfl rfl (Nat.le_of_ble_eq_true rfl) (by decide +kernel) ?_
  show NW E D A 1 _ 67 [(0, .ref h0)] [] [(h0, .inr (1, [.int (nI 0), .ref a10, .ref a21, .ref q35, .ref q44, .ref q53, .ref q62, .null, .null, .null])), (a10, .inr (5, [.int (nI 0), .ref (q10 0), .ref (q10 1)])), (q10 0, .inl (cI, 50, .inl z0)), (q10 1, .inl (cI, 50, .inl z0)), (a21, .inr (5, [.int (nI 0), .ref (q21 0), .ref (q21 1)])), (q21 0, .inl (cI, 50, .inl z0)), (q21 1, .inl (cI, 50, .inl z0)), (q35, .inl (cI, 840, .inl z0)), (q44, .inl (cI, 840, .inl z0)), (q53, .inl (cI, 840, .inl z0)), (q62, .inl (cI, 840, .inl z0))] 10 3566
  refine nw_al hX (by decide +kernel) ?_
  refine nw_ci hX (I := .sipush 840) (L := 3) (x := nI 840) (Or.inr (Or.inr ⟨840, rfl, rfl, rfl, by decide, by decide⟩)) (by decide +kernel) ?_
  refine nw_newa hX false (N := 840) (by decide) (by decide +kernel) (gt_c1 55 (by decide +kernel) rfl) (gt_c1 91 (by decide +kernel) rfl) (by rw [hEc]; exact Nat.le_of_ble_eq_true rfl) (by rw [hEs]; exact Nat.le_of_ble_eq_true rfl) (fun q71 => ?_)
  show NW E D A 1 _ 73 [(0, .ref h0)] [.ref q71, .ref h0] [(h0, .inr (1, [.int (nI 0), .ref a10, .ref a21, .ref q35, .ref q44, .ref q53, .ref q62, .null, .null, .null])), (a10, .inr (5, [.int (nI 0), .ref (q10 0), .ref (q10 1)])), (q10 0, .inl (cI, 50, .inl z0)), (q10 1, .inl (cI, 50, .inl z0)), (a21, .inr (5, [.int (nI 0), .ref (q21 0), .ref (q21 1)])), (q21 0, .inl (cI, 50, .inl z0)), (q21 1, .inl (cI, 50, .inl z0)), (q35, .inl (cI, 840, .inl z0)), (q44, .inl (cI, 840, .inl z0)), (q53, .inl (cI, 840, .inl z0)), (q62, .inl (cI, 840, .inl z0)), (q71, .inl (cI, 840, .inl z0))] 11 4406
  refine nw_put hX hin (idx := 38) (C := RX2) (T := TX2) (N := 10) rfl 7 (by decide) (gt_c1 161 (by decide +kernel) rfl) rfl rfl (ty := tyX2 7) (tyX2_ok 7 (by decide)) rfl rfl (Nat.le_of_ble_eq_true rfl) (by decide +kernel) ?_
  show NW E D A 1 _ 76 [(0, .ref h0)] [] [(h0, .inr (1, [.int (nI 0), .ref a10, .ref a21, .ref q35, .ref q44, .ref q53, .ref q62, .ref q71, .null, .null])), (a10, .inr (5, [.int (nI 0), .ref (q10 0), .ref (q10 1)])), (q10 0, .inl (cI, 50, .inl z0)), (q10 1, .inl (cI, 50, .inl z0)), (a21, .inr (5, [.int (nI 0), .ref (q21 0), .ref (q21 1)])), (q21 0, .inl (cI, 50, .inl z0)), (q21 1, .inl (cI, 50, .inl z0)), (q35, .inl (cI, 840, .inl z0)), (q44, .inl (cI, 840, .inl z0)), (q53, .inl (cI, 840, .inl z0)), (q62, .inl (cI, 840, .inl z0)), (q71, .inl (cI, 840, .inl z0))] 11 4406
  refine nw_al hX (by decide +kernel) ?_
  refine nw_ci hX (I := .sipush 840) (L := 3) (x := nI 840) (Or.inr (Or.inr ⟨840, rfl, rfl, rfl, by decide, by decide⟩)) (by decide +kernel) ?_
  refine nw_newa hX true (N := 840) (by decide) (by decide +kernel) (gt_c1 55 (by decide +kernel) rfl) (gt_c1 91 (by decide +kernel) rfl) (by rw [hEc]; exact Nat.le_of_ble_eq_true rfl) (by rw [hEs]; exact Nat.le_of_ble_eq_true rfl) (fun q80 => ?_)
  show NW E D A 1 _ 82 [(0, .ref h0)] [.ref q80, .ref h0] [(h0, .inr (1, [.int (nI 0), .ref a10, .ref a21, .ref q35, .ref q44, .ref q53, .ref q62, .ref q71, .null, .null])), (a10, .inr (5, [.int (nI 0), .ref (q10 0), .ref (q10 1)])), (q10 0, .inl (cI, 50, .inl z0)), (q10 1, .inl (cI, 50, .inl z0)), (a21, .inr (5, [.int (nI 0), .ref (q21 0), .ref (q21 1)])), (q21 0, .inl (cI, 50, .inl z0)), (q21 1, .inl (cI, 50, .inl z0)), (q35, .inl (cI, 840, .inl z0)), (q44, .inl (cI, 840, .inl z0)), (q53, .inl (cI, 840, .inl z0)), (q62, .inl (cI, 840, .inl z0)), (q71, .inl (cI, 840, .inl z0)), (q80, .inl (cB, 840, .inl z0))] 12 5246
  refine nw_put hX hin (idx := 41) (C := RX2) (T := TX2) (N := 10) rfl 8 (by decide) (gt_c1 162 (by decide +kernel) rfl) rfl rfl (ty := tyX2 8) (tyX2_ok 8 (by decide)) rfl rfl (Nat.le_of_ble_eq_true rfl) (by decide +kernel) ?_
  show NW E D A 1 _ 85 [(0, .ref h0)] [] [(h0, .inr (1, [.int (nI 0), .ref a10, .ref a21, .ref q35, .ref q44, .ref q53, .ref q62, .ref q71, .ref q80, .null])), (a10, .inr (5, [.int (nI 0), .ref (q10 0), .ref (q10 1)])), (q10 0, .inl (cI, 50, .inl z0)), (q10 1, .inl (cI, 50, .inl z0)), (a21, .inr (5, [.int (nI 0), .ref (q21 0), .ref (q21 1)])), (q21 0, .inl (cI, 50, .inl z0)), (q21 1, .inl (cI, 50, .inl z0)), (q35, .inl (cI, 840, .inl z0)), (q44, .inl (cI, 840, .inl z0)), (q53, .inl (cI, 840, .inl z0)), (q62, .inl (cI, 840, .inl z0)), (q71, .inl (cI, 840, .inl z0)), (q80, .inl (cB, 840, .inl z0))] 12 5246
  refine nw_al hX (by decide +kernel) ?_
  refine nw_ci hX (I := .bipush 50) (L := 2) (x := nI 50) (Or.inr (Or.inl ⟨50, rfl, rfl, rfl, by decide, by decide⟩)) (by decide +kernel) ?_
  refine nw_newa hX false (N := 50) (by decide) (by decide +kernel) (gt_c1 55 (by decide +kernel) rfl) (gt_c1 91 (by decide +kernel) rfl) (by rw [hEc]; exact Nat.le_of_ble_eq_true rfl) (by rw [hEs]; exact Nat.le_of_ble_eq_true rfl) (fun q88 => ?_)
  show NW E D A 1 _ 90 [(0, .ref h0)] [.ref q88, .ref h0] [(h0, .inr (1, [.int (nI 0), .ref a10, .ref a21, .ref q35, .ref q44, .ref q53, .ref q62, .ref q71, .ref q80, .null])), (a10, .inr (5, [.int (nI 0), .ref (q10 0), .ref (q10 1)])), (q10 0, .inl (cI, 50, .inl z0)), (q10 1, .inl (cI, 50, .inl z0)), (a21, .inr (5, [.int (nI 0), .ref (q21 0), .ref (q21 1)])), (q21 0, .inl (cI, 50, .inl z0)), (q21 1, .inl (cI, 50, .inl z0)), (q35, .inl (cI, 840, .inl z0)), (q44, .inl (cI, 840, .inl z0)), (q53, .inl (cI, 840, .inl z0)), (q62, .inl (cI, 840, .inl z0)), (q71, .inl (cI, 840, .inl z0)), (q80, .inl (cB, 840, .inl z0)), (q88, .inl (cI, 50, .inl z0))] 13 5296
  refine nw_put hX hin (idx := 45) (C := RX2) (T := TX2) (N := 10) rfl 9 (by decide) (gt_c1 163 (by decide +kernel) rfl) rfl rfl (ty := tyX2 9) (tyX2_ok 9 (by decide)) rfl rfl (Nat.le_of_ble_eq_true rfl) (by decide +kernel) ?_
  show NW E D A 1 _ 93 [(0, .ref h0)] [] [(h0, .inr (1, [.int (nI 0), .ref a10, .ref a21, .ref q35, .ref q44, .ref q53, .ref q62, .ref q71, .ref q80, .ref q88])), (a10, .inr (5, [.int (nI 0), .ref (q10 0), .ref (q10 1)])), (q10 0, .inl (cI, 50, .inl z0)), (q10 1, .inl (cI, 50, .inl z0)), (a21, .inr (5, [.int (nI 0), .ref (q21 0), .ref (q21 1)])), (q21 0, .inl (cI, 50, .inl z0)), (q21 1, .inl (cI, 50, .inl z0)), (q35, .inl (cI, 840, .inl z0)), (q44, .inl (cI, 840, .inl z0)), (q53, .inl (cI, 840, .inl z0)), (q62, .inl (cI, 840, .inl z0)), (q71, .inl (cI, 840, .inl z0)), (q80, .inl (cB, 840, .inl z0)), (q88, .inl (cI, 50, .inl z0))] 13 5296
  exact nw_ret (wY := wX2 cI cB cO h0) hX hr hlk (fun i => [a10, q10 0, q10 1, a21, q21 0, q21 1, q35, q44, q53, q62, q71, q80, q88].getD i 0) (by decide +kernel)
