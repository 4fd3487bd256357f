/-! the world at the start: by program (wip/gen/start.py) -/
theorem hw133 : Cond.classLink "CueRollsLaw" 8 "CueRolls" ∈ TB := tb_1 24 (by decide +kernel) (by decide +kernel)
theorem hw134 : Cond.instantiable "CueRolls" 11 ∈ TB := tb_1 25 (by decide +kernel) (by decide +kernel)
theorem hw135 : Cond.methodLink "CueRollsLaw" 15 yX11_init ∈ TB := tb_1 26 (by decide +kernel) (by decide +kernel)
theorem hw136 : Cond.instanceMethod yX11_init ∈ TB := tb_1 27 (by decide +kernel) (by decide +kernel)
theorem hw137 : Cond.code yX11_init cX11_init 3 none ∈ TB := tb_1 28 (by decide +kernel) (by decide +kernel)
theorem hw1494 : Cond.classLink "CueRollsLaw" 16 "CueRollsModel" ∈ TB := tb_6 185 (by decide +kernel) (by decide +kernel)
theorem hw1495 : Cond.instantiable "CueRollsModel" 54 ∈ TB := tb_6 186 (by decide +kernel) (by decide +kernel)
theorem hw1496 : Cond.methodLink "CueRollsLaw" 18 yX12_init ∈ TB := tb_6 187 (by decide +kernel) (by decide +kernel)
theorem hw1497 : Cond.instanceMethod yX12_init ∈ TB := tb_6 188 (by decide +kernel) (by decide +kernel)
theorem hw1498 : Cond.code yX12_init cX12_init 1 none ∈ TB := tb_6 189 (by decide +kernel) (by decide +kernel)
def cAof (a b c d e : ClassId) : Nat → ClassId := fun k => match k with | 0 => a | 1 => b | 2 => c | 3 => d | _ => e
def Lof (as : List Nat) (b sy sn sa y0 y1 y2 fm : Nat) : Nat → Nat := fun k => if k < 89 then as.getD k 0 else match k with | 200 => sy | 201 => sn | 202 => sa | 210 => y0 | 211 => y1 | 212 => y2 | 220 => fm | _ => b
theorem ceq {D : va_G} {cl : List vw_C} {tys : List (ClassId × FieldType)} {U : State} {ty : FieldType} (hK : va_K D cl tys U) (i j : Nat) {c c' : ClassId} (h1 : tys[i]? = some (c, ty)) (h2 : tys[j]? = some (c', ty)) (hn : ∀ C, ty ≠ .object C) : c = c' := by
  have g1 := (hK.2 i _ h1).2
  have g2 := (hK.2 j _ h2).2
  cases ty with
  | object C => exact absurd rfl (hn C)
  | _ => exact Option.some.inj (g1.symm.trans g2)
def startCells (q1 q2 q3 q4 q5 q6 q7 q8 q9 q10 q11 q12 q13 q14 q15 q16 q17 q18 q19 q20 q21 q22 q23 q24 q25 q26 q27 q28 q29 q30 q31 q32 q33 q34 q35 q36 q37 q38 q39 q40 q41 q42 q43 q44 q45 q46 q47 q48 q49 q50 q51 q52 q53 q54 q55 q102 q103 q104 q105 q106 q107 q108 q109 q110 q111 q112 q113 q114 q115 q116 q117 q118 q119 q120 q121 q122 q123 q124 q125 q126 q127 q128 q129 q130 q159 : Nat) (cs : List ClassId) (d0 : ClassId) (tx : Nat → Option Nat) (r101 : Nat → Nat) (sy sn : Nat) : va_W := ((q1, .inr (9, [.ref q16, .ref q18, .ref q25, .ref q29, .ref q2, .ref q10, .ref q33, .ref q46, .ref q50, .int 0, .int 0])) :: (q2, .inr (6, [.ref q3, .ref q4, .ref q5, .ref q6, .ref q7, .ref q8, .ref q9, .int 0, .int 0, .int 0])) :: (q3, .inl ((cs.getD 0 d0), 8, .inl (fun _ => 0))) :: (q4, .inl ((cs.getD 1 d0), 8, .inl (fun _ => 0))) :: (q5, .inl ((cs.getD 2 d0), 128, .inl (fun _ => 0))) :: (q6, .inl ((cs.getD 3 d0), 256, .inr (.inl (fun _ => 0)))) :: (q7, .inl ((cs.getD 4 d0), 128, .inl (fun _ => 0))) :: (q8, .inl ((cs.getD 5 d0), 1536, .inr (.inl (fun _ => 0)))) :: (q9, .inl ((cs.getD 6 d0), 96, .inl (fun _ => 0))) :: (q10, .inr (0, [.ref q2, .ref q11, .ref q12, .ref q13, .ref q14, .ref q15, .int 1])) :: (q11, .inl ((cs.getD 7 d0), 18, .inl (fun _ => 0))) :: (q12, .inl ((cs.getD 8 d0), 18, .inl (fun _ => 0))) :: (q13, .inl ((cs.getD 9 d0), 19, .inl (fun _ => 0))) :: (q14, .inl ((cs.getD 10 d0), 96, .inl (fun _ => 0))) :: (q15, .inl ((cs.getD 11 d0), 8, .inl (fun _ => 0))) :: (q16, .inr (8, [.ref q17, .int 0])) :: (q17, .inl ((cs.getD 12 d0), 200, .inl (fun _ => 0))) :: (q18, .inr (5, [.ref q19, .ref q20, .ref q19, .int 0, .int (-1), .ref q21, .ref q22, .ref q23, .ref q24, .int 0])) :: (q19, .inl ((cs.getD 13 d0), 201, .inr (.inl (fun _ => 0)))) :: (q20, .inl ((cs.getD 14 d0), 201, .inl (fun _ => 0))) :: (q21, .inl ((cs.getD 15 d0), 12, .inl (fun _ => 0))) :: (q22, .inl ((cs.getD 16 d0), 24, .inr (.inl (fun _ => 0)))) :: (q23, .inl ((cs.getD 17 d0), 12, .inl (fun _ => 0))) :: (q24, .inl ((cs.getD 18 d0), 144, .inr (.inl (fun _ => 0)))) :: (q25, .inr (3, [.ref q26, .ref q27, .ref q26, .int 0, .int (-1), .ref q28, .int 0])) :: (q26, .inl ((cs.getD 19 d0), 201, .inr (.inl (fun _ => 0)))) :: (q27, .inl ((cs.getD 20 d0), 201, .inl (fun _ => 0))) :: (q28, .inl ((cs.getD 21 d0), 20, .inl (fun _ => 0))) :: (q29, .inr (1, [.ref q30, .ref q31, .ref q30, .int 0, .int (-1), .ref q32, .int 0, .long 0, .int 0, .int 0, .int 0, .int 0, .int 0])) :: (q30, .inl ((cs.getD 22 d0), 201, .inr (.inl (fun _ => 0)))) :: (q31, .inl ((cs.getD 23 d0), 201, .inl (fun _ => 0))) :: (q32, .inl ((cs.getD 24 d0), 4, .inr (.inr (.inr (.inr tx))))) :: ((r101 0), .inl ((cs.getD 22 d0), 201, .inr (.inl (fun _ => 0)))) :: ((r101 1), .inl ((cs.getD 22 d0), 201, .inr (.inl (fun _ => 0)))) :: ((r101 2), .inl ((cs.getD 22 d0), 201, .inr (.inl (fun _ => 0)))) :: ((r101 3), .inl ((cs.getD 22 d0), 201, .inr (.inl (fun _ => 0)))) :: (q33, .inr (2, [.ref q2, .ref q10, .ref q34, .ref q35, .ref q36, .ref q37, .ref q38, .ref q39, .ref q40, .ref q41, .ref q42, .ref q43, .int 0, .int 0, .int 0, .int 0, .int 0, .ref q44, .ref q45])) :: (q34, .inl ((cs.getD 25 d0), 8, .inl (fun _ => 0))) :: (q35, .inl ((cs.getD 26 d0), 8, .inl (fun _ => 0))) :: (q36, .inl ((cs.getD 27 d0), 8, .inl (fun _ => 0))) :: (q37, .inl ((cs.getD 28 d0), 8, .inl (fun _ => 0))) :: (q38, .inl ((cs.getD 29 d0), 20, .inl (fun _ => 0))) :: (q39, .inl ((cs.getD 30 d0), 8, .inl (fun _ => 0))) :: (q40, .inl ((cs.getD 31 d0), 8, .inl (fun _ => 0))) :: (q41, .inl ((cs.getD 32 d0), 8, .inl (fun _ => 0))) :: (q42, .inl ((cs.getD 33 d0), 8, .inr (.inl (fun _ => 0)))) :: (q43, .inl ((cs.getD 34 d0), 420, .inr (.inl (fun _ => 0)))) :: (q44, .inl ((cs.getD 35 d0), 0, .inr (.inl (fun _ => 0)))) :: (q45, .inl ((cs.getD 36 d0), 0, .inr (.inl (fun _ => 0)))) :: (q46, .inr (7, [.ref q2, .ref q10, .ref q47, .ref q48, .ref q49, .int 0, .int 0])) :: (q47, .inl ((cs.getD 37 d0), 96, .inl (fun _ => 0))) :: (q48, .inl ((cs.getD 38 d0), 96, .inl (fun _ => 0))) :: (q49, .inl ((cs.getD 39 d0), 8, .inl (fun _ => 0))) :: (q50, .inr (4, [.ref q51, .ref q52, .ref q53, .ref q54, .ref q55, .int 0, .int 0])) :: (q51, .inl ((cs.getD 40 d0), 80, .inl (fun _ => 0))) :: (q52, .inl ((cs.getD 41 d0), 4, .inl (fun _ => 0))) :: (q53, .inl ((cs.getD 42 d0), 10, .inl (fun _ => 0))) :: (q54, .inl ((cs.getD 43 d0), 10, .inl (fun _ => 0))) :: (q55, .inl ((cs.getD 44 d0), 10, .inl (fun _ => 0))) :: (q102, .inr (10, [.int 0, .ref q103, .ref q104, .ref q105, .ref q106, .ref q107, .ref q103, .int 0, .int 0, .int 0, .int 0, .int 0, .int 0, .int 0, .int 0, .int 0, .int 0, .int 0, .ref sy, .ref sn, .int 0, .ref q108, .ref q109, .ref q110, .ref q111, .ref q112, .ref q113, .ref q114, .ref q115, .ref q116, .ref q117, .ref q118, .ref q119, .ref q120, .int 0, .int 0, .int 1, .ref q121, .ref q122, .ref q123, .ref q124, .ref q125, .int 0, .int 0, .ref q126, .ref q127, .ref q128, .ref q129, .int 0, .int 0, .int 0, .ref q130, .int 0, .int 0])) :: (q103, .inl ((cs.getD 45 d0), 200, .inl (fun _ => 0))) :: (q104, .inl ((cs.getD 46 d0), 1800, .inl (fun _ => 0))) :: (q105, .inl ((cs.getD 47 d0), 800, .inl (fun _ => 0))) :: (q106, .inl ((cs.getD 48 d0), 4, .inl (fun _ => 0))) :: (q107, .inl ((cs.getD 49 d0), 128, .inl (fun _ => 0))) :: (q108, .inl ((cs.getD 50 d0), 9, .inl (fun _ => 0))) :: (q109, .inl ((cs.getD 51 d0), 144, .inl (fun _ => 0))) :: (q110, .inl ((cs.getD 52 d0), 144, .inl (fun _ => 0))) :: (q111, .inl ((cs.getD 53 d0), 288, .inl (fun _ => 0))) :: (q112, .inl ((cs.getD 54 d0), 288, .inl (fun _ => 0))) :: (q113, .inl ((cs.getD 55 d0), 1728, .inl (fun _ => 0))) :: (q114, .inl ((cs.getD 56 d0), 1728, .inl (fun _ => 0))) :: (q115, .inl ((cs.getD 57 d0), 5, .inl (fun _ => 0))) :: (q116, .inl ((cs.getD 58 d0), 100, .inl (fun _ => 0))) :: (q117, .inl ((cs.getD 59 d0), 8, .inl (fun _ => 0))) :: (q118, .inl ((cs.getD 60 d0), 20, .inl (fun _ => 0))) :: (q119, .inl ((cs.getD 61 d0), 20, .inl (fun _ => 0))) :: (q120, .inl ((cs.getD 62 d0), 441, .inl (fun _ => 0))) :: (q121, .inl ((cs.getD 63 d0), 9, .inl (fun _ => 0))) :: (q122, .inl ((cs.getD 64 d0), 180009, .inl (fun _ => 0))) :: (q123, .inl ((cs.getD 65 d0), 180009, .inl (fun _ => 0))) :: (q124, .inl ((cs.getD 66 d0), 180009, .inr (.inl (fun _ => 0)))) :: (q125, .inl ((cs.getD 67 d0), 180009, .inr (.inl (fun _ => 0)))) :: (q126, .inl ((cs.getD 68 d0), 96, .inl (fun _ => 0))) :: (q127, .inl ((cs.getD 69 d0), 96, .inl (fun _ => 0))) :: (q128, .inl ((cs.getD 70 d0), 8, .inl (fun _ => 0))) :: (q129, .inl ((cs.getD 71 d0), 8, .inl (fun _ => 0))) :: (q130, .inl ((cs.getD 72 d0), 10, .inl (fun _ => 0))) :: (q159, .inl ((cs.getD 73 d0), 1, .inr (.inl (fun _ => 0)))) :: [])
set_option maxRecDepth 100000 in
set_option maxHeartbeats 4000000 in
theorem start_eq (b sy sn sa y0 y1 y2 fm : Nat) (q1 q2 q3 q4 q5 q6 q7 q8 q9 q10 q11 q12 q13 q14 q15 q16 q17 q18 q19 q20 q21 q22 q23 q24 q25 q26 q27 q28 q29 q30 q31 q32 q33 q34 q35 q36 q37 q38 q39 q40 q41 q42 q43 q44 q45 q46 q47 q48 q49 q50 q51 q52 q53 q54 q55 q102 q103 q104 q105 q106 q107 q108 q109 q110 q111 q112 q113 q114 q115 q116 q117 q118 q119 q120 q121 q122 q123 q124 q125 q126 q127 q128 q129 q130 q159 : Nat) (c56 c59 c66 c68 c80 : ClassId) (r101 : Nat → Nat) : ((0 :: 15 :: 17 :: 24 :: 28 :: 1 :: 9 :: 36 :: 49 :: 53 :: 59 :: 16 :: 18 :: 19 :: 20 :: 21 :: 22 :: 23 :: 25 :: 26 :: 27 :: 29 :: 30 :: 2 :: 3 :: 4 :: 5 :: 6 :: 7 :: 8 :: 10 :: 11 :: 12 :: 13 :: 14 :: 37 :: 38 :: 39 :: 40 :: 41 :: 42 :: 43 :: 44 :: 45 :: 46 :: 47 :: 48 :: 50 :: 51 :: 52 :: 54 :: 55 :: 56 :: 57 :: 58 :: 60 :: 61 :: 62 :: 63 :: 64 :: 65 :: 66 :: 67 :: 68 :: 69 :: 70 :: 71 :: 72 :: 73 :: 74 :: 75 :: 76 :: 77 :: 78 :: 79 :: 80 :: 81 :: 82 :: 83 :: 84 :: 85 :: 86 :: 87 :: 32 :: 33 :: 34 :: 35 :: 31 :: 88 :: []) : List Nat).map (fun i => (startCells q1 q2 q3 q4 q5 q6 q7 q8 q9 q10 q11 q12 q13 q14 q15 q16 q17 q18 q19 q20 q21 q22 q23 q24 q25 q26 q27 q28 q29 q30 q31 q32 q33 q34 q35 q36 q37 q38 q39 q40 q41 q42 q43 q44 q45 q46 q47 q48 q49 q50 q51 q52 q53 q54 q55 q102 q103 q104 q105 q106 q107 q108 q109 q110 q111 q112 q113 q114 q115 q116 q117 q118 q119 q120 q121 q122 q123 q124 q125 q126 q127 q128 q129 q130 q159 (c56 :: c56 :: c56 :: c59 :: c56 :: c59 :: c56 :: c56 :: c56 :: c56 :: c66 :: c56 :: c68 :: c59 :: c56 :: c56 :: c59 :: c56 :: c59 :: c59 :: c56 :: c56 :: c59 :: c56 :: c80 :: c56 :: c56 :: c56 :: c56 :: c56 :: c56 :: c56 :: c56 :: c59 :: c59 :: c59 :: c59 :: c56 :: c56 :: c56 :: c56 :: c56 :: c56 :: c56 :: c56 :: c68 :: c68 :: c68 :: c56 :: c56 :: c56 :: c56 :: c56 :: c56 :: c56 :: c56 :: c56 :: c56 :: c56 :: c56 :: c56 :: c56 :: c56 :: c56 :: c56 :: c56 :: c59 :: c59 :: c56 :: c56 :: c56 :: c66 :: c56 :: c59 :: []) c56 (fun i => some ((Lof (q1 :: q16 :: q18 :: q25 :: q29 :: q2 :: q10 :: q33 :: q46 :: q50 :: q102 :: q17 :: q19 :: q20 :: q21 :: q22 :: q23 :: q24 :: q26 :: q27 :: q28 :: q30 :: q31 :: q3 :: q4 :: q5 :: q6 :: q7 :: q8 :: q9 :: q11 :: q12 :: q13 :: q14 :: q15 :: q34 :: q35 :: q36 :: q37 :: q38 :: q39 :: q40 :: q41 :: q42 :: q43 :: q44 :: q45 :: q47 :: q48 :: q49 :: q51 :: q52 :: q53 :: q54 :: q55 :: q103 :: q104 :: q105 :: q106 :: q107 :: q108 :: q109 :: q110 :: q111 :: q112 :: q113 :: q114 :: q115 :: q116 :: q117 :: q118 :: q119 :: q120 :: q121 :: q122 :: q123 :: q124 :: q125 :: q126 :: q127 :: q128 :: q129 :: q130 :: (r101 0) :: (r101 1) :: (r101 2) :: (r101 3) :: q32 :: q159 :: []) b sy sn sa y0 y1 y2 fm) (83 + i))) r101  sy sn)[i]?) = (wl (cAof c56 c68 c66 c59 c80) σi (Lof (q1 :: q16 :: q18 :: q25 :: q29 :: q2 :: q10 :: q33 :: q46 :: q50 :: q102 :: q17 :: q19 :: q20 :: q21 :: q22 :: q23 :: q24 :: q26 :: q27 :: q28 :: q30 :: q31 :: q3 :: q4 :: q5 :: q6 :: q7 :: q8 :: q9 :: q11 :: q12 :: q13 :: q14 :: q15 :: q34 :: q35 :: q36 :: q37 :: q38 :: q39 :: q40 :: q41 :: q42 :: q43 :: q44 :: q45 :: q47 :: q48 :: q49 :: q51 :: q52 :: q53 :: q54 :: q55 :: q103 :: q104 :: q105 :: q106 :: q107 :: q108 :: q109 :: q110 :: q111 :: q112 :: q113 :: q114 :: q115 :: q116 :: q117 :: q118 :: q119 :: q120 :: q121 :: q122 :: q123 :: q124 :: q125 :: q126 :: q127 :: q128 :: q129 :: q130 :: (r101 0) :: (r101 1) :: (r101 2) :: (r101 3) :: q32 :: q159 :: []) b sy sn sa y0 y1 y2 fm)).map some := by
  apply List.ext_getElem?
  intro k
  rw [List.getElem?_map (l := wl _ _ _)]
  match k with
  | 0 => rw [wl_at (q := 0) rfl]; rfl
  | 1 => rw [wl_at (q := 1) rfl]; rfl
  | 2 => rw [wl_at (q := 2) rfl]; rfl
  | 3 => rw [wl_at (q := 3) rfl]; rfl
  | 4 => rw [wl_at (q := 4) rfl]; rfl
  | 5 => rw [wl_at (q := 5) rfl]; rfl
  | 6 => rw [wl_at (q := 6) rfl]; rfl
  | 7 => rw [wl_at (q := 7) rfl]; rfl
  | 8 => rw [wl_at (q := 8) rfl]; rfl
  | 9 => rw [wl_at (q := 9) rfl]; rfl
  | 10 => rw [wl_at (q := 10) rfl]; rfl
  | 11 => rw [wl_at (q := 11) rfl]; rfl
  | 12 => rw [wl_at (q := 12) rfl]; rfl
  | 13 => rw [wl_at (q := 13) rfl]; rfl
  | 14 => rw [wl_at (q := 14) rfl]; rfl
  | 15 => rw [wl_at (q := 15) rfl]; rfl
  | 16 => rw [wl_at (q := 16) rfl]; rfl
  | 17 => rw [wl_at (q := 17) rfl]; rfl
  | 18 => rw [wl_at (q := 18) rfl]; rfl
  | 19 => rw [wl_at (q := 19) rfl]; rfl
  | 20 => rw [wl_at (q := 20) rfl]; rfl
  | 21 => rw [wl_at (q := 21) rfl]; rfl
  | 22 => rw [wl_at (q := 22) rfl]; rfl
  | 23 => rw [wl_at (q := 23) rfl]; rfl
  | 24 => rw [wl_at (q := 24) rfl]; rfl
  | 25 => rw [wl_at (q := 25) rfl]; rfl
  | 26 => rw [wl_at (q := 26) rfl]; rfl
  | 27 => rw [wl_at (q := 27) rfl]; rfl
  | 28 => rw [wl_at (q := 28) rfl]; rfl
  | 29 => rw [wl_at (q := 29) rfl]; rfl
  | 30 => rw [wl_at (q := 30) rfl]; rfl
  | 31 => rw [wl_at (q := 31) rfl]; rfl
  | 32 => rw [wl_at (q := 32) rfl]; rfl
  | 33 => rw [wl_at (q := 33) rfl]; rfl
  | 34 => rw [wl_at (q := 34) rfl]; rfl
  | 35 => rw [wl_at (q := 35) rfl]; rfl
  | 36 => rw [wl_at (q := 36) rfl]; rfl
  | 37 => rw [wl_at (q := 37) rfl]; rfl
  | 38 => rw [wl_at (q := 38) rfl]; rfl
  | 39 => rw [wl_at (q := 39) rfl]; rfl
  | 40 => rw [wl_at (q := 40) rfl]; rfl
  | 41 => rw [wl_at (q := 41) rfl]; rfl
  | 42 => rw [wl_at (q := 42) rfl]; rfl
  | 43 => rw [wl_at (q := 43) rfl]; rfl
  | 44 => rw [wl_at (q := 44) rfl]; rfl
  | 45 => rw [wl_at (q := 45) rfl]; rfl
  | 46 => rw [wl_at (q := 46) rfl]; rfl
  | 47 => rw [wl_at (q := 47) rfl]; rfl
  | 48 => rw [wl_at (q := 48) rfl]; rfl
  | 49 => rw [wl_at (q := 49) rfl]; rfl
  | 50 => rw [wl_at (q := 50) rfl]; rfl
  | 51 => rw [wl_at (q := 51) rfl]; rfl
  | 52 => rw [wl_at (q := 52) rfl]; rfl
  | 53 => rw [wl_at (q := 53) rfl]; rfl
  | 54 => rw [wl_at (q := 54) rfl]; rfl
  | 55 => rw [wl_at (q := 55) rfl]; rfl
  | 56 => rw [wl_at (q := 56) rfl]; rfl
  | 57 => rw [wl_at (q := 57) rfl]; rfl
  | 58 => rw [wl_at (q := 58) rfl]; rfl
  | 59 => rw [wl_at (q := 59) rfl]; rfl
  | 60 => rw [wl_at (q := 60) rfl]; rfl
  | 61 => rw [wl_at (q := 61) rfl]; rfl
  | 62 => rw [wl_at (q := 62) rfl]; rfl
  | 63 => rw [wl_at (q := 63) rfl]; rfl
  | 64 => rw [wl_at (q := 64) rfl]; rfl
  | 65 => rw [wl_at (q := 65) rfl]; rfl
  | 66 => rw [wl_at (q := 66) rfl]; rfl
  | 67 => rw [wl_at (q := 67) rfl]; rfl
  | 68 => rw [wl_at (q := 68) rfl]; rfl
  | 69 => rw [wl_at (q := 69) rfl]; rfl
  | 70 => rw [wl_at (q := 70) rfl]; rfl
  | 71 => rw [wl_at (q := 71) rfl]; rfl
  | 72 => rw [wl_at (q := 72) rfl]; rfl
  | 73 => rw [wl_at (q := 73) rfl]; rfl
  | 74 => rw [wl_at (q := 74) rfl]; rfl
  | 75 => rw [wl_at (q := 75) rfl]; rfl
  | 76 => rw [wl_at (q := 76) rfl]; rfl
  | 77 => rw [wl_at (q := 77) rfl]; rfl
  | 78 => rw [wl_at (q := 78) rfl]; rfl
  | 79 => rw [wl_at (q := 79) rfl]; rfl
  | 80 => rw [wl_at (q := 80) rfl]; rfl
  | 81 => rw [wl_at (q := 81) rfl]; rfl
  | 82 => rw [wl_at (q := 82) rfl]; rfl
  | 83 => rw [wl_at (q := 83) rfl]; rfl
  | 84 => rw [wl_at (q := 84) rfl]; rfl
  | 85 => rw [wl_at (q := 85) rfl]; rfl
  | 86 => rw [wl_at (q := 86) rfl]; rfl
  | 87 => rw [wl_at (q := 87) rfl]; rfl
  | 88 => rw [wl_at (q := 88) rfl]; rfl
  | n + 89 =>
    rw [List.getElem?_eq_none (l := wl _ _ _) (by unfold wl; rw [List.length_mapIdx]; exact Nat.le_add_left _ _)]
    exact List.getElem?_eq_none (by rw [List.length_map]; exact Nat.le_add_left _ _)
theorem filterMap_of_map {α β : Type} {f : α → Option β} : ∀ (l : List α) (u : List β), l.map f = u.map some → l.filterMap f = u
  | [], [], _ => rfl
  | [], _ :: _, h => by simp at h
  | _ :: _, [], h => by simp at h
  | a :: l, c :: u, h => by
    rw [List.map_cons, List.map_cons] at h
    obtain ⟨h1, h2⟩ := List.cons.inj h
    rw [List.filterMap_cons_some h1, filterMap_of_map l u h2]
theorem va_fourG {D : va_G} {cl : List vw_C} {q : Nat} {cA : ClassId} {r1 r2 : Nat → Option Nat} {H : Heap} (h : va_at D cl (q, (Sum.inl (cA, 4, .inr (.inr (.inr (.inr r1)))) : va_E)) H) (hr : ∀ i, i < 4 → r1 i = r2 i) : va_at D cl (q, (Sum.inl (cA, 4, .inr (.inr (.inr (.inr r2)))) : va_E)) H := by
  show H[q]? = some (vp_cell cA (4, .inr (.inr (.inr (.inr r2)))))
  have h1 : H[q]? = some (vp_cell cA (4, .inr (.inr (.inr (.inr r1))))) := h
  rw [h1, vp_cell_q, vp_cell_q]
  exact congrArg some (arrV_congr (fun j hj => by rw [hr j hj]))
theorem nd89 : va_nd (0 :: 15 :: 17 :: 24 :: 28 :: 1 :: 9 :: 36 :: 49 :: 53 :: 59 :: 16 :: 18 :: 19 :: 20 :: 21 :: 22 :: 23 :: 25 :: 26 :: 27 :: 29 :: 30 :: 2 :: 3 :: 4 :: 5 :: 6 :: 7 :: 8 :: 10 :: 11 :: 12 :: 13 :: 14 :: 37 :: 38 :: 39 :: 40 :: 41 :: 42 :: 43 :: 44 :: 45 :: 46 :: 47 :: 48 :: 50 :: 51 :: 52 :: 54 :: 55 :: 56 :: 57 :: 58 :: 60 :: 61 :: 62 :: 63 :: 64 :: 65 :: 66 :: 67 :: 68 :: 69 :: 70 :: 71 :: 72 :: 73 :: 74 :: 75 :: 76 :: 77 :: 78 :: 79 :: 80 :: 81 :: 82 :: 83 :: 84 :: 85 :: 86 :: 87 :: 32 :: 33 :: 34 :: 35 :: 31 :: 88 :: []) = true := by decide +kernel
set_option maxRecDepth 100000 in
set_option maxHeartbeats 4000000 in
theorem sc_rfl (q1 q2 q3 q4 q5 q6 q7 q8 q9 q10 q11 q12 q13 q14 q15 q16 q17 q18 q19 q20 q21 q22 q23 q24 q25 q26 q27 q28 q29 q30 q31 q32 q33 q34 q35 q36 q37 q38 q39 q40 q41 q42 q43 q44 q45 q46 q47 q48 q49 q50 q51 q52 q53 q54 q55 q102 q103 q104 q105 q106 q107 q108 q109 q110 q111 q112 q113 q114 q115 q116 q117 q118 q119 q120 q121 q122 q123 q124 q125 q126 q127 q128 q129 q130 q159 : Nat) (c56 c57 c58 c59 c60 c61 c62 c63 c64 c65 c66 c67 c68 c69 c70 c71 c72 c73 c74 c75 c76 c77 c78 c79 c80 c81 c82 c83 c84 c85 c86 c87 c88 c89 c90 c91 c92 c93 c94 c95 c96 c97 c98 c99 c100 c131 c132 c133 c134 c135 c136 c137 c138 c139 c140 c141 c142 c143 c144 c145 c146 c147 c148 c149 c150 c151 c152 c153 c154 c155 c156 c157 c158 c160 : ClassId) (r101 : Nat → Nat) (sy sn : Nat) : ((q1, .inr (9, [.ref q16, .ref q18, .ref q25, .ref q29, .ref q2, .ref q10, .ref q33, .ref q46, .ref q50, .int 0, .int 0])) :: (q2, .inr (6, [.ref q3, .ref q4, .ref q5, .ref q6, .ref q7, .ref q8, .ref q9, .int 0, .int 0, .int 0])) :: (q3, .inl (c56, 8, .inl (fun _ => 0))) :: (q4, .inl (c57, 8, .inl (fun _ => 0))) :: (q5, .inl (c58, 128, .inl (fun _ => 0))) :: (q6, .inl (c59, 256, .inr (.inl (fun _ => 0)))) :: (q7, .inl (c60, 128, .inl (fun _ => 0))) :: (q8, .inl (c61, 1536, .inr (.inl (fun _ => 0)))) :: (q9, .inl (c62, 96, .inl (fun _ => 0))) :: (q10, .inr (0, [.ref q2, .ref q11, .ref q12, .ref q13, .ref q14, .ref q15, .int 1])) :: (q11, .inl (c63, 18, .inl (fun _ => 0))) :: (q12, .inl (c64, 18, .inl (fun _ => 0))) :: (q13, .inl (c65, 19, .inl (fun _ => 0))) :: (q14, .inl (c66, 96, .inl (fun _ => 0))) :: (q15, .inl (c67, 8, .inl (fun _ => 0))) :: (q16, .inr (8, [.ref q17, .int 0])) :: (q17, .inl (c68, 200, .inl (fun _ => 0))) :: (q18, .inr (5, [.ref q19, .ref q20, .ref q19, .int 0, .int (-1), .ref q21, .ref q22, .ref q23, .ref q24, .int 0])) :: (q19, .inl (c69, 201, .inr (.inl (fun _ => 0)))) :: (q20, .inl (c70, 201, .inl (fun _ => 0))) :: (q21, .inl (c71, 12, .inl (fun _ => 0))) :: (q22, .inl (c72, 24, .inr (.inl (fun _ => 0)))) :: (q23, .inl (c73, 12, .inl (fun _ => 0))) :: (q24, .inl (c74, 144, .inr (.inl (fun _ => 0)))) :: (q25, .inr (3, [.ref q26, .ref q27, .ref q26, .int 0, .int (-1), .ref q28, .int 0])) :: (q26, .inl (c75, 201, .inr (.inl (fun _ => 0)))) :: (q27, .inl (c76, 201, .inl (fun _ => 0))) :: (q28, .inl (c77, 20, .inl (fun _ => 0))) :: (q29, .inr (1, [.ref q30, .ref q31, .ref q30, .int 0, .int (-1), .ref q32, .int 0, .long 0, .int 0, .int 0, .int 0, .int 0, .int 0])) :: (q30, .inl (c78, 201, .inr (.inl (fun _ => 0)))) :: (q31, .inl (c79, 201, .inl (fun _ => 0))) :: (q32, .inl (c80, 4, .inr (.inr (.inr (.inr (fun i => some (r101 i))))))) :: ((r101 0), .inl (c78, 201, .inr (.inl (fun _ => 0)))) :: ((r101 1), .inl (c78, 201, .inr (.inl (fun _ => 0)))) :: ((r101 2), .inl (c78, 201, .inr (.inl (fun _ => 0)))) :: ((r101 3), .inl (c78, 201, .inr (.inl (fun _ => 0)))) :: (q33, .inr (2, [.ref q2, .ref q10, .ref q34, .ref q35, .ref q36, .ref q37, .ref q38, .ref q39, .ref q40, .ref q41, .ref q42, .ref q43, .int 0, .int 0, .int 0, .int 0, .int 0, .ref q44, .ref q45])) :: (q34, .inl (c81, 8, .inl (fun _ => 0))) :: (q35, .inl (c82, 8, .inl (fun _ => 0))) :: (q36, .inl (c83, 8, .inl (fun _ => 0))) :: (q37, .inl (c84, 8, .inl (fun _ => 0))) :: (q38, .inl (c85, 20, .inl (fun _ => 0))) :: (q39, .inl (c86, 8, .inl (fun _ => 0))) :: (q40, .inl (c87, 8, .inl (fun _ => 0))) :: (q41, .inl (c88, 8, .inl (fun _ => 0))) :: (q42, .inl (c89, 8, .inr (.inl (fun _ => 0)))) :: (q43, .inl (c90, 420, .inr (.inl (fun _ => 0)))) :: (q44, .inl (c91, 0, .inr (.inl (fun _ => 0)))) :: (q45, .inl (c92, 0, .inr (.inl (fun _ => 0)))) :: (q46, .inr (7, [.ref q2, .ref q10, .ref q47, .ref q48, .ref q49, .int 0, .int 0])) :: (q47, .inl (c93, 96, .inl (fun _ => 0))) :: (q48, .inl (c94, 96, .inl (fun _ => 0))) :: (q49, .inl (c95, 8, .inl (fun _ => 0))) :: (q50, .inr (4, [.ref q51, .ref q52, .ref q53, .ref q54, .ref q55, .int 0, .int 0])) :: (q51, .inl (c96, 80, .inl (fun _ => 0))) :: (q52, .inl (c97, 4, .inl (fun _ => 0))) :: (q53, .inl (c98, 10, .inl (fun _ => 0))) :: (q54, .inl (c99, 10, .inl (fun _ => 0))) :: (q55, .inl (c100, 10, .inl (fun _ => 0))) :: (q102, .inr (10, [.int 0, .ref q103, .ref q104, .ref q105, .ref q106, .ref q107, .ref q103, .int 0, .int 0, .int 0, .int 0, .int 0, .int 0, .int 0, .int 0, .int 0, .int 0, .int 0, .ref sy, .ref sn, .int 0, .ref q108, .ref q109, .ref q110, .ref q111, .ref q112, .ref q113, .ref q114, .ref q115, .ref q116, .ref q117, .ref q118, .ref q119, .ref q120, .int 0, .int 0, .int 1, .ref q121, .ref q122, .ref q123, .ref q124, .ref q125, .int 0, .int 0, .ref q126, .ref q127, .ref q128, .ref q129, .int 0, .int 0, .int 0, .ref q130, .int 0, .int 0])) :: (q103, .inl (c131, 200, .inl (fun _ => 0))) :: (q104, .inl (c132, 1800, .inl (fun _ => 0))) :: (q105, .inl (c133, 800, .inl (fun _ => 0))) :: (q106, .inl (c134, 4, .inl (fun _ => 0))) :: (q107, .inl (c135, 128, .inl (fun _ => 0))) :: (q108, .inl (c136, 9, .inl (fun _ => 0))) :: (q109, .inl (c137, 144, .inl (fun _ => 0))) :: (q110, .inl (c138, 144, .inl (fun _ => 0))) :: (q111, .inl (c139, 288, .inl (fun _ => 0))) :: (q112, .inl (c140, 288, .inl (fun _ => 0))) :: (q113, .inl (c141, 1728, .inl (fun _ => 0))) :: (q114, .inl (c142, 1728, .inl (fun _ => 0))) :: (q115, .inl (c143, 5, .inl (fun _ => 0))) :: (q116, .inl (c144, 100, .inl (fun _ => 0))) :: (q117, .inl (c145, 8, .inl (fun _ => 0))) :: (q118, .inl (c146, 20, .inl (fun _ => 0))) :: (q119, .inl (c147, 20, .inl (fun _ => 0))) :: (q120, .inl (c148, 441, .inl (fun _ => 0))) :: (q121, .inl (c149, 9, .inl (fun _ => 0))) :: (q122, .inl (c150, 180009, .inl (fun _ => 0))) :: (q123, .inl (c151, 180009, .inl (fun _ => 0))) :: (q124, .inl (c152, 180009, .inr (.inl (fun _ => 0)))) :: (q125, .inl (c153, 180009, .inr (.inl (fun _ => 0)))) :: (q126, .inl (c154, 96, .inl (fun _ => 0))) :: (q127, .inl (c155, 96, .inl (fun _ => 0))) :: (q128, .inl (c156, 8, .inl (fun _ => 0))) :: (q129, .inl (c157, 8, .inl (fun _ => 0))) :: (q130, .inl (c158, 10, .inl (fun _ => 0))) :: (q159, .inl (c160, 1, .inr (.inl (fun _ => 0)))) :: []) = (startCells q1 q2 q3 q4 q5 q6 q7 q8 q9 q10 q11 q12 q13 q14 q15 q16 q17 q18 q19 q20 q21 q22 q23 q24 q25 q26 q27 q28 q29 q30 q31 q32 q33 q34 q35 q36 q37 q38 q39 q40 q41 q42 q43 q44 q45 q46 q47 q48 q49 q50 q51 q52 q53 q54 q55 q102 q103 q104 q105 q106 q107 q108 q109 q110 q111 q112 q113 q114 q115 q116 q117 q118 q119 q120 q121 q122 q123 q124 q125 q126 q127 q128 q129 q130 q159 (c56 :: c57 :: c58 :: c59 :: c60 :: c61 :: c62 :: c63 :: c64 :: c65 :: c66 :: c67 :: c68 :: c69 :: c70 :: c71 :: c72 :: c73 :: c74 :: c75 :: c76 :: c77 :: c78 :: c79 :: c80 :: c81 :: c82 :: c83 :: c84 :: c85 :: c86 :: c87 :: c88 :: c89 :: c90 :: c91 :: c92 :: c93 :: c94 :: c95 :: c96 :: c97 :: c98 :: c99 :: c100 :: c131 :: c132 :: c133 :: c134 :: c135 :: c136 :: c137 :: c138 :: c139 :: c140 :: c141 :: c142 :: c143 :: c144 :: c145 :: c146 :: c147 :: c148 :: c149 :: c150 :: c151 :: c152 :: c153 :: c154 :: c155 :: c156 :: c157 :: c158 :: c160 :: []) c56 (fun i => some (r101 i)) r101  sy sn) := rfl
set_option maxRecDepth 100000 in
set_option maxHeartbeats 4000000 in
theorem sc_at (q1 q2 q3 q4 q5 q6 q7 q8 q9 q10 q11 q12 q13 q14 q15 q16 q17 q18 q19 q20 q21 q22 q23 q24 q25 q26 q27 q28 q29 q30 q31 q32 q33 q34 q35 q36 q37 q38 q39 q40 q41 q42 q43 q44 q45 q46 q47 q48 q49 q50 q51 q52 q53 q54 q55 q102 q103 q104 q105 q106 q107 q108 q109 q110 q111 q112 q113 q114 q115 q116 q117 q118 q119 q120 q121 q122 q123 q124 q125 q126 q127 q128 q129 q130 q159 : Nat) (cs : List ClassId) (d0 : ClassId) (tx : Nat → Option Nat) (r101 : Nat → Nat) (sy sn : Nat) : (startCells q1 q2 q3 q4 q5 q6 q7 q8 q9 q10 q11 q12 q13 q14 q15 q16 q17 q18 q19 q20 q21 q22 q23 q24 q25 q26 q27 q28 q29 q30 q31 q32 q33 q34 q35 q36 q37 q38 q39 q40 q41 q42 q43 q44 q45 q46 q47 q48 q49 q50 q51 q52 q53 q54 q55 q102 q103 q104 q105 q106 q107 q108 q109 q110 q111 q112 q113 q114 q115 q116 q117 q118 q119 q120 q121 q122 q123 q124 q125 q126 q127 q128 q129 q130 q159 cs d0 tx r101 sy sn)[31]? = some (q32, .inl (cs.getD 24 d0, 4, .inr (.inr (.inr (.inr tx))))) := rfl
set_option maxRecDepth 100000 in
set_option maxHeartbeats 4000000 in
theorem sc_set (q1 q2 q3 q4 q5 q6 q7 q8 q9 q10 q11 q12 q13 q14 q15 q16 q17 q18 q19 q20 q21 q22 q23 q24 q25 q26 q27 q28 q29 q30 q31 q32 q33 q34 q35 q36 q37 q38 q39 q40 q41 q42 q43 q44 q45 q46 q47 q48 q49 q50 q51 q52 q53 q54 q55 q102 q103 q104 q105 q106 q107 q108 q109 q110 q111 q112 q113 q114 q115 q116 q117 q118 q119 q120 q121 q122 q123 q124 q125 q126 q127 q128 q129 q130 q159 : Nat) (cs : List ClassId) (d0 : ClassId) (tx tx2 : Nat → Option Nat) (r101 : Nat → Nat) (sy sn : Nat) : (startCells q1 q2 q3 q4 q5 q6 q7 q8 q9 q10 q11 q12 q13 q14 q15 q16 q17 q18 q19 q20 q21 q22 q23 q24 q25 q26 q27 q28 q29 q30 q31 q32 q33 q34 q35 q36 q37 q38 q39 q40 q41 q42 q43 q44 q45 q46 q47 q48 q49 q50 q51 q52 q53 q54 q55 q102 q103 q104 q105 q106 q107 q108 q109 q110 q111 q112 q113 q114 q115 q116 q117 q118 q119 q120 q121 q122 q123 q124 q125 q126 q127 q128 q129 q130 q159 cs d0 tx r101 sy sn).set 31 (q32, .inl (cs.getD 24 d0, 4, .inr (.inr (.inr (.inr tx2))))) = startCells q1 q2 q3 q4 q5 q6 q7 q8 q9 q10 q11 q12 q13 q14 q15 q16 q17 q18 q19 q20 q21 q22 q23 q24 q25 q26 q27 q28 q29 q30 q31 q32 q33 q34 q35 q36 q37 q38 q39 q40 q41 q42 q43 q44 q45 q46 q47 q48 q49 q50 q51 q52 q53 q54 q55 q102 q103 q104 q105 q106 q107 q108 q109 q110 q111 q112 q113 q114 q115 q116 q117 q118 q119 q120 q121 q122 q123 q124 q125 q126 q127 q128 q129 q130 q159 cs d0 tx2 r101 sy sn := rfl
set_option maxRecDepth 100000 in
set_option maxHeartbeats 4000000 in
theorem lof_tx (b sy sn sa y0 y1 y2 fm : Nat) (q1 q2 q3 q4 q5 q6 q7 q8 q9 q10 q11 q12 q13 q14 q15 q16 q17 q18 q19 q20 q21 q22 q23 q24 q25 q26 q27 q28 q29 q30 q31 q32 q33 q34 q35 q36 q37 q38 q39 q40 q41 q42 q43 q44 q45 q46 q47 q48 q49 q50 q51 q52 q53 q54 q55 q102 q103 q104 q105 q106 q107 q108 q109 q110 q111 q112 q113 q114 q115 q116 q117 q118 q119 q120 q121 q122 q123 q124 q125 q126 q127 q128 q129 q130 q159 : Nat) (r101 : Nat → Nat) : ∀ i, i < 4 → some (r101 i) = some ((Lof (q1 :: q16 :: q18 :: q25 :: q29 :: q2 :: q10 :: q33 :: q46 :: q50 :: q102 :: q17 :: q19 :: q20 :: q21 :: q22 :: q23 :: q24 :: q26 :: q27 :: q28 :: q30 :: q31 :: q3 :: q4 :: q5 :: q6 :: q7 :: q8 :: q9 :: q11 :: q12 :: q13 :: q14 :: q15 :: q34 :: q35 :: q36 :: q37 :: q38 :: q39 :: q40 :: q41 :: q42 :: q43 :: q44 :: q45 :: q47 :: q48 :: q49 :: q51 :: q52 :: q53 :: q54 :: q55 :: q103 :: q104 :: q105 :: q106 :: q107 :: q108 :: q109 :: q110 :: q111 :: q112 :: q113 :: q114 :: q115 :: q116 :: q117 :: q118 :: q119 :: q120 :: q121 :: q122 :: q123 :: q124 :: q125 :: q126 :: q127 :: q128 :: q129 :: q130 :: (r101 0) :: (r101 1) :: (r101 2) :: (r101 3) :: q32 :: q159 :: []) b sy sn sa y0 y1 y2 fm) (83 + i)) := by
  intro i hi
  rcases (show i = 0 ∨ i = 1 ∨ i = 2 ∨ i = 3 by omega) with rfl | rfl | rfl | rfl <;> rfl
set_option maxRecDepth 100000 in
set_option maxHeartbeats 4000000 in
theorem cs_eq {D : va_G} {U : State} (c56 c57 c58 c59 c60 c61 c62 c63 c64 c65 c66 c67 c68 c69 c70 c71 c72 c73 c74 c75 c76 c77 c78 c79 c80 c81 c82 c83 c84 c85 c86 c87 c88 c89 c90 c91 c92 c93 c94 c95 c96 c97 c98 c99 c100 c131 c132 c133 c134 c135 c136 c137 c138 c139 c140 c141 c142 c143 c144 c145 c146 c147 c148 c149 c150 c151 c152 c153 c154 c155 c156 c157 c158 c160 : ClassId) (hK : va_K D vwCl ((c56, .int) :: (c57, .int) :: (c58, .int) :: (c59, .long) :: (c60, .int) :: (c61, .long) :: (c62, .int) :: (c63, .int) :: (c64, .int) :: (c65, .int) :: (c66, .boolean) :: (c67, .int) :: (c68, .byte) :: (c69, .long) :: (c70, .int) :: (c71, .int) :: (c72, .long) :: (c73, .int) :: (c74, .long) :: (c75, .long) :: (c76, .int) :: (c77, .int) :: (c78, .long) :: (c79, .int) :: (c80, .array .long) :: (c81, .int) :: (c82, .int) :: (c83, .int) :: (c84, .int) :: (c85, .int) :: (c86, .int) :: (c87, .int) :: (c88, .int) :: (c89, .long) :: (c90, .long) :: (c91, .long) :: (c92, .long) :: (c93, .int) :: (c94, .int) :: (c95, .int) :: (c96, .int) :: (c97, .int) :: (c98, .int) :: (c99, .int) :: (c100, .int) :: (c131, .byte) :: (c132, .byte) :: (c133, .byte) :: (c134, .int) :: (c135, .int) :: (c136, .int) :: (c137, .int) :: (c138, .int) :: (c139, .int) :: (c140, .int) :: (c141, .int) :: (c142, .int) :: (c143, .int) :: (c144, .int) :: (c145, .int) :: (c146, .int) :: (c147, .int) :: (c148, .int) :: (c149, .int) :: (c150, .int) :: (c151, .int) :: (c152, .long) :: (c153, .long) :: (c154, .int) :: (c155, .int) :: (c156, .int) :: (c157, .boolean) :: (c158, .int) :: (c160, .long) :: []) U) : ((c56 :: c57 :: c58 :: c59 :: c60 :: c61 :: c62 :: c63 :: c64 :: c65 :: c66 :: c67 :: c68 :: c69 :: c70 :: c71 :: c72 :: c73 :: c74 :: c75 :: c76 :: c77 :: c78 :: c79 :: c80 :: c81 :: c82 :: c83 :: c84 :: c85 :: c86 :: c87 :: c88 :: c89 :: c90 :: c91 :: c92 :: c93 :: c94 :: c95 :: c96 :: c97 :: c98 :: c99 :: c100 :: c131 :: c132 :: c133 :: c134 :: c135 :: c136 :: c137 :: c138 :: c139 :: c140 :: c141 :: c142 :: c143 :: c144 :: c145 :: c146 :: c147 :: c148 :: c149 :: c150 :: c151 :: c152 :: c153 :: c154 :: c155 :: c156 :: c157 :: c158 :: c160 :: []) : List ClassId) = (c56 :: c56 :: c56 :: c59 :: c56 :: c59 :: c56 :: c56 :: c56 :: c56 :: c66 :: c56 :: c68 :: c59 :: c56 :: c56 :: c59 :: c56 :: c59 :: c59 :: c56 :: c56 :: c59 :: c56 :: c80 :: c56 :: c56 :: c56 :: c56 :: c56 :: c56 :: c56 :: c56 :: c59 :: c59 :: c59 :: c59 :: c56 :: c56 :: c56 :: c56 :: c56 :: c56 :: c56 :: c56 :: c68 :: c68 :: c68 :: c56 :: c56 :: c56 :: c56 :: c56 :: c56 :: c56 :: c56 :: c56 :: c56 :: c56 :: c56 :: c56 :: c56 :: c56 :: c56 :: c56 :: c56 :: c59 :: c59 :: c56 :: c56 :: c56 :: c66 :: c56 :: c59 :: []) := by
  have e1 : c56 = c57 := ceq hK 0 1 rfl rfl (fun C h => by cases h)
  have e2 : c56 = c58 := ceq hK 0 2 rfl rfl (fun C h => by cases h)
  have e4 : c56 = c60 := ceq hK 0 4 rfl rfl (fun C h => by cases h)
  have e5 : c59 = c61 := ceq hK 3 5 rfl rfl (fun C h => by cases h)
  have e6 : c56 = c62 := ceq hK 0 6 rfl rfl (fun C h => by cases h)
  have e7 : c56 = c63 := ceq hK 0 7 rfl rfl (fun C h => by cases h)
  have e8 : c56 = c64 := ceq hK 0 8 rfl rfl (fun C h => by cases h)
  have e9 : c56 = c65 := ceq hK 0 9 rfl rfl (fun C h => by cases h)
  have e11 : c56 = c67 := ceq hK 0 11 rfl rfl (fun C h => by cases h)
  have e13 : c59 = c69 := ceq hK 3 13 rfl rfl (fun C h => by cases h)
  have e14 : c56 = c70 := ceq hK 0 14 rfl rfl (fun C h => by cases h)
  have e15 : c56 = c71 := ceq hK 0 15 rfl rfl (fun C h => by cases h)
  have e16 : c59 = c72 := ceq hK 3 16 rfl rfl (fun C h => by cases h)
  have e17 : c56 = c73 := ceq hK 0 17 rfl rfl (fun C h => by cases h)
  have e18 : c59 = c74 := ceq hK 3 18 rfl rfl (fun C h => by cases h)
  have e19 : c59 = c75 := ceq hK 3 19 rfl rfl (fun C h => by cases h)
  have e20 : c56 = c76 := ceq hK 0 20 rfl rfl (fun C h => by cases h)
  have e21 : c56 = c77 := ceq hK 0 21 rfl rfl (fun C h => by cases h)
  have e22 : c59 = c78 := ceq hK 3 22 rfl rfl (fun C h => by cases h)
  have e23 : c56 = c79 := ceq hK 0 23 rfl rfl (fun C h => by cases h)
  have e25 : c56 = c81 := ceq hK 0 25 rfl rfl (fun C h => by cases h)
  have e26 : c56 = c82 := ceq hK 0 26 rfl rfl (fun C h => by cases h)
  have e27 : c56 = c83 := ceq hK 0 27 rfl rfl (fun C h => by cases h)
  have e28 : c56 = c84 := ceq hK 0 28 rfl rfl (fun C h => by cases h)
  have e29 : c56 = c85 := ceq hK 0 29 rfl rfl (fun C h => by cases h)
  have e30 : c56 = c86 := ceq hK 0 30 rfl rfl (fun C h => by cases h)
  have e31 : c56 = c87 := ceq hK 0 31 rfl rfl (fun C h => by cases h)
  have e32 : c56 = c88 := ceq hK 0 32 rfl rfl (fun C h => by cases h)
  have e33 : c59 = c89 := ceq hK 3 33 rfl rfl (fun C h => by cases h)
  have e34 : c59 = c90 := ceq hK 3 34 rfl rfl (fun C h => by cases h)
  have e35 : c59 = c91 := ceq hK 3 35 rfl rfl (fun C h => by cases h)
  have e36 : c59 = c92 := ceq hK 3 36 rfl rfl (fun C h => by cases h)
  have e37 : c56 = c93 := ceq hK 0 37 rfl rfl (fun C h => by cases h)
  have e38 : c56 = c94 := ceq hK 0 38 rfl rfl (fun C h => by cases h)
  have e39 : c56 = c95 := ceq hK 0 39 rfl rfl (fun C h => by cases h)
  have e40 : c56 = c96 := ceq hK 0 40 rfl rfl (fun C h => by cases h)
  have e41 : c56 = c97 := ceq hK 0 41 rfl rfl (fun C h => by cases h)
  have e42 : c56 = c98 := ceq hK 0 42 rfl rfl (fun C h => by cases h)
  have e43 : c56 = c99 := ceq hK 0 43 rfl rfl (fun C h => by cases h)
  have e44 : c56 = c100 := ceq hK 0 44 rfl rfl (fun C h => by cases h)
  have e45 : c68 = c131 := ceq hK 12 45 rfl rfl (fun C h => by cases h)
  have e46 : c68 = c132 := ceq hK 12 46 rfl rfl (fun C h => by cases h)
  have e47 : c68 = c133 := ceq hK 12 47 rfl rfl (fun C h => by cases h)
  have e48 : c56 = c134 := ceq hK 0 48 rfl rfl (fun C h => by cases h)
  have e49 : c56 = c135 := ceq hK 0 49 rfl rfl (fun C h => by cases h)
  have e50 : c56 = c136 := ceq hK 0 50 rfl rfl (fun C h => by cases h)
  have e51 : c56 = c137 := ceq hK 0 51 rfl rfl (fun C h => by cases h)
  have e52 : c56 = c138 := ceq hK 0 52 rfl rfl (fun C h => by cases h)
  have e53 : c56 = c139 := ceq hK 0 53 rfl rfl (fun C h => by cases h)
  have e54 : c56 = c140 := ceq hK 0 54 rfl rfl (fun C h => by cases h)
  have e55 : c56 = c141 := ceq hK 0 55 rfl rfl (fun C h => by cases h)
  have e56 : c56 = c142 := ceq hK 0 56 rfl rfl (fun C h => by cases h)
  have e57 : c56 = c143 := ceq hK 0 57 rfl rfl (fun C h => by cases h)
  have e58 : c56 = c144 := ceq hK 0 58 rfl rfl (fun C h => by cases h)
  have e59 : c56 = c145 := ceq hK 0 59 rfl rfl (fun C h => by cases h)
  have e60 : c56 = c146 := ceq hK 0 60 rfl rfl (fun C h => by cases h)
  have e61 : c56 = c147 := ceq hK 0 61 rfl rfl (fun C h => by cases h)
  have e62 : c56 = c148 := ceq hK 0 62 rfl rfl (fun C h => by cases h)
  have e63 : c56 = c149 := ceq hK 0 63 rfl rfl (fun C h => by cases h)
  have e64 : c56 = c150 := ceq hK 0 64 rfl rfl (fun C h => by cases h)
  have e65 : c56 = c151 := ceq hK 0 65 rfl rfl (fun C h => by cases h)
  have e66 : c59 = c152 := ceq hK 3 66 rfl rfl (fun C h => by cases h)
  have e67 : c59 = c153 := ceq hK 3 67 rfl rfl (fun C h => by cases h)
  have e68 : c56 = c154 := ceq hK 0 68 rfl rfl (fun C h => by cases h)
  have e69 : c56 = c155 := ceq hK 0 69 rfl rfl (fun C h => by cases h)
  have e70 : c56 = c156 := ceq hK 0 70 rfl rfl (fun C h => by cases h)
  have e71 : c66 = c157 := ceq hK 10 71 rfl rfl (fun C h => by cases h)
  have e72 : c56 = c158 := ceq hK 0 72 rfl rfl (fun C h => by cases h)
  have e73 : c59 = c160 := ceq hK 3 73 rfl rfl (fun C h => by cases h)
  exact congr (congrArg List.cons rfl) (congr (congrArg List.cons e1.symm) (congr (congrArg List.cons e2.symm) (congr (congrArg List.cons rfl) (congr (congrArg List.cons e4.symm) (congr (congrArg List.cons e5.symm) (congr (congrArg List.cons e6.symm) (congr (congrArg List.cons e7.symm) (congr (congrArg List.cons e8.symm) (congr (congrArg List.cons e9.symm) (congr (congrArg List.cons rfl) (congr (congrArg List.cons e11.symm) (congr (congrArg List.cons rfl) (congr (congrArg List.cons e13.symm) (congr (congrArg List.cons e14.symm) (congr (congrArg List.cons e15.symm) (congr (congrArg List.cons e16.symm) (congr (congrArg List.cons e17.symm) (congr (congrArg List.cons e18.symm) (congr (congrArg List.cons e19.symm) (congr (congrArg List.cons e20.symm) (congr (congrArg List.cons e21.symm) (congr (congrArg List.cons e22.symm) (congr (congrArg List.cons e23.symm) (congr (congrArg List.cons rfl) (congr (congrArg List.cons e25.symm) (congr (congrArg List.cons e26.symm) (congr (congrArg List.cons e27.symm) (congr (congrArg List.cons e28.symm) (congr (congrArg List.cons e29.symm) (congr (congrArg List.cons e30.symm) (congr (congrArg List.cons e31.symm) (congr (congrArg List.cons e32.symm) (congr (congrArg List.cons e33.symm) (congr (congrArg List.cons e34.symm) (congr (congrArg List.cons e35.symm) (congr (congrArg List.cons e36.symm) (congr (congrArg List.cons e37.symm) (congr (congrArg List.cons e38.symm) (congr (congrArg List.cons e39.symm) (congr (congrArg List.cons e40.symm) (congr (congrArg List.cons e41.symm) (congr (congrArg List.cons e42.symm) (congr (congrArg List.cons e43.symm) (congr (congrArg List.cons e44.symm) (congr (congrArg List.cons e45.symm) (congr (congrArg List.cons e46.symm) (congr (congrArg List.cons e47.symm) (congr (congrArg List.cons e48.symm) (congr (congrArg List.cons e49.symm) (congr (congrArg List.cons e50.symm) (congr (congrArg List.cons e51.symm) (congr (congrArg List.cons e52.symm) (congr (congrArg List.cons e53.symm) (congr (congrArg List.cons e54.symm) (congr (congrArg List.cons e55.symm) (congr (congrArg List.cons e56.symm) (congr (congrArg List.cons e57.symm) (congr (congrArg List.cons e58.symm) (congr (congrArg List.cons e59.symm) (congr (congrArg List.cons e60.symm) (congr (congrArg List.cons e61.symm) (congr (congrArg List.cons e62.symm) (congr (congrArg List.cons e63.symm) (congr (congrArg List.cons e64.symm) (congr (congrArg List.cons e65.symm) (congr (congrArg List.cons e66.symm) (congr (congrArg List.cons e67.symm) (congr (congrArg List.cons e68.symm) (congr (congrArg List.cons e69.symm) (congr (congrArg List.cons e70.symm) (congr (congrArg List.cons e71.symm) (congr (congrArg List.cons e72.symm) (congr (congrArg List.cons e73.symm) (rfl))))))))))))))))))))))))))))))))))))))))))))))))))))))))))))))))))))))))))
set_option maxRecDepth 100000 in
set_option maxHeartbeats 4000000 in
theorem tys_eq {D : va_G} {U : State} (c56 c57 c58 c59 c60 c61 c62 c63 c64 c65 c66 c67 c68 c69 c70 c71 c72 c73 c74 c75 c76 c77 c78 c79 c80 c81 c82 c83 c84 c85 c86 c87 c88 c89 c90 c91 c92 c93 c94 c95 c96 c97 c98 c99 c100 c131 c132 c133 c134 c135 c136 c137 c138 c139 c140 c141 c142 c143 c144 c145 c146 c147 c148 c149 c150 c151 c152 c153 c154 c155 c156 c157 c158 c160 : ClassId) (hK : va_K D vwCl ((c56, .int) :: (c57, .int) :: (c58, .int) :: (c59, .long) :: (c60, .int) :: (c61, .long) :: (c62, .int) :: (c63, .int) :: (c64, .int) :: (c65, .int) :: (c66, .boolean) :: (c67, .int) :: (c68, .byte) :: (c69, .long) :: (c70, .int) :: (c71, .int) :: (c72, .long) :: (c73, .int) :: (c74, .long) :: (c75, .long) :: (c76, .int) :: (c77, .int) :: (c78, .long) :: (c79, .int) :: (c80, .array .long) :: (c81, .int) :: (c82, .int) :: (c83, .int) :: (c84, .int) :: (c85, .int) :: (c86, .int) :: (c87, .int) :: (c88, .int) :: (c89, .long) :: (c90, .long) :: (c91, .long) :: (c92, .long) :: (c93, .int) :: (c94, .int) :: (c95, .int) :: (c96, .int) :: (c97, .int) :: (c98, .int) :: (c99, .int) :: (c100, .int) :: (c131, .byte) :: (c132, .byte) :: (c133, .byte) :: (c134, .int) :: (c135, .int) :: (c136, .int) :: (c137, .int) :: (c138, .int) :: (c139, .int) :: (c140, .int) :: (c141, .int) :: (c142, .int) :: (c143, .int) :: (c144, .int) :: (c145, .int) :: (c146, .int) :: (c147, .int) :: (c148, .int) :: (c149, .int) :: (c150, .int) :: (c151, .int) :: (c152, .long) :: (c153, .long) :: (c154, .int) :: (c155, .int) :: (c156, .int) :: (c157, .boolean) :: (c158, .int) :: (c160, .long) :: []) U) : va_K D vwCl (tysOf (cAof c56 c68 c66 c59 c80)) U := hK.sub [0, 12, 10, 3, 24] rfl
