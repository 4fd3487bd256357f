/-! each method of class, model and the JDK's as a function over the store: by program (wip/gen) -/
def fX7_cueWordsOf (σ : St) (p0 : Int32) : Option Int32 :=
  if p0 < 0 then (some (0 : Int32))
  else (if (128 : Int32) ≤ p0 then (some (0 : Int32))
  else ((rd (zA σ 25) 128 p0).bind fun x1 => some x1))
def fX7_cueWord (σ : St) (p0 : Int32) (p1 : Int32) : Option Int64 :=
  if p0 < 0 then (some (0 : Int64))
  else (if (128 : Int32) ≤ p0 then (some (0 : Int64))
  else (if p1 < 0 then (some (0 : Int64))
  else ((fX7_cueWordsOf σ p0).bind fun x1 => if p1 < x1 then ((some ((((2 : Int32) * p0) + p1))).bind fun x2 => if (256 : Int32) ≤ x2 then (some (0 : Int64))
  else ((rd (zB σ 26) 256 x2).bind fun x3 => some x3))
  else (some (0 : Int64)))))
def fX0_alike_L26 (v1 : Int32) (v2 : Int32) (v3 : Int32) (kb : Int32 → Option Bool) (σ : St) (v4 : Int32) : Option Bool :=
  if v3 ≤ v4 then (some true)
  else ((fX7_cueWord σ v1 v4).bind fun x3 => (fX7_cueWord σ v2 v4).bind fun x4 => if (lg_cmp x3 x4) = 0 then (kb (v4 + (1 : Int32)))
  else (some false))
def fX0_alike_P26 (v1 : Int32) (v2 : Int32) (v3 : Int32) (σ : St) (v4 : Int32) : Option Bool := it (fun (kb : Int32 → Option Bool) (t : Int32) => fX0_alike_L26 v1 v2 v3 (fun v4 => kb v4) σ t) FU v4
def fX0_alike (σ : St) (p0 : Int32) (p1 : Int32) : Option Bool :=
  (fX7_cueWordsOf σ p0).bind fun x1 => (fX7_cueWordsOf σ p1).bind fun x2 => if x1 = x2 then (fX0_alike_P26 p0 p1 x1 σ (0 : Int32))
  else (some false)
def fJ9_min_7cf53 (p0 : Int32) (p1 : Int32) : Option Int32 :=
  if p1 < p0 then (some p1)
  else (some p0)
def fX0_changesBetween_L35 (v1 : Int32) (v2 : Int32) (k1 : St → Option (Int32 × St)) (kb : St → Int32 → Option (Int32 × St)) (σ : St) (v3 : Int32) : Option (Int32 × St) :=
  if v2 < v3 then (k1 σ)
  else (wr 19 v3 ((some (uA σ 32 (upd (zA σ 32) (Int32.toNatClampNeg v3) v3))).bind fun s1 => kb s1 (v3 + (1 : Int32))))
def fX0_changesBetween_P35 (v1 : Int32) (v2 : Int32) (k1 : St → Option (Int32 × St)) (σ : St) (v3 : Int32) : Option (Int32 × St) := it (fun (kb : (St × Int32) → Option (Int32 × St)) (t : St × Int32) => fX0_changesBetween_L35 v1 v2 k1 (fun σ v3 => kb (σ, v3)) t.1 t.2) FU (σ, v3)
def fX0_changesBetween_L80 (v1 : Int32) (v2 : Int32) (v3 : Int32) (k1 : St → Option (Int32 × St)) (kb : St → Int32 → Int32 → Option (Int32 × St)) (σ : St) (v4 : Int32) (v5 : Int32) : Option (Int32 × St) :=
  if v2 ≤ v5 then (k1 σ)
  else ((rd (zA σ 30) 18 v3).bind fun x6 => (rd (zA σ 31) 18 v5).bind fun x7 => if x6 = x7 then ((some ((v4 + (0 : Int32)))).bind fun x15 => (rd (zA σ 32) 19 (v5 + (1 : Int32))).bind fun x16 => (rd (zA σ 32) 19 v5).bind fun x17 => (rd (zA σ 32) 19 (v5 + (1 : Int32))).bind fun x18 => (fJ9_min_7cf53 x17 x18).bind fun x19 => (fJ9_min_7cf53 x15 ((1 : Int32) + x19)).bind fun x20 => wr 19 (v5 + (1 : Int32)) ((some (uA σ 32 (upd (zA σ 32) (Int32.toNatClampNeg (v5 + (1 : Int32))) x20))).bind fun s21 => kb s21 x16 (v5 + (1 : Int32))))
  else ((some ((v4 + (1 : Int32)))).bind fun x8 => (rd (zA σ 32) 19 (v5 + (1 : Int32))).bind fun x9 => (rd (zA σ 32) 19 v5).bind fun x10 => (rd (zA σ 32) 19 (v5 + (1 : Int32))).bind fun x11 => (fJ9_min_7cf53 x10 x11).bind fun x12 => (fJ9_min_7cf53 x8 ((1 : Int32) + x12)).bind fun x13 => wr 19 (v5 + (1 : Int32)) ((some (uA σ 32 (upd (zA σ 32) (Int32.toNatClampNeg (v5 + (1 : Int32))) x13))).bind fun s14 => kb s14 x9 (v5 + (1 : Int32)))))
def fX0_changesBetween_P80 (v1 : Int32) (v2 : Int32) (v3 : Int32) (k1 : St → Option (Int32 × St)) (σ : St) (v4 : Int32) (v5 : Int32) : Option (Int32 × St) := it (fun (kb : (St × Int32 × Int32) → Option (Int32 × St)) (t : St × Int32 × Int32) => fX0_changesBetween_L80 v1 v2 v3 k1 (fun σ v4 v5 => kb (σ, v4, v5)) t.1 t.2.1 t.2.2) FU (σ, v4, v5)
def fX0_changesBetween_L55 (v1 : Int32) (v2 : Int32) (kb : St → Int32 → Option (Int32 × St)) (σ : St) (v3 : Int32) : Option (Int32 × St) :=
  if v1 ≤ v3 then ((rd (zA σ 32) 19 v2).bind fun x3 => some (x3, σ))
  else ((rd (zA σ 32) 19 (0 : Int32)).bind fun x4 => wr 19 (0 : Int32) ((some (uA σ 32 (upd (zA σ 32) (Int32.toNatClampNeg (0 : Int32)) (v3 + (1 : Int32))))).bind fun s5 => fX0_changesBetween_P80 v1 v2 v3 (fun s22 => kb s22 (v3 + (1 : Int32))) s5 x4 (0 : Int32)))
def fX0_changesBetween_P55 (v1 : Int32) (v2 : Int32) (σ : St) (v3 : Int32) : Option (Int32 × St) := it (fun (kb : (St × Int32) → Option (Int32 × St)) (t : St × Int32) => fX0_changesBetween_L55 v1 v2 (fun σ v3 => kb (σ, v3)) t.1 t.2) FU (σ, v3)
def fX0_changesBetween (σ : St) (p0 : Int32) (p1 : Int32) : Option (Int32 × St) :=
  if (18 : Int32) < p0 then (some ((0 : Int32), σ))
  else (if (19 : Int32) ≤ p1 then (some ((0 : Int32), σ))
  else (if (18 : Int32) < p1 then (some ((0 : Int32), σ))
  else (if 0 ≤ p1 then (fX0_changesBetween_P35 p0 p1 (fun s2 => fX0_changesBetween_P55 p0 p1 s2 (0 : Int32)) σ (0 : Int32))
  else (some ((0 : Int32), σ)))))
def fX7_wordsOf (σ : St) (p0 : Int32) : Option Int32 :=
  if p0 < 0 then (some (0 : Int32))
  else (if (128 : Int32) ≤ p0 then (some (0 : Int32))
  else ((rd (zA σ 27) 128 p0).bind fun x1 => some x1))
def fX7_word (σ : St) (p0 : Int32) (p1 : Int32) : Option Int64 :=
  if p0 < 0 then (some (0 : Int64))
  else (if (128 : Int32) ≤ p0 then (some (0 : Int64))
  else (if p1 < 0 then (some (0 : Int64))
  else ((fX7_wordsOf σ p0).bind fun x1 => if p1 < x1 then ((some ((((12 : Int32) * p0) + p1))).bind fun x2 => if (1536 : Int32) ≤ x2 then (some (0 : Int64))
  else ((rd (zB σ 28) 1536 x2).bind fun x3 => some x3))
  else (some (0 : Int64)))))
def fX0_closes_L35 (v1 : Int32) (v2 : Int32) (v3 : Int32) (v4 : Int32) (kb : Int32 → Option Bool) (σ : St) (v5 : Int32) : Option Bool :=
  if v3 ≤ v5 then (some true)
  else ((fX7_cueWord σ v1 v5).bind fun x4 => (fX7_word σ v2 (v4 + v5)).bind fun x5 => if (lg_cmp x4 x5) = 0 then (kb (v5 + (1 : Int32)))
  else (some false))
def fX0_closes_P35 (v1 : Int32) (v2 : Int32) (v3 : Int32) (v4 : Int32) (σ : St) (v5 : Int32) : Option Bool := it (fun (kb : Int32 → Option Bool) (t : Int32) => fX0_closes_L35 v1 v2 v3 v4 (fun v5 => kb v5) σ t) FU v5
def fX0_closes (σ : St) (p0 : Int32) (p1 : Int32) : Option Bool :=
  (fX7_cueWordsOf σ p0).bind fun x1 => (fX7_wordsOf σ p1).bind fun x2 => (some ((x2 - x1))).bind fun x3 => if x1 = 0 then (some false)
  else (if 0 ≤ x3 then (fX0_closes_P35 p0 p1 x1 x3 σ (0 : Int32))
  else (some false))
def fX10_letters_L4 (v0 : Int64) (kb : Int32 → Int32 → Option Int32) (v2 : Int32) (v3 : Int32) : Option Int32 :=
  if (8 : Int32) ≤ v3 then (some v2)
  else (if (lg_cmp (ushr64 v0 ((5 : Int32) * v3)) (0 : Int64)) = 0 then (some v2)
  else (kb (v2 + (1 : Int32)) (v3 + (1 : Int32))))
def fX10_letters_P4 (v0 : Int64) (v2 : Int32) (v3 : Int32) : Option Int32 := it (fun (kb : (Int32 × Int32) → Option Int32) (t : Int32 × Int32) => fX10_letters_L4 v0 (fun v2 v3 => kb (v2, v3)) t.1 t.2) FU (v2, v3)
def fX10_letters (p0 : Int64) : Option Int32 :=
  fX10_letters_P4 p0 (0 : Int32) (0 : Int32)
def fX10_letter (p0 : Int64) (p1 : Int32) : Option Int32 :=
  some ((Int64.toInt32 (ushr64 p0 ((5 : Int32) * p1))) &&& (31 : Int32))
def fX0_laid_30_L29 (v2 : Int64) (kb : St → Int32 → Int32 → Option (Int32 × St)) (σ : St) (v4 : Int32) (v5 : Int32) : Option (Int32 × St) :=
  if v5 < 0 then (some (v4, σ))
  else (if v4 < 0 then (kb σ v4 (v5 + (-1 : Int32)))
  else (if (18 : Int32) ≤ v4 then (kb σ v4 (v5 + (-1 : Int32)))
  else ((fX10_letter v2 v5).bind fun x3 => wr 18 v4 ((some (uA σ 30 (upd (zA σ 30) (Int32.toNatClampNeg v4) x3))).bind fun s4 => kb s4 (v4 + (1 : Int32)) (v5 + (-1 : Int32))))))
def fX0_laid_30_P29 (v2 : Int64) (σ : St) (v4 : Int32) (v5 : Int32) : Option (Int32 × St) := it (fun (kb : (St × Int32 × Int32) → Option (Int32 × St)) (t : St × Int32 × Int32) => fX0_laid_30_L29 v2 (fun σ v4 v5 => kb (σ, v4, v5)) t.1 t.2.1 t.2.2) FU (σ, v4, v5)
def fX0_laid_30_J21 (σ : St) (v2 : Int64) (v4 : Int32) : Option (Int32 × St) :=
  (fX10_letters v2).bind fun x1 => (some ((x1 - (1 : Int32)))).bind fun x2 => fX0_laid_30_P29 v2 σ v4 x2
def fX0_laid_30 (σ : St) (p1 : Int32) (p2 : Int64) : Option (Int32 × St) :=
  if p1 ≤ 0 then (fX0_laid_30_J21 σ p2 p1)
  else (if (18 : Int32) ≤ p1 then (fX0_laid_30_J21 σ p2 p1)
  else (wr 18 p1 ((some (uA σ 30 (upd (zA σ 30) (Int32.toNatClampNeg p1) (0 : Int32)))).bind fun s5 => fX0_laid_30_J21 s5 p2 (p1 + (1 : Int32)))))
def fJ9_max_7cf53 (p0 : Int32) (p1 : Int32) : Option Int32 :=
  if p0 < p1 then (some p1)
  else (some p0)
def fX0_laid_31_L29 (v2 : Int64) (kb : St → Int32 → Int32 → Option (Int32 × St)) (σ : St) (v4 : Int32) (v5 : Int32) : Option (Int32 × St) :=
  if v5 < 0 then (some (v4, σ))
  else (if v4 < 0 then (kb σ v4 (v5 + (-1 : Int32)))
  else (if (18 : Int32) ≤ v4 then (kb σ v4 (v5 + (-1 : Int32)))
  else ((fX10_letter v2 v5).bind fun x3 => wr 18 v4 ((some (uA σ 31 (upd (zA σ 31) (Int32.toNatClampNeg v4) x3))).bind fun s4 => kb s4 (v4 + (1 : Int32)) (v5 + (-1 : Int32))))))
def fX0_laid_31_P29 (v2 : Int64) (σ : St) (v4 : Int32) (v5 : Int32) : Option (Int32 × St) := it (fun (kb : (St × Int32 × Int32) → Option (Int32 × St)) (t : St × Int32 × Int32) => fX0_laid_31_L29 v2 (fun σ v4 v5 => kb (σ, v4, v5)) t.1 t.2.1 t.2.2) FU (σ, v4, v5)
def fX0_laid_31_J21 (σ : St) (v2 : Int64) (v4 : Int32) : Option (Int32 × St) :=
  (fX10_letters v2).bind fun x1 => (some ((x1 - (1 : Int32)))).bind fun x2 => fX0_laid_31_P29 v2 σ v4 x2
def fX0_laid_31 (σ : St) (p1 : Int32) (p2 : Int64) : Option (Int32 × St) :=
  if p1 ≤ 0 then (fX0_laid_31_J21 σ p2 p1)
  else (if (18 : Int32) ≤ p1 then (fX0_laid_31_J21 σ p2 p1)
  else (wr 18 p1 ((some (uA σ 31 (upd (zA σ 31) (Int32.toNatClampNeg p1) (0 : Int32)))).bind fun s5 => fX0_laid_31_J21 s5 p2 (p1 + (1 : Int32)))))
def fX0_distance_L15 (v1 : Int32) (v2 : Int32) (v3 : Int32) (k1 : St → Int32 → Option (Int32 × St)) (kb : St → Int32 → Int32 → Option (Int32 × St)) (σ : St) (v4 : Int32) (v5 : Int32) : Option (Int32 × St) :=
  if v3 ≤ v5 then (k1 σ v4)
  else ((fX7_cueWord σ v1 v5).bind fun x2 => (fX0_laid_30 σ v4 x2).bind fun r3 => kb r3.2 r3.1 (v5 + (1 : Int32)))
def fX0_distance_P15 (v1 : Int32) (v2 : Int32) (v3 : Int32) (k1 : St → Int32 → Option (Int32 × St)) (σ : St) (v4 : Int32) (v5 : Int32) : Option (Int32 × St) := it (fun (kb : (St × Int32 × Int32) → Option (Int32 × St)) (t : St × Int32 × Int32) => fX0_distance_L15 v1 v2 v3 k1 (fun σ v4 v5 => kb (σ, v4, v5)) t.1 t.2.1 t.2.2) FU (σ, v4, v5)
def fX0_distance_L71 (v2 : Int32) (v4 : Int32) (v6 : Int32) (k1 : St → Int32 → Option (Int32 × St)) (kb : St → Int32 → Int32 → Option (Int32 × St)) (σ : St) (v5 : Int32) (v7 : Int32) : Option (Int32 × St) :=
  if v6 ≤ v7 then (k1 σ v5)
  else ((fX7_word σ v2 v7).bind fun x8 => (fX0_laid_31 σ v5 x8).bind fun r9 => kb r9.2 r9.1 (v7 + (1 : Int32)))
def fX0_distance_P71 (v2 : Int32) (v4 : Int32) (v6 : Int32) (k1 : St → Int32 → Option (Int32 × St)) (σ : St) (v5 : Int32) (v7 : Int32) : Option (Int32 × St) := it (fun (kb : (St × Int32 × Int32) → Option (Int32 × St)) (t : St × Int32 × Int32) => fX0_distance_L71 v2 v4 v6 k1 (fun σ v5 v7 => kb (σ, v5, v7)) t.1 t.2.1 t.2.2) FU (σ, v5, v7)
def fX0_distance (σ : St) (p0 : Int32) (p1 : Int32) : Option (Int32 × St) :=
  (fX7_cueWordsOf σ p0).bind fun x1 => fX0_distance_P15 p0 p1 x1 (fun s4 x5 => (fX7_wordsOf s4 p1).bind fun x6 => (fJ9_max_7cf53 (0 : Int32) (x6 - x1)).bind fun x7 => fX0_distance_P71 p1 x5 x6 (fun s10 x11 => (fX0_changesBetween s10 x5 x11).bind fun r12 => some (r12.1, r12.2)) s4 (0 : Int32) x7) σ (0 : Int32) (0 : Int32)
def fX7_speeches (σ : St) : Option Int32 :=
  some (zI σ 17)
def fX7_speechAt (σ : St) (p0 : Int32) : Option Int32 :=
  if p0 < 0 then (some (-1 : Int32))
  else (if (zI σ 17) ≤ p0 then (some (-1 : Int32))
  else (if (96 : Int32) ≤ p0 then (some (-1 : Int32))
  else ((rd (zA σ 29) 96 p0).bind fun x1 => some x1)))
def fX7_rollOf (p0 : Int32) : Option Int32 :=
  nz (16 : Int32) (some (p0 / (16 : Int32)))
def fX7_isIn (p0 : Int32) (p1 : Int32) : Option Bool :=
  if p0 < 0 then (some false)
  else (if (8 : Int32) ≤ p0 then (some false)
  else (if ((p1 >>> (p0 &&& 31)) &&& (1 : Int32)) = 0 then (some false)
  else (some true)))
def fX7_isOf (p0 : Int32) (p1 : Int32) : Option Bool :=
  if p0 < 0 then (some false)
  else ((fX7_rollOf p0).bind fun x1 => (fX7_isIn x1 p1).bind fun x2 => if (bi x2) = 0 then (some false)
  else (some true))
def fX0_metBy_L17 (v1 : Int32) (v3 : Int32) (kb : Int32 → Int32 → Option Int32) (σ : St) (v4 : Int32) (v5 : Int32) : Option Int32 :=
  (fX7_speeches σ).bind fun x3 => if x3 ≤ v5 then (some v4)
  else ((fX7_speechAt σ v5).bind fun x4 => (fX7_isOf x4 v3).bind fun x5 => if (bi x5) = 0 then (kb v4 (v5 + (1 : Int32)))
  else ((fX0_closes σ v1 x4).bind fun x6 => if (bi x6) = 0 then (kb v4 (v5 + (1 : Int32)))
  else (kb (v4 + (1 : Int32)) (v5 + (1 : Int32)))))
def fX0_metBy_P17 (v1 : Int32) (v3 : Int32) (σ : St) (v4 : Int32) (v5 : Int32) : Option Int32 := it (fun (kb : (Int32 × Int32) → Option Int32) (t : Int32 × Int32) => fX0_metBy_L17 v1 v3 (fun v4 v5 => kb (v4, v5)) σ t.1 t.2) FU (v4, v5)
def fX0_metBy (σ : St) (p0 : Int32) (p1 : Int32) : Option Int32 :=
  (fX7_rollOf p0).bind fun x1 => (some ((p1 &&& (((1 : Int32) <<< (x1 &&& 31)) ^^^ (-1 : Int32))))).bind fun x2 => fX0_metBy_P17 p0 x2 σ (0 : Int32) (0 : Int32)
def fX0_isOwn_L7 (v1 : Int32) (kb : Int32 → Option Bool) (σ : St) (v2 : Int32) : Option Bool :=
  if v1 ≤ v2 then (some false)
  else ((fX0_closes σ v1 v2).bind fun x2 => if (bi x2) = 0 then (kb (v2 + (1 : Int32)))
  else (some true))
def fX0_isOwn_P7 (v1 : Int32) (σ : St) (v2 : Int32) : Option Bool := it (fun (kb : Int32 → Option Bool) (t : Int32) => fX0_isOwn_L7 v1 (fun v2 => kb v2) σ t) FU v2
def fX0_isOwn (σ : St) (p0 : Int32) : Option Bool :=
  nz (16 : Int32) ((some ((p0 - (p0 - p0 / (16 : Int32) * (16 : Int32))))).bind fun x1 => fX0_isOwn_P7 p0 σ x1)
def fX0_slips_L14 (v1 : Int32) (v3 : Int32) (kb : St → Int32 → Option (Bool × St)) (σ : St) (v4 : Int32) : Option (Bool × St) :=
  (fX7_speeches σ).bind fun x3 => if x3 ≤ v4 then (some (false, σ))
  else ((fX7_speechAt σ v4).bind fun x4 => (fX7_isOf x4 v3).bind fun x5 => if (bi x5) = 0 then (kb σ (v4 + (1 : Int32)))
  else ((fX0_distance σ v1 x4).bind fun r6 => if (zI r6.2 20) < r6.1 then (kb r6.2 (v4 + (1 : Int32)))
  else (some (true, r6.2))))
def fX0_slips_P14 (v1 : Int32) (v3 : Int32) (σ : St) (v4 : Int32) : Option (Bool × St) := it (fun (kb : (St × Int32) → Option (Bool × St)) (t : St × Int32) => fX0_slips_L14 v1 v3 (fun σ v4 => kb (σ, v4)) t.1 t.2) FU (σ, v4)
def fX0_slips (σ : St) (p0 : Int32) (p1 : Int32) : Option (Bool × St) :=
  (fX7_rollOf p0).bind fun x1 => (some ((p1 &&& (((1 : Int32) <<< (x1 &&& 31)) ^^^ (-1 : Int32))))).bind fun x2 => fX0_slips_P14 p0 x2 σ (0 : Int32)
def fX0_kindOf (σ : St) (p0 : Int32) (p1 : Int32) : Option (Int32 × St) :=
  (fX7_cueWordsOf σ p0).bind fun x1 => if x1 = 0 then (some ((0 : Int32), σ))
  else ((fX0_metBy σ p0 p1).bind fun x2 => if x2 ≤ 0 then ((fX0_isOwn σ p0).bind fun x3 => if (bi x3) = 0 then ((fX0_slips σ p0 p1).bind fun r4 => if (bi r4.1) = 0 then (some ((5 : Int32), r4.2))
  else (some ((4 : Int32), r4.2)))
  else (some ((3 : Int32), σ)))
  else (if x2 = (1 : Int32) then (some ((1 : Int32), σ))
  else (some ((2 : Int32), σ))))
def fX0_howManyOfKind_L5 (v1 : Int32) (v2 : Int32) (kb : St → Int32 → Int32 → Option (Int32 × St)) (σ : St) (v3 : Int32) (v4 : Int32) : Option (Int32 × St) :=
  (fX7_speeches σ).bind fun x1 => if x1 ≤ v4 then (some (v3, σ))
  else ((fX7_speechAt σ v4).bind fun x2 => (fX7_isOf x2 v1).bind fun x3 => if (bi x3) = 0 then (kb σ v3 (v4 + (1 : Int32)))
  else ((fX0_kindOf σ x2 v1).bind fun r4 => if r4.1 = v2 then (kb r4.2 (v3 + (1 : Int32)) (v4 + (1 : Int32)))
  else (kb r4.2 v3 (v4 + (1 : Int32)))))
def fX0_howManyOfKind_P5 (v1 : Int32) (v2 : Int32) (σ : St) (v3 : Int32) (v4 : Int32) : Option (Int32 × St) := it (fun (kb : (St × Int32 × Int32) → Option (Int32 × St)) (t : St × Int32 × Int32) => fX0_howManyOfKind_L5 v1 v2 (fun σ v3 v4 => kb (σ, v3, v4)) t.1 t.2.1 t.2.2) FU (σ, v3, v4)
def fX0_howManyOfKind (σ : St) (p0 : Int32) (p1 : Int32) : Option (Int32 × St) :=
  fX0_howManyOfKind_P5 p0 p1 σ (0 : Int32) (0 : Int32)
def fX7_has (σ : St) (p0 : Int32) : Option Bool :=
  (fX7_rollOf p0).bind fun x1 => if p0 < 0 then (some false)
  else (if (zI σ 18) ≤ x1 then (some false)
  else (if (8 : Int32) ≤ x1 then (some false)
  else (nz (16 : Int32) ((rd (zA σ 23) 8 x1).bind fun x2 => if x2 ≤ (p0 - p0 / (16 : Int32) * (16 : Int32)) then (some false)
  else (some true)))))
def fX7_hasCue (σ : St) (p0 : Int32) : Option Bool :=
  (fX7_has σ p0).bind fun x1 => if (bi x1) = 0 then (some false)
  else ((rd (zA σ 25) 128 p0).bind fun x2 => if x2 ≤ 0 then (some false)
  else (some true))
def fX0_isLoose (σ : St) (p0 : Int32) (p1 : Int32) : Option Bool :=
  (fX7_hasCue σ p0).bind fun x1 => if (bi x1) = 0 then (some false)
  else ((fX0_metBy σ p0 p1).bind fun x2 => if x2 = 0 then ((fX0_isOwn σ p0).bind fun x3 => if (bi x3) = 0 then (some true)
  else (some false))
  else (some false))
def fX0_join (σ : St) (p0 : Int32) (p1 : Int32) : Option St :=
  if p0 < 0 then (some σ)
  else (if (8 : Int32) ≤ p0 then (some σ)
  else (if p1 < 0 then (some σ)
  else (if (8 : Int32) ≤ p1 then (some σ)
  else ((rd (zA σ 34) 8 p0).bind fun x1 => wr 8 p0 ((some (uA σ 34 (upd (zA σ 34) (Int32.toNatClampNeg p0) (x1 ||| ((1 : Int32) <<< (p1 &&& 31)))))).bind fun s2 => (rd (zA s2 34) 8 p1).bind fun x3 => wr 8 p1 ((some (uA s2 34 (upd (zA s2 34) (Int32.toNatClampNeg p1) (x3 ||| ((1 : Int32) <<< (p0 &&& 31)))))).bind fun s4 => some s4))))))
def fX7_number (σ : St) : Option Int32 :=
  some (zI σ 18)
def fX0_lowestMet_L2 (v1 : Int32) (kb : Int32 → Option Int32) (σ : St) (v2 : Int32) : Option Int32 :=
  (fX7_speeches σ).bind fun x1 => if x1 ≤ v2 then (some v1)
  else ((fX7_speechAt σ v2).bind fun x2 => (fX7_rollOf x2).bind fun x3 => (fX7_rollOf v1).bind fun x4 => if x3 = x4 then (kb (v2 + (1 : Int32)))
  else ((fX0_closes σ v1 x2).bind fun x5 => if (bi x5) = 0 then (kb (v2 + (1 : Int32)))
  else (some x2)))
def fX0_lowestMet_P2 (v1 : Int32) (σ : St) (v2 : Int32) : Option Int32 := it (fun (kb : Int32 → Option Int32) (t : Int32) => fX0_lowestMet_L2 v1 (fun v2 => kb v2) σ t) FU v2
def fX0_lowestMet (σ : St) (p0 : Int32) : Option Int32 :=
  fX0_lowestMet_P2 p0 σ (0 : Int32)
def fX0_joined_L14 (v1 : Int32) (v2 : Int32) (k1 : St → Option (Int32 × St)) (kb : St → Int32 → Option (Int32 × St)) (σ : St) (v3 : Int32) : Option (Int32 × St) :=
  if (8 : Int32) ≤ v3 then (k1 σ)
  else (wr 8 v3 ((some (uA σ 34 (upd (zA σ 34) (Int32.toNatClampNeg v3) (0 : Int32)))).bind fun s3 => kb s3 (v3 + (1 : Int32))))
def fX0_joined_P14 (v1 : Int32) (v2 : Int32) (k1 : St → Option (Int32 × St)) (σ : St) (v3 : Int32) : Option (Int32 × St) := it (fun (kb : (St × Int32) → Option (Int32 × St)) (t : St × Int32) => fX0_joined_L14 v1 v2 k1 (fun σ v3 => kb (σ, v3)) t.1 t.2) FU (σ, v3)
def fX0_joined_L35 (v1 : Int32) (v2 : Int32) (k1 : St → Option (Int32 × St)) (kb : St → Int32 → Option (Int32 × St)) (σ : St) (v3 : Int32) : Option (Int32 × St) :=
  (fX7_speeches σ).bind fun x5 => if x5 ≤ v3 then (k1 σ)
  else ((fX7_speechAt σ v3).bind fun x6 => (fX0_metBy σ x6 v2).bind fun x7 => if x7 = (1 : Int32) then ((fX7_rollOf x6).bind fun x8 => (fX0_lowestMet σ x6).bind fun x9 => (fX7_rollOf x9).bind fun x10 => (fX0_join σ x8 x10).bind fun s11 => kb s11 (v3 + (1 : Int32)))
  else (kb σ (v3 + (1 : Int32))))
def fX0_joined_P35 (v1 : Int32) (v2 : Int32) (k1 : St → Option (Int32 × St)) (σ : St) (v3 : Int32) : Option (Int32 × St) := it (fun (kb : (St × Int32) → Option (Int32 × St)) (t : St × Int32) => fX0_joined_L35 v1 v2 k1 (fun σ v3 => kb (σ, v3)) t.1 t.2) FU (σ, v3)
def fX0_joined_L108 (v4 : Int32) (k1 : Int32 → Option (Int32 × St)) (kb : Int32 → Int32 → Option (Int32 × St)) (σ : St) (v3 : Int32) (v5 : Int32) : Option (Int32 × St) :=
  if (8 : Int32) ≤ v5 then (k1 v3)
  else ((fX7_isIn v5 v3).bind fun x14 => if (bi x14) = 0 then ((some ((v3 ||| (0 : Int32)))).bind fun x15 => kb x15 (v5 + (1 : Int32)))
  else ((rd (zA σ 34) 8 v5).bind fun x16 => (some ((v3 ||| x16))).bind fun x17 => kb x17 (v5 + (1 : Int32))))
def fX0_joined_P108 (v4 : Int32) (k1 : Int32 → Option (Int32 × St)) (σ : St) (v3 : Int32) (v5 : Int32) : Option (Int32 × St) := it (fun (kb : (Int32 × Int32) → Option (Int32 × St)) (t : Int32 × Int32) => fX0_joined_L108 v4 k1 (fun v3 v5 => kb (v3, v5)) σ t.1 t.2) FU (v3, v5)
def fX0_joined_L98 (kb : Int32 → Int32 → Option (Int32 × St)) (σ : St) (v3 : Int32) (v4 : Int32) : Option (Int32 × St) :=
  if (8 : Int32) ≤ v4 then (some (v3, σ))
  else (fX0_joined_P108 v4 (fun x18 => kb x18 (v4 + (1 : Int32))) σ v3 (0 : Int32))
def fX0_joined_P98 (σ : St) (v3 : Int32) (v4 : Int32) : Option (Int32 × St) := it (fun (kb : (Int32 × Int32) → Option (Int32 × St)) (t : Int32 × Int32) => fX0_joined_L98 (fun v3 v4 => kb (v3, v4)) σ t.1 t.2) FU (v3, v4)
def fX0_joined (σ : St) (p0 : Int32) : Option (Int32 × St) :=
  (fX7_number σ).bind fun x1 => (some ((((1 : Int32) <<< (x1 &&& 31)) - (1 : Int32)))).bind fun x2 => fX0_joined_P14 p0 x2 (fun s4 => fX0_joined_P35 p0 x2 (fun s12 => (some (((1 : Int32) <<< (p0 &&& 31)))).bind fun x13 => fX0_joined_P98 s12 x13 (0 : Int32)) s4 (0 : Int32)) σ (0 : Int32)
def fX0_leastFar_L20 (v1 : Int32) (v3 : Int32) (kb : St → Int32 → Int32 → Int32 → Option (Int32 × St)) (σ : St) (v4 : Int32) (v5 : Int32) (v6 : Int32) : Option (Int32 × St) :=
  (fX7_speeches σ).bind fun x3 => if x3 ≤ v6 then (some (v4, σ))
  else ((fX7_speechAt σ v6).bind fun x4 => (fX7_isOf x4 v3).bind fun x5 => if (bi x5) = 0 then (kb σ v4 v5 (v6 + (1 : Int32)))
  else ((fX0_distance σ v1 x4).bind fun r6 => if v4 = (-1 : Int32) then (kb r6.2 x4 r6.1 (v6 + (1 : Int32)))
  else (if v5 ≤ r6.1 then (kb r6.2 v4 v5 (v6 + (1 : Int32)))
  else (kb r6.2 x4 r6.1 (v6 + (1 : Int32))))))
def fX0_leastFar_P20 (v1 : Int32) (v3 : Int32) (σ : St) (v4 : Int32) (v5 : Int32) (v6 : Int32) : Option (Int32 × St) := it (fun (kb : (St × Int32 × Int32 × Int32) → Option (Int32 × St)) (t : St × Int32 × Int32 × Int32) => fX0_leastFar_L20 v1 v3 (fun σ v4 v5 v6 => kb (σ, v4, v5, v6)) t.1 t.2.1 t.2.2.1 t.2.2.2) FU (σ, v4, v5, v6)
def fX0_leastFar (σ : St) (p0 : Int32) (p1 : Int32) : Option (Int32 × St) :=
  (fX7_rollOf p0).bind fun x1 => (some ((p1 &&& (((1 : Int32) <<< (x1 &&& 31)) ^^^ (-1 : Int32))))).bind fun x2 => fX0_leastFar_P20 p0 x2 σ (-1 : Int32) (0 : Int32) (0 : Int32)
def fX0_limitNow (σ : St) : Option Int32 :=
  some (zI σ 20)
def fX0_setLimit (σ : St) (p0 : Int32) : Option (Bool × St) :=
  if p0 < 0 then (some (false, σ))
  else (if p0 ≤ (8 : Int32) then ((some (uI σ 20 p0)).bind fun s1 => some (true, s1))
  else (some (false, σ)))
def fX0_settledBy_L5 (v1 : Int32) (v2 : Int32) (kb : Int32 → Int32 → Option Int32) (σ : St) (v3 : Int32) (v4 : Int32) : Option Int32 :=
  (fX7_speeches σ).bind fun x1 => if x1 ≤ v4 then (some v3)
  else ((fX7_speechAt σ v4).bind fun x2 => (fX7_isOf x2 v2).bind fun x3 => if (bi x3) = 0 then (kb v3 (v4 + (1 : Int32)))
  else ((fX0_isLoose σ x2 v2).bind fun x4 => if (bi x4) = 0 then (kb v3 (v4 + (1 : Int32)))
  else ((fX0_metBy σ x2 ((1 : Int32) <<< (v1 &&& 31))).bind fun x5 => if x5 ≤ 0 then (kb v3 (v4 + (1 : Int32)))
  else (kb (v3 + (1 : Int32)) (v4 + (1 : Int32))))))
def fX0_settledBy_P5 (v1 : Int32) (v2 : Int32) (σ : St) (v3 : Int32) (v4 : Int32) : Option Int32 := it (fun (kb : (Int32 × Int32) → Option Int32) (t : Int32 × Int32) => fX0_settledBy_L5 v1 v2 (fun v3 v4 => kb (v3, v4)) σ t.1 t.2) FU (v3, v4)
def fX0_settledBy (σ : St) (p0 : Int32) (p1 : Int32) : Option Int32 :=
  fX0_settledBy_P5 p0 p1 σ (0 : Int32) (0 : Int32)
def fX0_settlesMost_L7 (v1 : Int32) (kb : Int32 → Int32 → Int32 → Option Int32) (σ : St) (v2 : Int32) (v3 : Int32) (v4 : Int32) : Option Int32 :=
  (fX7_number σ).bind fun x1 => if x1 ≤ v4 then (some v2)
  else ((fX7_isIn v4 v1).bind fun x2 => if (bi x2) = 0 then ((fX0_settledBy σ v4 v1).bind fun x3 => if v2 = (-1 : Int32) then (kb v4 x3 (v4 + (1 : Int32)))
  else (if x3 ≤ v3 then (kb v2 v3 (v4 + (1 : Int32)))
  else (kb v4 x3 (v4 + (1 : Int32)))))
  else (kb v2 v3 (v4 + (1 : Int32))))
def fX0_settlesMost_P7 (v1 : Int32) (σ : St) (v2 : Int32) (v3 : Int32) (v4 : Int32) : Option Int32 := it (fun (kb : (Int32 × Int32 × Int32) → Option Int32) (t : Int32 × Int32 × Int32) => fX0_settlesMost_L7 v1 (fun v2 v3 v4 => kb (v2, v3, v4)) σ t.1 t.2.1 t.2.2) FU (v2, v3, v4)
def fX0_settlesMost (σ : St) (p0 : Int32) : Option Int32 :=
  fX0_settlesMost_P7 p0 σ (-1 : Int32) (0 : Int32) (0 : Int32)
def fX0_within_L16 (v1 : Int32) (v2 : Int32) (kb : Int32 → Option Int32) (σ : St) (v3 : Int32) : Option Int32 :=
  (fX7_wordsOf σ v2).bind fun x2 => if (x2 - (2 : Int32)) ≤ v3 then (some (-1 : Int32))
  else ((fX7_word σ v2 v3).bind fun x3 => (fX7_cueWord σ v1 (0 : Int32)).bind fun x4 => if (lg_cmp x3 x4) = 0 then ((fX7_word σ v2 (v3 + (1 : Int32))).bind fun x5 => (fX7_cueWord σ v1 (1 : Int32)).bind fun x6 => if (lg_cmp x5 x6) = 0 then (some v3)
  else (kb (v3 + (1 : Int32))))
  else (kb (v3 + (1 : Int32))))
def fX0_within_P16 (v1 : Int32) (v2 : Int32) (σ : St) (v3 : Int32) : Option Int32 := it (fun (kb : Int32 → Option Int32) (t : Int32) => fX0_within_L16 v1 v2 (fun v3 => kb v3) σ t) FU v3
def fX0_within (σ : St) (p0 : Int32) (p1 : Int32) : Option Int32 :=
  (fX7_cueWordsOf σ p0).bind fun x1 => if x1 = (2 : Int32) then (fX0_within_P16 p0 p1 σ (0 : Int32))
  else (some (-1 : Int32))
def fX0_temptedIn_L5 (v1 : Int32) (v2 : Int32) (kb : Int32 → Int32 → Option Int32) (σ : St) (v3 : Int32) (v4 : Int32) : Option Int32 :=
  (fX7_speeches σ).bind fun x1 => if x1 ≤ v4 then (some v3)
  else ((fX7_speechAt σ v4).bind fun x2 => (fX7_isOf x2 v2).bind fun x3 => if (bi x3) = 0 then (kb v3 (v4 + (1 : Int32)))
  else ((fX0_within σ v1 x2).bind fun x4 => if x4 = (-1 : Int32) then (kb v3 (v4 + (1 : Int32)))
  else (kb (v3 + (1 : Int32)) (v4 + (1 : Int32)))))
def fX0_temptedIn_P5 (v1 : Int32) (v2 : Int32) (σ : St) (v3 : Int32) (v4 : Int32) : Option Int32 := it (fun (kb : (Int32 × Int32) → Option Int32) (t : Int32 × Int32) => fX0_temptedIn_L5 v1 v2 (fun v3 v4 => kb (v3, v4)) σ t.1 t.2) FU (v3, v4)
def fX0_temptedIn (σ : St) (p0 : Int32) (p1 : Int32) : Option Int32 :=
  fX0_temptedIn_P5 p0 p1 σ (0 : Int32) (0 : Int32)
def fX0_temptations_L4 (v1 : Int32) (kb : Int32 → Int32 → Option Int32) (σ : St) (v2 : Int32) (v3 : Int32) : Option Int32 :=
  (fX7_speeches σ).bind fun x1 => if x1 ≤ v3 then (some v2)
  else ((fX7_speechAt σ v3).bind fun x2 => (fX7_isOf x2 v1).bind fun x3 => if (bi x3) = 0 then (kb v2 (v3 + (1 : Int32)))
  else ((fX7_rollOf x2).bind fun x4 => (fX0_temptedIn σ x2 (v1 &&& (((1 : Int32) <<< (x4 &&& 31)) ^^^ (-1 : Int32)))).bind fun x5 => (some ((v2 + x5))).bind fun x6 => kb x6 (v3 + (1 : Int32))))
def fX0_temptations_P4 (v1 : Int32) (σ : St) (v2 : Int32) (v3 : Int32) : Option Int32 := it (fun (kb : (Int32 × Int32) → Option Int32) (t : Int32 × Int32) => fX0_temptations_L4 v1 (fun v2 v3 => kb (v2, v3)) σ t.1 t.2) FU (v2, v3)
def fX0_temptations (σ : St) (p0 : Int32) : Option Int32 :=
  fX0_temptations_P4 p0 σ (0 : Int32) (0 : Int32)
def fX0_wasLost_L2 (v1 : Int32) (kb : Int32 → Option Bool) (σ : St) (v2 : Int32) : Option Bool :=
  if v1 ≤ v2 then (some false)
  else (if (96 : Int32) ≤ v2 then (some false)
  else ((rd (zA σ 33) 96 v2).bind fun x1 => if x1 = 0 then (kb (v2 + (1 : Int32)))
  else ((fX7_speechAt σ v2).bind fun x2 => (fX7_speechAt σ v1).bind fun x3 => (fX0_alike σ x2 x3).bind fun x4 => if (bi x4) = 0 then (kb (v2 + (1 : Int32)))
  else (some true))))
def fX0_wasLost_P2 (v1 : Int32) (σ : St) (v2 : Int32) : Option Bool := it (fun (kb : Int32 → Option Bool) (t : Int32) => fX0_wasLost_L2 v1 (fun v2 => kb v2) σ t) FU v2
def fX0_wasLost (σ : St) (p0 : Int32) : Option Bool :=
  fX0_wasLost_P2 p0 σ (0 : Int32)
def fX0_wordsAtLeast_J68 (kb : St → Int32 → Int32 → Option (Int32 × St)) (σ : St) (v1 : Int32) (v2 : Int32) (v3 : Int32) (v4 : Int32) (v5 : Int32) (t0 : Int32) (t1 : Int32) : Option (Int32 × St) :=
  wr 96 t1 ((some (uA σ 33 (upd (zA σ 33) (Int32.toNatClampNeg t1) (vp_nar .boolean t0)))).bind fun s4 => if v5 = 0 then ((rd (zA s4 33) 96 v3).bind fun x5 => if x5 = 0 then (kb s4 v2 (v3 + (1 : Int32)))
  else ((fX0_wasLost s4 v3).bind fun x6 => if (bi x6) = 0 then ((fX7_cueWordsOf s4 v4).bind fun x7 => (some ((v2 + x7))).bind fun x8 => kb s4 x8 (v3 + (1 : Int32)))
  else (kb s4 v2 (v3 + (1 : Int32)))))
  else ((fX7_wordsOf s4 v4).bind fun x9 => (some ((v2 + x9))).bind fun x10 => (rd (zA s4 33) 96 v3).bind fun x11 => if x11 = 0 then (kb s4 x10 (v3 + (1 : Int32)))
  else ((fX0_wasLost s4 v3).bind fun x12 => if (bi x12) = 0 then ((fX7_cueWordsOf s4 v4).bind fun x13 => (some ((x10 + x13))).bind fun x14 => kb s4 x14 (v3 + (1 : Int32)))
  else (kb s4 x10 (v3 + (1 : Int32))))))
def fX0_wordsAtLeast_L4 (v1 : Int32) (kb : St → Int32 → Int32 → Option (Int32 × St)) (σ : St) (v2 : Int32) (v3 : Int32) : Option (Int32 × St) :=
  (fX7_speeches σ).bind fun x1 => if x1 ≤ v3 then (some (v2, σ))
  else (if (96 : Int32) ≤ v3 then (some (v2, σ))
  else ((fX7_speechAt σ v3).bind fun x2 => (fX7_isOf x2 v1).bind fun x3 => if (bi x3) = 0 then (fX0_wordsAtLeast_J68 kb σ v1 v2 v3 x2 (bi x3) (0 : Int32) v3)
  else ((fX0_kindOf σ x2 v1).bind fun r15 => if r15.1 = (5 : Int32) then (fX0_wordsAtLeast_J68 kb r15.2 v1 v2 v3 x2 (bi x3) (1 : Int32) v3)
  else (fX0_wordsAtLeast_J68 kb r15.2 v1 v2 v3 x2 (bi x3) (0 : Int32) v3))))
def fX0_wordsAtLeast_P4 (v1 : Int32) (σ : St) (v2 : Int32) (v3 : Int32) : Option (Int32 × St) := it (fun (kb : (St × Int32 × Int32) → Option (Int32 × St)) (t : St × Int32 × Int32) => fX0_wordsAtLeast_L4 v1 (fun σ v2 v3 => kb (σ, v2, v3)) t.1 t.2.1 t.2.2) FU (σ, v2, v3)
def fX0_wordsAtLeast (σ : St) (p0 : Int32) : Option (Int32 × St) :=
  fX0_wordsAtLeast_P4 p0 σ (0 : Int32) (0 : Int32)
def fX10_firstLetter (p0 : Int64) : Option Int32 :=
  (fX10_letters p0).bind fun x1 => if x1 = 0 then (some (0 : Int32))
  else ((fX10_letter p0 (x1 - (1 : Int32))).bind fun x2 => some x2)
def fX10_vowels_L4 (v0 : Int64) (kb : Int32 → Int32 → Option Int32) (v2 : Int32) (v3 : Int32) : Option Int32 :=
  if (8 : Int32) ≤ v3 then (some v2)
  else ((fX10_letter v0 v3).bind fun x1 => if ((x1 + (97 : Int32)) - (1 : Int32)) = 97 then (kb (v2 + (1 : Int32)) (v3 + (1 : Int32)))
  else (if ((x1 + (97 : Int32)) - (1 : Int32)) = 101 then (kb (v2 + (1 : Int32)) (v3 + (1 : Int32)))
  else (if ((x1 + (97 : Int32)) - (1 : Int32)) = 105 then (kb (v2 + (1 : Int32)) (v3 + (1 : Int32)))
  else (if ((x1 + (97 : Int32)) - (1 : Int32)) = 111 then (kb (v2 + (1 : Int32)) (v3 + (1 : Int32)))
  else (if ((x1 + (97 : Int32)) - (1 : Int32)) = 117 then (kb (v2 + (1 : Int32)) (v3 + (1 : Int32)))
  else (kb v2 (v3 + (1 : Int32))))))))
def fX10_vowels_P4 (v0 : Int64) (v2 : Int32) (v3 : Int32) : Option Int32 := it (fun (kb : (Int32 × Int32) → Option Int32) (t : Int32 × Int32) => fX10_vowels_L4 v0 (fun v2 v3 => kb (v2, v3)) t.1 t.2) FU (v2, v3)
def fX10_vowels (p0 : Int64) : Option Int32 :=
  fX10_vowels_P4 p0 (0 : Int32) (0 : Int32)
def fX10_with (p0 : Int64) (p1 : Int32) : Option Int64 :=
  some ((p0 <<< (Int32.toInt64 (5 : Int32) &&& 63)) ||| (Int32.toInt64 ((p1 - (97 : Int32)) + (1 : Int32))))
def fX7_hasRoll (σ : St) (p0 : Int32) : Option Bool :=
  if p0 < 0 then (some false)
  else (if (zI σ 18) ≤ p0 then (some false)
  else (if (8 : Int32) ≤ p0 then (some false)
  else (some true)))
def fX8_playedAt (σ : St) (p0 : Int32) : Option Int32 :=
  if p0 < 0 then (some (-1 : Int32))
  else (if (zI σ 26) ≤ p0 then (some (-1 : Int32))
  else (if (96 : Int32) ≤ p0 then (some (-1 : Int32))
  else ((rd (zA σ 47) 96 p0).bind fun x1 => some x1)))
def fX7_sizeOf (σ : St) (p0 : Int32) : Option Int32 :=
  if p0 < 0 then (some (0 : Int32))
  else (if (zI σ 18) ≤ p0 then (some (0 : Int32))
  else (if (8 : Int32) ≤ p0 then (some (0 : Int32))
  else ((rd (zA σ 23) 8 p0).bind fun x1 => some x1)))
def fX8_goOn_L4 (v1 : Int32) (k1 : Int32 → Option (Int32 × St)) (kb : Int32 → Int32 → Option (Int32 × St)) (σ : St) (v2 : Int32) (v3 : Int32) : Option (Int32 × St) :=
  if (zI σ 26) ≤ v3 then (k1 v2)
  else ((fX8_playedAt σ v3).bind fun x1 => (fX7_rollOf x1).bind fun x2 => if x2 = v1 then (kb (v2 + (1 : Int32)) (v3 + (1 : Int32)))
  else (kb v2 (v3 + (1 : Int32))))
def fX8_goOn_P4 (v1 : Int32) (k1 : Int32 → Option (Int32 × St)) (σ : St) (v2 : Int32) (v3 : Int32) : Option (Int32 × St) := it (fun (kb : (Int32 × Int32) → Option (Int32 × St)) (t : Int32 × Int32) => fX8_goOn_L4 v1 k1 (fun v2 v3 => kb (v2, v3)) σ t.1 t.2) FU (v2, v3)
def fX8_goOn (σ : St) (p0 : Int32) : Option (Int32 × St) :=
  fX8_goOn_P4 p0 (fun x3 => (fX7_sizeOf σ p0).bind fun x4 => if x4 ≤ x3 then (some ((-1 : Int32), σ))
  else (if (zI σ 26) < 0 then (some ((-1 : Int32), σ))
  else (if (zI σ 26) < (96 : Int32) then (wr 96 (zI σ 26) ((some (uA σ 47 (upd (zA σ 47) (Int32.toNatClampNeg (zI σ 26)) (((16 : Int32) * p0) + x3)))).bind fun s5 => (some (uI s5 26 ((zI s5 26) + (1 : Int32)))).bind fun s6 => (rd (zA s6 47) 96 ((zI s6 26) - (1 : Int32))).bind fun x7 => some (x7, s6)))
  else (some ((-1 : Int32), σ))))) σ (0 : Int32) (0 : Int32)
def fX11_act (σ : St) (p0 : Int32) : Option (Int32 × St) :=
  (fX7_hasRoll σ p0).bind fun x1 => if (bi x1) = 0 then (some ((-1 : Int32), σ))
  else ((fX8_goOn σ p0).bind fun r2 => some (r2.1, r2.2))
def fX7_cutTo_L15 (v1 : Int32) (k1 : St → Option St) (kb : St → Int32 → Option St) (σ : St) (v2 : Int32) : Option St :=
  if (zI σ 18) ≤ v2 then (k1 σ)
  else (if (8 : Int32) ≤ v2 then (k1 σ)
  else ((rd (zA σ 23) 8 v2).bind fun x1 => (some (uI σ 17 ((zI σ 17) - x1))).bind fun s2 => kb s2 (v2 + (1 : Int32))))
def fX7_cutTo_P15 (v1 : Int32) (k1 : St → Option St) (σ : St) (v2 : Int32) : Option St := it (fun (kb : (St × Int32) → Option St) (t : St × Int32) => fX7_cutTo_L15 v1 k1 (fun σ v2 => kb (σ, v2)) t.1 t.2) FU (σ, v2)
def fX7_cutTo (σ : St) (p0 : Int32) : Option St :=
  if p0 < 0 then (some σ)
  else (if p0 < (zI σ 18) then (fX7_cutTo_P15 p0 (fun s3 => (some (uI s3 18 p0)).bind fun s4 => (some (uI s4 19 ((zI s4 19) + (1 : Int32)))).bind fun s5 => some s5) σ p0)
  else (some σ))
def fX8_cutTo (σ : St) (p0 : Int32) : Option St :=
  if p0 < 0 then (some σ)
  else (if (zI σ 26) ≤ p0 then (some σ)
  else ((some (uI σ 26 p0)).bind fun s1 => some s1))
def fX8_played (σ : St) : Option Int32 :=
  some (zI σ 26)
def fX11_back (σ : St) : Option (Int32 × St) :=
  (fX7_cutTo σ (zI σ 0)).bind fun s1 => (fX8_cutTo s1 (zI s1 1)).bind fun s2 => (fX7_number s2).bind fun x3 => (fX8_played s2).bind fun x4 => some ((x3 + x4), s2)
def fX4_has (σ : St) (p0 : Int32) : Option Bool :=
  if p0 < 0 then (some false)
  else (if (zI σ 28) ≤ p0 then (some false)
  else (if (4 : Int32) ≤ p0 then (some false)
  else (some true)))
def fX4_isChange (p0 : Int32) : Option Bool :=
  if p0 < 0 then (some false)
  else (if (3 : Int32) < p0 then (some false)
  else (some true))
def fX4_sizeOf (σ : St) (p0 : Int32) : Option Int32 :=
  if p0 < 0 then (some (0 : Int32))
  else (if (zI σ 28) ≤ p0 then (some (0 : Int32))
  else (if (4 : Int32) ≤ p0 then (some (0 : Int32))
  else ((rd (zA σ 51) 4 p0).bind fun x1 => some x1)))
def fX4_partsIn (σ : St) (p0 : Int32) (p1 : Int32) : Option Int32 :=
  if p1 < 0 then (some (-1 : Int32))
  else ((fX4_sizeOf σ p0).bind fun x1 => if p1 < x1 then ((some ((((20 : Int32) * p0) + p1))).bind fun x2 => if (80 : Int32) ≤ x2 then (some (-1 : Int32))
  else ((rd (zA σ 50) 80 x2).bind fun x3 => some x3))
  else (some (-1 : Int32)))
def fX4_partsOf_L4 (v1 : Int32) (kb : Int32 → Int32 → Option Int32) (σ : St) (v2 : Int32) (v3 : Int32) : Option Int32 :=
  (fX4_sizeOf σ v1).bind fun x1 => if x1 ≤ v3 then (some v2)
  else ((fX4_partsIn σ v1 v3).bind fun x2 => (some ((v2 ||| x2))).bind fun x3 => kb x3 (v3 + (1 : Int32)))
def fX4_partsOf_P4 (v1 : Int32) (σ : St) (v2 : Int32) (v3 : Int32) : Option Int32 := it (fun (kb : (Int32 × Int32) → Option Int32) (t : Int32 × Int32) => fX4_partsOf_L4 v1 (fun v2 v3 => kb (v2, v3)) σ t.1 t.2) FU (v2, v3)
def fX4_partsOf (σ : St) (p0 : Int32) : Option Int32 :=
  fX4_partsOf_P4 p0 σ (0 : Int32) (0 : Int32)
def fX4_isIn (p0 : Int32) (p1 : Int32) : Option Bool :=
  if ((p1 >>> (p0 &&& 31)) &&& (1 : Int32)) = 0 then (some false)
  else (some true)
def fX4_hasPart (σ : St) (p0 : Int32) (p1 : Int32) : Option Bool :=
  if p1 < 0 then (some false)
  else (if (10 : Int32) ≤ p1 then (some false)
  else ((fX4_partsOf σ p0).bind fun x1 => (fX4_isIn p1 x1).bind fun x2 => if (bi x2) = 0 then (some false)
  else (some true)))
def fX4_layNear_L2 (v1 : Int32) (v2 : Int32) (k1 : St → Option St) (kb : St → Int32 → Option St) (σ : St) (v3 : Int32) : Option St :=
  if (10 : Int32) ≤ v3 then (k1 σ)
  else (wr 10 v3 ((some (uA σ 52 (upd (zA σ 52) (Int32.toNatClampNeg v3) (0 : Int32)))).bind fun s1 => kb s1 (v3 + (1 : Int32))))
def fX4_layNear_P2 (v1 : Int32) (v2 : Int32) (k1 : St → Option St) (σ : St) (v3 : Int32) : Option St := it (fun (kb : (St × Int32) → Option St) (t : St × Int32) => fX4_layNear_L2 v1 v2 k1 (fun σ v3 => kb (σ, v3)) t.1 t.2) FU (σ, v3)
def fX4_layNear_L64 (v1 : Int32) (v2 : Int32) (v3 : Int32) (v4 : Int32) (v6 : Int32) (k1 : Int32 → Option St) (kb : Int32 → Int32 → Option St) (σ : St) (v5 : Int32) (v7 : Int32) : Option St :=
  if v6 < v7 then (k1 v5)
  else ((fX4_partsIn σ v1 v7).bind fun x7 => (some ((v5 ||| x7))).bind fun x8 => kb x8 (v7 + (1 : Int32)))
def fX4_layNear_P64 (v1 : Int32) (v2 : Int32) (v3 : Int32) (v4 : Int32) (v6 : Int32) (k1 : Int32 → Option St) (σ : St) (v5 : Int32) (v7 : Int32) : Option St := it (fun (kb : (Int32 × Int32) → Option St) (t : Int32 × Int32) => fX4_layNear_L64 v1 v2 v3 v4 v6 k1 (fun v5 v7 => kb (v5, v7)) σ t.1 t.2) FU (v5, v7)
def fX4_layNear_L101 (v1 : Int32) (v2 : Int32) (v3 : Int32) (v4 : Int32) (v5 : Int32) (v7 : Int32) (k1 : St → Option St) (kb : St → Int32 → Option St) (σ : St) (v8 : Int32) : Option St :=
  if (10 : Int32) ≤ v8 then (k1 σ)
  else ((rd (zA σ 52) 10 v8).bind fun x11 => (fX4_isIn v8 v7).bind fun x12 => if (bi x12) = 0 then (wr 10 v8 ((some (uA σ 52 (upd (zA σ 52) (Int32.toNatClampNeg v8) (x11 ||| (0 : Int32))))).bind fun s13 => kb s13 (v8 + (1 : Int32))))
  else (wr 10 v8 ((some (uA σ 52 (upd (zA σ 52) (Int32.toNatClampNeg v8) (x11 ||| v5)))).bind fun s14 => kb s14 (v8 + (1 : Int32)))))
def fX4_layNear_P101 (v1 : Int32) (v2 : Int32) (v3 : Int32) (v4 : Int32) (v5 : Int32) (v7 : Int32) (k1 : St → Option St) (σ : St) (v8 : Int32) : Option St := it (fun (kb : (St × Int32) → Option St) (t : St × Int32) => fX4_layNear_L101 v1 v2 v3 v4 v5 v7 k1 (fun σ v8 => kb (σ, v8)) t.1 t.2) FU (σ, v8)
def fX4_layNear_L35 (v1 : Int32) (v2 : Int32) (v3 : Int32) (kb : St → Int32 → Option St) (σ : St) (v4 : Int32) : Option St :=
  if v3 < v4 then (some σ)
  else ((fJ9_min_7cf53 v3 (v4 + v2)).bind fun x5 => (fJ9_max_7cf53 (0 : Int32) (v4 - v2)).bind fun x6 => fX4_layNear_P64 v1 v2 v3 v4 x5 (fun x9 => (fX4_partsIn σ v1 v4).bind fun x10 => fX4_layNear_P101 v1 v2 v3 v4 x9 x10 (fun s15 => kb s15 (v4 + (1 : Int32))) σ (0 : Int32)) σ (0 : Int32) x6)
def fX4_layNear_P35 (v1 : Int32) (v2 : Int32) (v3 : Int32) (σ : St) (v4 : Int32) : Option St := it (fun (kb : (St × Int32) → Option St) (t : St × Int32) => fX4_layNear_L35 v1 v2 v3 (fun σ v4 => kb (σ, v4)) t.1 t.2) FU (σ, v4)
def fX4_layNear (σ : St) (p0 : Int32) (p1 : Int32) : Option St :=
  fX4_layNear_P2 p0 p1 (fun s2 => (fX4_sizeOf s2 p0).bind fun x3 => (some ((x3 - (1 : Int32)))).bind fun x4 => fX4_layNear_P35 p0 p1 x4 s2 (0 : Int32)) σ (0 : Int32)
def fX4_bar (σ : St) (p0 : Int32) (p1 : Int32) (p2 : Int32) (p3 : Int32) : Option (Bool × St) :=
  (fX4_layNear σ p0 p3).bind fun s1 => (fX4_isIn p1 (zI s1 29)).bind fun x2 => (fX4_isIn p2 (zI s1 29)).bind fun x3 => if (bi x2) = (bi x3) then (if p1 < 0 then (some (false, s1))
  else (if (10 : Int32) ≤ p1 then (some (false, s1))
  else ((rd (zA s1 52) 10 p1).bind fun x4 => (fX4_isIn p2 x4).bind fun x5 => if (bi x5) = 0 then (some (false, s1))
  else (some (true, s1)))))
  else (some (false, s1))
def fX11_bars (σ : St) (p0 : Int32) (p1 : Int32) (p2 : Int32) (p3 : Int32) : Option (Int32 × St) :=
  (fX4_has σ p0).bind fun x1 => if (bi x1) = 0 then (some ((-1 : Int32), σ))
  else ((fX4_isChange p3).bind fun x2 => if (bi x2) = 0 then (some ((-1 : Int32), σ))
  else (if p1 = p2 then (some ((-1 : Int32), σ))
  else ((fX4_hasPart σ p0 p1).bind fun x3 => if (bi x3) = 0 then (some ((-1 : Int32), σ))
  else ((fX4_hasPart σ p0 p2).bind fun x4 => if (bi x4) = 0 then (some ((-1 : Int32), σ))
  else ((fX4_bar σ p0 p1 p2 p3).bind fun r5 => if (bi r5.1) = 0 then (some ((0 : Int32), r5.2))
  else (some ((1 : Int32), r5.2)))))))
def fX4_setBoys (σ : St) (p0 : Int32) : Option (Bool × St) :=
  if p0 < 0 then (some (false, σ))
  else (if p0 < (1024 : Int32) then ((some (uI σ 29 p0)).bind fun s1 => some (true, s1))
  else (some (false, σ)))
def fX11_boys (σ : St) (p0 : Int32) : Option (Bool × St) :=
  (fX4_setBoys σ p0).bind fun r1 => some (r1.1, r1.2)
def fX4_layClashes_L8 (kb : St → Int32 → Option St) (σ : St) (v3 : Int32) : Option St :=
  if (10 : Int32) ≤ v3 then (some σ)
  else (if (10 : Int32) ≤ v3 then (some σ)
  else ((rd (zA σ 52) 10 v3).bind fun x2 => (fX4_isIn v3 (zI σ 29)).bind fun x3 => if (bi x3) = 0 then (wr 10 v3 ((some (uA σ 53 (upd (zA σ 53) (Int32.toNatClampNeg v3) (x2 ||| (zI σ 29))))).bind fun s4 => kb s4 (v3 + (1 : Int32))))
  else (wr 10 v3 ((some (uA σ 53 (upd (zA σ 53) (Int32.toNatClampNeg v3) (x2 ||| ((zI σ 29) ^^^ (-1 : Int32)))))).bind fun s5 => kb s5 (v3 + (1 : Int32))))))
def fX4_layClashes_P8 (σ : St) (v3 : Int32) : Option St := it (fun (kb : (St × Int32) → Option St) (t : St × Int32) => fX4_layClashes_L8 (fun σ v3 => kb (σ, v3)) t.1 t.2) FU (σ, v3)
def fX4_layClashes (σ : St) (p0 : Int32) (p1 : Int32) : Option St :=
  (fX4_layNear σ p0 p1).bind fun s1 => fX4_layClashes_P8 s1 (0 : Int32)
def fX4_isFree_54_L3 (v1 : Int32) (v2 : Int32) (v3 : Int32) (kb : Int32 → Option Bool) (σ : St) (v4 : Int32) : Option Bool :=
  if v2 ≤ v4 then (some true)
  else (if (10 : Int32) ≤ v4 then (some true)
  else ((fX4_isIn v4 v1).bind fun x1 => if (bi x1) = 0 then (kb (v4 + (1 : Int32)))
  else ((rd (zA σ 54) 10 v4).bind fun x2 => if x2 = v3 then (some false)
  else (kb (v4 + (1 : Int32))))))
def fX4_isFree_54_P3 (v1 : Int32) (v2 : Int32) (v3 : Int32) (σ : St) (v4 : Int32) : Option Bool := it (fun (kb : Int32 → Option Bool) (t : Int32) => fX4_isFree_54_L3 v1 v2 v3 (fun v4 => kb v4) σ t) FU v4
def fX4_isFree_54 (σ : St) (p1 : Int32) (p2 : Int32) (p3 : Int32) : Option Bool :=
  fX4_isFree_54_P3 p1 p2 p3 σ (0 : Int32)
def fX4_dress_53_54_L39 (rec : St → Int32 → Int32 → Int32 → Int32 → Option (Bool × St)) (v2 : Int32) (v3 : Int32) (v4 : Int32) (v5 : Int32) (kb : St → Int32 → Option (Bool × St)) (σ : St) (v6 : Int32) : Option (Bool × St) :=
  if v4 < v6 then (some (false, σ))
  else (if v5 ≤ v6 then (some (false, σ))
  else ((rd (zA σ 53) 10 v3).bind fun x2 => (fX4_isFree_54 σ (v2 &&& x2) v3 v6).bind fun x3 => if (bi x3) = 0 then (kb σ (v6 + (1 : Int32)))
  else (wr 10 v3 ((some (uA σ 54 (upd (zA σ 54) (Int32.toNatClampNeg v3) v6))).bind fun s4 => (fJ9_max_7cf53 v4 (v6 + (1 : Int32))).bind fun x5 => (rec s4 v2 (v3 + (1 : Int32)) x5 v5).bind fun r6 => if (bi r6.1) = 0 then (kb r6.2 (v6 + (1 : Int32)))
  else (some (true, r6.2))))))
def fX4_dress_53_54_P39 (rec : St → Int32 → Int32 → Int32 → Int32 → Option (Bool × St)) (v2 : Int32) (v3 : Int32) (v4 : Int32) (v5 : Int32) (σ : St) (v6 : Int32) : Option (Bool × St) := it (fun (kb : (St × Int32) → Option (Bool × St)) (t : St × Int32) => fX4_dress_53_54_L39 rec v2 v3 v4 v5 (fun σ v6 => kb (σ, v6)) t.1 t.2) FU (σ, v6)
def fX4_dress_53_54_B (rec : St → Int32 → Int32 → Int32 → Int32 → Option (Bool × St)) (σ : St) (p2 : Int32) (p3 : Int32) (p4 : Int32) (p5 : Int32) : Option (Bool × St) :=
  if (10 : Int32) ≤ p3 then (some (true, σ))
  else (if p3 < (10 : Int32) then ((fX4_isIn p3 p2).bind fun x1 => if (bi x1) = 0 then ((rec σ p2 (p3 + (1 : Int32)) p4 p5).bind fun r7 => some (r7.1, r7.2))
  else (fX4_dress_53_54_P39 rec p2 p3 p4 p5 σ (0 : Int32)))
  else (some (true, σ)))
def fX4_dress_53_54 : Nat → St → Int32 → Int32 → Int32 → Int32 → Option (Bool × St)
  | 0 => fun _ _ _ _ _ => none
  | d + 1 => fX4_dress_53_54_B (fX4_dress_53_54 d)
def fX4_fewestCoats_L2 (v1 : Int32) (kb : St → Int32 → Option (Int32 × St)) (σ : St) (v2 : Int32) : Option (Int32 × St) :=
  if (10 : Int32) < v2 then (some ((-1 : Int32), σ))
  else ((fX4_dress_53_54 12 σ v1 (0 : Int32) (0 : Int32) v2).bind fun r1 => if (bi r1.1) = 0 then (kb r1.2 (v2 + (1 : Int32)))
  else (some (v2, r1.2)))
def fX4_fewestCoats_P2 (v1 : Int32) (σ : St) (v2 : Int32) : Option (Int32 × St) := it (fun (kb : (St × Int32) → Option (Int32 × St)) (t : St × Int32) => fX4_fewestCoats_L2 v1 (fun σ v2 => kb (σ, v2)) t.1 t.2) FU (σ, v2)
def fX4_fewestCoats (σ : St) (p0 : Int32) : Option (Int32 × St) :=
  fX4_fewestCoats_P2 p0 σ (0 : Int32)
def fX4_dressAll (σ : St) (p0 : Int32) (p1 : Int32) : Option (Int32 × St) :=
  (fX4_layClashes σ p0 p1).bind fun s1 => (fX4_partsOf s1 p0).bind fun x2 => (fX4_fewestCoats s1 x2).bind fun r3 => some (r3.1, r3.2)
def fX4_coatOf (σ : St) (p0 : Int32) : Option Int32 :=
  if p0 < 0 then (some (-1 : Int32))
  else (if (10 : Int32) ≤ p0 then (some (-1 : Int32))
  else ((rd (zA σ 54) 10 p0).bind fun x1 => some x1))
def fX11_cast (σ : St) (p0 : Int32) (p1 : Int32) (p2 : Int32) : Option (Int32 × St) :=
  (fX4_has σ p0).bind fun x1 => if (bi x1) = 0 then (some ((-1 : Int32), σ))
  else ((fX4_isChange p2).bind fun x2 => if (bi x2) = 0 then (some ((-1 : Int32), σ))
  else (if p1 = (-1 : Int32) then ((fX4_dressAll σ p0 p2).bind fun r3 => if p1 = (-1 : Int32) then (some (r3.1, r3.2))
  else ((fX4_coatOf r3.2 p1).bind fun x4 => some (x4, r3.2)))
  else ((fX4_hasPart σ p0 p1).bind fun x5 => if (bi x5) = 0 then (some ((-1 : Int32), σ))
  else ((fX4_dressAll σ p0 p2).bind fun r6 => if p1 = (-1 : Int32) then (some (r6.1, r6.2))
  else ((fX4_coatOf r6.2 p1).bind fun x7 => some (x7, r6.2))))))
def fX4_isCrew (p0 : Int32) : Option Bool :=
  if p0 < 0 then (some false)
  else (if (10 : Int32) < p0 then (some false)
  else (some true))
def fX4_suffice (σ : St) (p0 : Int32) (p1 : Int32) (p2 : Int32) (p3 : Int32) : Option (Bool × St) :=
  (fX4_layClashes σ p0 p1).bind fun s1 => (fX4_partsOf s1 p0).bind fun x2 => (fX4_fewestCoats s1 (x2 &&& ((zI s1 29) ^^^ (-1 : Int32)))).bind fun r3 => if p2 < r3.1 then (some (false, r3.2))
  else ((fX4_fewestCoats r3.2 (x2 &&& (zI r3.2 29))).bind fun r4 => if p3 < r4.1 then (some (false, r4.2))
  else (some (true, r4.2)))
def fX11_could (σ : St) (p0 : Int32) (p1 : Int32) (p2 : Int32) (p3 : Int32) : Option (Int32 × St) :=
  (fX4_has σ p0).bind fun x1 => if (bi x1) = 0 then (some ((-1 : Int32), σ))
  else ((fX4_isChange p1).bind fun x2 => if (bi x2) = 0 then (some ((-1 : Int32), σ))
  else ((fX4_isCrew p2).bind fun x3 => if (bi x3) = 0 then (some ((-1 : Int32), σ))
  else ((fX4_isCrew p3).bind fun x4 => if (bi x4) = 0 then (some ((-1 : Int32), σ))
  else ((fX4_suffice σ p0 p1 p2 p3).bind fun r5 => if (bi r5.1) = 0 then (some ((0 : Int32), r5.2))
  else (some ((1 : Int32), r5.2))))))
def fX4_number (σ : St) : Option Int32 :=
  some (zI σ 28)
def fX1_number (σ : St) : Option Int32 :=
  some (zI σ 11)
def fX9_size (σ : St) : Option Int32 :=
  some (zI σ 2)
def fX4_boysNow (σ : St) : Option Int32 :=
  some (zI σ 29)
def fX11_count (σ : St) (p0 : Int32) : Option Int32 :=
  if p0 = 0 then ((fX7_number σ).bind fun x1 => some x1)
  else (if p0 = 1 then ((fX4_number σ).bind fun x2 => some x2)
  else (if p0 = 2 then ((fX1_number σ).bind fun x3 => some x3)
  else (if p0 = 3 then ((fX7_speeches σ).bind fun x4 => some x4)
  else (if p0 = 4 then ((fX9_size σ).bind fun x5 => some x5)
  else (if p0 = 5 then ((fX0_limitNow σ).bind fun x6 => some x6)
  else (if p0 = 6 then ((fX4_boysNow σ).bind fun x7 => some x7)
  else (some (-1 : Int32))))))))
def fJ6_bitCount_0f7a4 (p0 : Int32) : Option Int32 :=
  (some ((p0 - ((ushr32 p0 (1 : Int32)) &&& (1431655765 : Int32))))).bind fun x1 => (some (((x1 &&& (858993459 : Int32)) + ((ushr32 x1 (2 : Int32)) &&& (858993459 : Int32))))).bind fun x2 => (some (((x2 + (ushr32 x2 (4 : Int32))) &&& (252645135 : Int32)))).bind fun x3 => (some ((x3 + (ushr32 x3 (8 : Int32))))).bind fun x4 => (some ((x4 + (ushr32 x4 (16 : Int32))))).bind fun x5 => some (x5 &&& (63 : Int32))
def fX4_fullest_L7 (v1 : Int32) (kb : Int32 → Int32 → Int32 → Option Int32) (σ : St) (v2 : Int32) (v3 : Int32) (v4 : Int32) : Option Int32 :=
  (fX4_sizeOf σ v1).bind fun x1 => if x1 ≤ v4 then (some v2)
  else ((fX4_partsIn σ v1 v4).bind fun x2 => (fJ6_bitCount_0f7a4 x2).bind fun x3 => if x3 ≤ v3 then (kb v2 v3 (v4 + (1 : Int32)))
  else (kb v4 x3 (v4 + (1 : Int32))))
def fX4_fullest_P7 (v1 : Int32) (σ : St) (v2 : Int32) (v3 : Int32) (v4 : Int32) : Option Int32 := it (fun (kb : (Int32 × Int32 × Int32) → Option Int32) (t : Int32 × Int32 × Int32) => fX4_fullest_L7 v1 (fun v2 v3 v4 => kb (v2, v3, v4)) σ t.1 t.2.1 t.2.2) FU (v2, v3, v4)
def fX4_fullest (σ : St) (p0 : Int32) : Option Int32 :=
  fX4_fullest_P7 p0 σ (0 : Int32) (0 : Int32) (0 : Int32)
def fX11_crowd (σ : St) (p0 : Int32) (p1 : Int32) : Option Int32 :=
  (fX4_has σ p0).bind fun x1 => if (bi x1) = 0 then (some (-1 : Int32))
  else (if p1 < 0 then (some (-1 : Int32))
  else (if p1 ≤ (1 : Int32) then ((fX4_fullest σ p0).bind fun x2 => if p1 = 0 then (some x2)
  else ((fX4_partsIn σ p0 x2).bind fun x3 => (fJ6_bitCount_0f7a4 x3).bind fun x4 => some x4))
  else (some (-1 : Int32))))
def fX9_cut (σ : St) (p0 : Int32) : Option (Bool × St) :=
  if p0 < 0 then (some (false, σ))
  else (if p0 ≤ (zI σ 2) then ((some (uI σ 2 p0)).bind fun s1 => some (true, s1))
  else (some (false, σ)))
def fX11_end (σ : St) (p0 : Int32) : Option (Bool × St) :=
  (fX9_cut σ p0).bind fun r1 => some (r1.1, r1.2)
def fX11_ends (σ : St) (p0 : Int32) (p1 : Int32) : Option Int32 :=
  (fX7_has σ p0).bind fun x1 => if (bi x1) = 0 then (some (-1 : Int32))
  else ((fX7_has σ p1).bind fun x2 => if (bi x2) = 0 then (some (-1 : Int32))
  else ((fX0_closes σ p0 p1).bind fun x3 => if (bi x3) = 0 then (some (0 : Int32))
  else (some (1 : Int32))))
def fX11_far (σ : St) (p0 : Int32) (p1 : Int32) : Option (Int32 × St) :=
  (fX7_hasCue σ p0).bind fun x1 => if (bi x1) = 0 then (some ((-1 : Int32), σ))
  else ((fX7_has σ p1).bind fun x2 => if (bi x2) = 0 then (some ((-1 : Int32), σ))
  else ((fX0_distance σ p0 p1).bind fun r3 => some (r3.1, r3.2)))
def fX9_at (σ : St) (p0 : Int32) : Option Int32 :=
  if p0 < 0 then (some (-1 : Int32))
  else (if (zI σ 2) ≤ p0 then (some (-1 : Int32))
  else (if (200 : Int32) ≤ p0 then (some (-1 : Int32))
  else ((rd (zA σ 11) 200 p0).bind fun x1 => some (x1 &&& (255 : Int32)))))
def fX1_joins (p0 : Int32) : Option Bool :=
  if p0 < (48 : Int32) then (some false)
  else (if (57 : Int32) < p0 then (some false)
  else (some true))
def fX1_grown (p0 : Int64) (p1 : Int32) : Option Int64 :=
  some ((((10 : Int64) * p0) + (Int32.toInt64 p1)) - (48 : Int64))
def fX1_mostJoined : Option Int32 :=
  some (4 : Int32)
def fX5_cutUp_h_J114 (kb : St → Int32 → Int32 → Int32 → Option St) (σ : St) (v2 : Int32) (v3 : Int32) (v4 : Int32) (v5 : Int32) (v6 : Int32) (t0 : Int32) : Option St :=
  if t0 = 0 then (if v6 = 0 then (wr 201 v2 ((some (uB σ 21 (vp_updL (zB σ 21) (Int32.toNatClampNeg v2) (Int32.toInt64 v5)))).bind fun s5 => wr 201 v2 ((some (uA s5 22 (upd (zA s5 22) (Int32.toNatClampNeg v2) v4))).bind fun s6 => if v6 = 0 then (kb s6 (v2 + (1 : Int32)) (0 : Int32) (v4 + (1 : Int32)))
  else ((some ((v3 + (1 : Int32)))).bind fun x7 => kb s6 (v2 + (1 : Int32)) x7 (v4 + (1 : Int32))))))
  else ((fX1_grown (0 : Int64) v5).bind fun x8 => wr 201 v2 ((some (uB σ 21 (vp_updL (zB σ 21) (Int32.toNatClampNeg v2) ((1000 : Int64) + x8)))).bind fun s9 => wr 201 v2 ((some (uA s9 22 (upd (zA s9 22) (Int32.toNatClampNeg v2) v4))).bind fun s10 => if v6 = 0 then (kb s10 (v2 + (1 : Int32)) (0 : Int32) (v4 + (1 : Int32)))
  else ((some ((v3 + (1 : Int32)))).bind fun x11 => kb s10 (v2 + (1 : Int32)) x11 (v4 + (1 : Int32)))))))
  else (wr 201 v2 ((some (uB σ 21 (vp_updL (zB σ 21) (Int32.toNatClampNeg v2) (257 : Int64)))).bind fun s12 => wr 201 v2 ((some (uA s12 22 (upd (zA s12 22) (Int32.toNatClampNeg v2) v4))).bind fun s13 => if v6 = 0 then (kb s13 (v2 + (1 : Int32)) (0 : Int32) (v4 + (1 : Int32)))
  else ((some ((v3 + (1 : Int32)))).bind fun x14 => kb s13 (v2 + (1 : Int32)) x14 (v4 + (1 : Int32))))))
def fX5_cutUp_h_J93 (kb : St → Int32 → Int32 → Int32 → Option St) (σ : St) (v2 : Int32) (v3 : Int32) (v4 : Int32) (v5 : Int32) (v6 : Int32) : Option St :=
  if v5 = (32 : Int32) then (if v6 = 0 then (kb σ v2 (0 : Int32) (v4 + (1 : Int32)))
  else ((some ((v3 + (1 : Int32)))).bind fun x4 => kb σ v2 x4 (v4 + (1 : Int32))))
  else (if v6 = 0 then (fX5_cutUp_h_J114 kb σ v2 v3 v4 v5 v6 (0 : Int32))
  else (if v3 ≤ 0 then (fX5_cutUp_h_J114 kb σ v2 v3 v4 v5 v6 (0 : Int32))
  else (fX5_cutUp_h_J114 kb σ v2 v3 v4 v5 v6 (1 : Int32))))
def fX5_cutUp_h_L7 (k1 : St → Int32 → Option St) (kb : St → Int32 → Int32 → Int32 → Option St) (σ : St) (v2 : Int32) (v3 : Int32) (v4 : Int32) : Option St :=
  (fX9_size σ).bind fun x1 => if x1 ≤ v4 then (k1 σ v2)
  else (if (200 : Int32) ≤ v2 then (k1 σ v2)
  else ((fX9_at σ v4).bind fun x2 => (fX1_joins x2).bind fun x3 => if (bi x3) = 0 then (fX5_cutUp_h_J93 kb σ v2 v3 v4 x2 (bi x3))
  else (if v3 ≤ 0 then (fX5_cutUp_h_J93 kb σ v2 v3 v4 x2 (bi x3))
  else ((fX1_mostJoined).bind fun x15 => if x15 ≤ v3 then (fX5_cutUp_h_J93 kb σ v2 v3 v4 x2 (bi x3))
  else (if v2 ≤ 0 then (fX5_cutUp_h_J93 kb σ v2 v3 v4 x2 (bi x3))
  else ((rd (zB σ 21) 201 (v2 - (1 : Int32))).bind fun x16 => (fX1_grown (x16 - (1000 : Int64)) x2).bind fun x17 => wr 201 (v2 - (1 : Int32)) ((some (uB σ 21 (vp_updL (zB σ 21) (Int32.toNatClampNeg (v2 - (1 : Int32))) ((1000 : Int64) + x17)))).bind fun s18 => if (bi x3) = 0 then (kb s18 v2 (0 : Int32) (v4 + (1 : Int32)))
  else ((some ((v3 + (1 : Int32)))).bind fun x19 => kb s18 v2 x19 (v4 + (1 : Int32))))))))))
def fX5_cutUp_h_P7 (k1 : St → Int32 → Option St) (σ : St) (v2 : Int32) (v3 : Int32) (v4 : Int32) : Option St := it (fun (kb : (St × Int32 × Int32 × Int32) → Option St) (t : St × Int32 × Int32 × Int32) => fX5_cutUp_h_L7 k1 (fun σ v2 v3 v4 => kb (σ, v2, v3, v4)) t.1 t.2.1 t.2.2.1 t.2.2.2) FU (σ, v2, v3, v4)
def fX5_cutUp_h (σ : St) : Option St :=
  fX5_cutUp_h_P7 (fun s20 x21 => wr 201 x21 ((some (uB s20 21 (vp_updL (zB s20 21) (Int32.toNatClampNeg x21) (256 : Int64)))).bind fun s22 => (fX9_size s22).bind fun x23 => wr 201 x21 ((some (uA s22 22 (upd (zA s22 22) (Int32.toNatClampNeg x21) x23))).bind fun s24 => some s24))) σ (0 : Int32) (0 : Int32) (0 : Int32)
def fX5_begin_h_21 (σ : St) : Option St :=
  (some (uR σ 2 21)).bind fun s1 => (some (uI s1 9 (0 : Int32))).bind fun s2 => (some (uI s2 10 (-1 : Int32))).bind fun s3 => some s3
def fX5_sign_h (σ : St) : Option Int32 :=
  if (zI σ 10) = (-1 : Int32) then (if (zI σ 9) < 0 then (some (257 : Int32))
  else (isl (lenB σ (zR σ 2)) (if (zI σ 9) < (Int32.ofNat (lenB σ (zR σ 2))) then ((rd (zB σ (zR σ 2)) (lenB σ (zR σ 2)) (zI σ 9)).bind fun x1 => if (lg_cmp x1 (1000 : Int64)) < 0 then ((rd (zB σ (zR σ 2)) (lenB σ (zR σ 2)) (zI σ 9)).bind fun x2 => some (Int64.toInt32 x2))
  else (some (1000 : Int32)))
  else (some (257 : Int32)))))
  else (some (257 : Int32))
def fX5_spoil_h (σ : St) : Option St :=
  if (zI σ 10) = (-1 : Int32) then (if (zI σ 9) < 0 then (some σ)
  else (if (201 : Int32) ≤ (zI σ 9) then (some σ)
  else ((rd (zA σ 22) 201 (zI σ 9)).bind fun x1 => (some (uI σ 10 x1)).bind fun s2 => some s2)))
  else (some σ)
def fX5_needs_h (σ : St) (p0 : Int32) : Option St :=
  (fX5_sign_h σ).bind fun x1 => if x1 = p0 then ((some (uI σ 9 ((zI σ 9) + (1 : Int32)))).bind fun s3 => some s3)
  else ((fX5_spoil_h σ).bind fun s2 => some s2)
def fX1_letterValue (σ : St) (p0 : Int32) : Option Int32 :=
  if p0 = 102 then (some (zI σ 14))
  else (if p0 = 108 then ((fX10_letter (zJ σ 0) (0 : Int32)).bind fun x1 => some x1)
  else (if p0 = 110 then (some (zI σ 12))
  else (if p0 = 118 then (some (zI σ 13))
  else (if p0 = 119 then (some (zI σ 15))
  else (some (-1 : Int32))))))
def fX5_step_h (σ : St) : Option St :=
  (some (uI σ 9 ((zI σ 9) + (1 : Int32)))).bind fun s1 => some s1
def fX5_value_h (σ : St) : Option Int64 :=
  if (zI σ 9) < 0 then (some (0 : Int64))
  else (isl (lenB σ (zR σ 2)) (if (Int32.ofNat (lenB σ (zR σ 2))) ≤ (zI σ 9) then (some (0 : Int64))
  else ((rd (zB σ (zR σ 2)) (lenB σ (zR σ 2)) (zI σ 9)).bind fun x1 => some (x1 - (1000 : Int64)))))
def fJ9_min_f86c9 (p0 : Int64) (p1 : Int64) : Option Int64 :=
  if 0 < (lg_cmp p0 p1) then (some p1)
  else (some p0)
def fJ9_max_f86c9 (p0 : Int64) (p1 : Int64) : Option Int64 :=
  if (lg_cmp p0 p1) < 0 then (some p1)
  else (some p0)
def fX1_bounded (p0 : Int64) : Option Int32 :=
  (fJ9_min_f86c9 (1000000 : Int64) p0).bind fun x1 => (fJ9_max_f86c9 (-1000000 : Int64) x1).bind fun x2 => some (Int64.toInt32 x2)
def fX1_term_J34 (rec : St → Int32 → Option (Int32 × St)) (kb : St → Int32 → Int32 → Int32 → Option (Int32 × St)) (σ : St) (v1 : Int32) (v2 : Int32) (v3 : Int32) (v4 : Int32) : Option (Int32 × St) :=
  (fX5_step_h σ).bind fun s3 => (rec s3 v1).bind fun r4 => if v3 = (42 : Int32) then ((fX1_bounded ((Int32.toInt64 v2) * (Int32.toInt64 r4.1))).bind fun x8 => (fX5_sign_h r4.2).bind fun x9 => kb r4.2 x8 x9 (v4 + (1 : Int32)))
  else (if r4.1 = 0 then ((fX5_sign_h r4.2).bind fun x7 => kb r4.2 (0 : Int32) x7 (v4 + (1 : Int32)))
  else (nz r4.1 ((fX1_bounded (Int32.toInt64 (v2 / r4.1))).bind fun x5 => (fX5_sign_h r4.2).bind fun x6 => kb r4.2 x5 x6 (v4 + (1 : Int32)))))
def fX1_term_L14 (rec : St → Int32 → Option (Int32 × St)) (v1 : Int32) (kb : St → Int32 → Int32 → Int32 → Option (Int32 × St)) (σ : St) (v2 : Int32) (v3 : Int32) (v4 : Int32) : Option (Int32 × St) :=
  if (200 : Int32) ≤ v4 then (some (v2, σ))
  else (if v3 = (42 : Int32) then (fX1_term_J34 rec kb σ v1 v2 v3 v4)
  else (if v3 = (47 : Int32) then (fX1_term_J34 rec kb σ v1 v2 v3 v4)
  else (some (v2, σ))))
def fX1_term_P14 (rec : St → Int32 → Option (Int32 × St)) (v1 : Int32) (σ : St) (v2 : Int32) (v3 : Int32) (v4 : Int32) : Option (Int32 × St) := it (fun (kb : (St × Int32 × Int32 × Int32) → Option (Int32 × St)) (t : St × Int32 × Int32 × Int32) => fX1_term_L14 rec v1 (fun σ v2 v3 v4 => kb (σ, v2, v3, v4)) t.1 t.2.1 t.2.2.1 t.2.2.2) FU (σ, v2, v3, v4)
def fX1_term_B (rec : St → Int32 → Option (Int32 × St)) (σ : St) (p0 : Int32) : Option (Int32 × St) :=
  (rec σ p0).bind fun r1 => (fX5_sign_h r1.2).bind fun x2 => fX1_term_P14 rec p0 r1.2 r1.1 x2 (0 : Int32)
def fX1_sum_L14 (rec : St → Int32 → Option (Int32 × St)) (v1 : Int32) (kb : St → Int32 → Int32 → Int32 → Option (Int32 × St)) (σ : St) (v2 : Int32) (v3 : Int32) (v4 : Int32) : Option (Int32 × St) :=
  if (200 : Int32) ≤ v4 then (some (v2, σ))
  else (if v3 = (43 : Int32) then ((fX5_step_h σ).bind fun s3 => (fX1_term_B rec s3 v1).bind fun r4 => if v3 = (43 : Int32) then ((fX1_bounded (Int32.toInt64 (v2 + r4.1))).bind fun x7 => (fX5_sign_h r4.2).bind fun x8 => kb r4.2 x7 x8 (v4 + (1 : Int32)))
  else ((fX1_bounded (Int32.toInt64 (v2 - r4.1))).bind fun x5 => (fX5_sign_h r4.2).bind fun x6 => kb r4.2 x5 x6 (v4 + (1 : Int32))))
  else (if v3 = (45 : Int32) then ((fX5_step_h σ).bind fun s9 => (fX1_term_B rec s9 v1).bind fun r10 => if v3 = (43 : Int32) then ((fX1_bounded (Int32.toInt64 (v2 + r10.1))).bind fun x13 => (fX5_sign_h r10.2).bind fun x14 => kb r10.2 x13 x14 (v4 + (1 : Int32)))
  else ((fX1_bounded (Int32.toInt64 (v2 - r10.1))).bind fun x11 => (fX5_sign_h r10.2).bind fun x12 => kb r10.2 x11 x12 (v4 + (1 : Int32))))
  else (some (v2, σ))))
def fX1_sum_P14 (rec : St → Int32 → Option (Int32 × St)) (v1 : Int32) (σ : St) (v2 : Int32) (v3 : Int32) (v4 : Int32) : Option (Int32 × St) := it (fun (kb : (St × Int32 × Int32 × Int32) → Option (Int32 × St)) (t : St × Int32 × Int32 × Int32) => fX1_sum_L14 rec v1 (fun σ v2 v3 v4 => kb (σ, v2, v3, v4)) t.1 t.2.1 t.2.2.1 t.2.2.2) FU (σ, v2, v3, v4)
def fX1_sum_B (rec : St → Int32 → Option (Int32 × St)) (σ : St) (p0 : Int32) : Option (Int32 × St) :=
  (fX1_term_B rec σ p0).bind fun r1 => (fX5_sign_h r1.2).bind fun x2 => fX1_sum_P14 rec p0 r1.2 r1.1 x2 (0 : Int32)
def fX1_atom_B (rec : St → Int32 → Option (Int32 × St)) (σ : St) (p0 : Int32) : Option (Int32 × St) :=
  (fX5_sign_h σ).bind fun x1 => if x1 = (91 : Int32) then (if (6 : Int32) ≤ p0 then (if x1 = (1000 : Int32) then ((fX5_value_h σ).bind fun x12 => (some ((Int64.toInt32 x12))).bind fun x13 => if x13 = (-1 : Int32) then ((fX5_spoil_h σ).bind fun s15 => some ((0 : Int32), s15))
  else ((fX5_step_h σ).bind fun s14 => some (x13, s14)))
  else ((fX1_letterValue σ x1).bind fun x9 => if x9 = (-1 : Int32) then ((fX5_spoil_h σ).bind fun s11 => some ((0 : Int32), s11))
  else ((fX5_step_h σ).bind fun s10 => some (x9, s10))))
  else ((fX5_step_h σ).bind fun s16 => (fX1_sum_B rec s16 (p0 + (1 : Int32))).bind fun r17 => (fX5_needs_h r17.2 (93 : Int32)).bind fun s18 => some (r17.1, s18)))
  else (if x1 = (1000 : Int32) then ((fX5_value_h σ).bind fun x5 => (some ((Int64.toInt32 x5))).bind fun x6 => if x6 = (-1 : Int32) then ((fX5_spoil_h σ).bind fun s8 => some ((0 : Int32), s8))
  else ((fX5_step_h σ).bind fun s7 => some (x6, s7)))
  else ((fX1_letterValue σ x1).bind fun x2 => if x2 = (-1 : Int32) then ((fX5_spoil_h σ).bind fun s4 => some ((0 : Int32), s4))
  else ((fX5_step_h σ).bind fun s3 => some (x2, s3))))
def fX1_atom : Nat → St → Int32 → Option (Int32 × St)
  | 0 => fun _ _ => none
  | d + 1 => fX1_atom_B (fX1_atom d)
def fX1_term (d : Nat) (σ : St) (p0 : Int32) : Option (Int32 × St) := fX1_term_B (fX1_atom d) σ p0
def fX1_sum (d : Nat) (σ : St) (p0 : Int32) : Option (Int32 × St) := fX1_sum_B (fX1_atom d) σ p0
def fX1_isRelation (p0 : Int32) : Option Bool :=
  if p0 = (61 : Int32) then (some true)
  else (if p0 = (60 : Int32) then (some true)
  else (if p0 = (62 : Int32) then (some true)
  else (some false)))
def fX1_compared (σ : St) (p0 : Int32) (p1 : Int32) : Option (Bool × St) :=
  (fX5_sign_h σ).bind fun x1 => (fX1_isRelation x1).bind fun x2 => if (bi x2) = 0 then ((fX5_spoil_h σ).bind fun s5 => some (false, s5))
  else ((fX5_step_h σ).bind fun s3 => (fX1_sum 8 s3 p1).bind fun r4 => if x1 = (61 : Int32) then (if p0 = r4.1 then (some (true, r4.2))
  else (some (false, r4.2)))
  else (if x1 = (60 : Int32) then (if r4.1 ≤ p0 then (some (false, r4.2))
  else (some (true, r4.2)))
  else (if p0 ≤ r4.1 then (some (false, r4.2))
  else (some (true, r4.2)))))
def fX5_takes_h (σ : St) (p0 : Int32) : Option (Bool × St) :=
  (fX5_sign_h σ).bind fun x1 => if x1 = p0 then ((some (uI σ 9 ((zI σ 9) + (1 : Int32)))).bind fun s2 => some (true, s2))
  else (some (false, σ))
def fX1_moreUnits_L5 (rec : St → Int32 → Option (Bool × St)) (v2 : Int32) (kb : St → Int32 → Int32 → Option (Bool × St)) (σ : St) (v3 : Int32) (v4 : Int32) : Option (Bool × St) :=
  if (200 : Int32) ≤ v4 then ((zb v3).bind fun b => some (b, σ))
  else ((fX5_takes_h σ (38 : Int32)).bind fun r1 => if (bi r1.1) = 0 then ((zb v3).bind fun b => some (b, r1.2))
  else ((rec r1.2 v2).bind fun r2 => (some ((v3 &&& (bi r2.1)))).bind fun x3 => kb r2.2 x3 (v4 + (1 : Int32))))
def fX1_moreUnits_P5 (rec : St → Int32 → Option (Bool × St)) (v2 : Int32) (σ : St) (v3 : Int32) (v4 : Int32) : Option (Bool × St) := it (fun (kb : (St × Int32 × Int32) → Option (Bool × St)) (t : St × Int32 × Int32) => fX1_moreUnits_L5 rec v2 (fun σ v3 v4 => kb (σ, v3, v4)) t.1 t.2.1 t.2.2) FU (σ, v3, v4)
def fX1_moreUnits_B (rec : St → Int32 → Option (Bool × St)) (σ : St) (p0 : Int32) (p1 : Int32) : Option (Bool × St) :=
  fX1_moreUnits_P5 rec p1 σ p0 (0 : Int32)
def fX1_moreTruths_L5 (rec : St → Int32 → Option (Bool × St)) (v2 : Int32) (kb : St → Int32 → Int32 → Option (Bool × St)) (σ : St) (v3 : Int32) (v4 : Int32) : Option (Bool × St) :=
  if (200 : Int32) ≤ v4 then ((zb v3).bind fun b => some (b, σ))
  else ((fX5_takes_h σ (124 : Int32)).bind fun r1 => if (bi r1.1) = 0 then ((zb v3).bind fun b => some (b, r1.2))
  else ((rec r1.2 v2).bind fun r2 => (fX1_moreUnits_B rec r2.2 (bi r2.1) v2).bind fun r3 => (some ((v3 ||| (bi r3.1)))).bind fun x4 => kb r3.2 x4 (v4 + (1 : Int32))))
def fX1_moreTruths_P5 (rec : St → Int32 → Option (Bool × St)) (v2 : Int32) (σ : St) (v3 : Int32) (v4 : Int32) : Option (Bool × St) := it (fun (kb : (St × Int32 × Int32) → Option (Bool × St)) (t : St × Int32 × Int32) => fX1_moreTruths_L5 rec v2 (fun σ v3 v4 => kb (σ, v3, v4)) t.1 t.2.1 t.2.2) FU (σ, v3, v4)
def fX1_moreTruths_B (rec : St → Int32 → Option (Bool × St)) (σ : St) (p0 : Int32) (p1 : Int32) : Option (Bool × St) :=
  fX1_moreTruths_P5 rec p1 σ p0 (0 : Int32)
def fX1_condition_B (rec : St → Int32 → Option (Bool × St)) (σ : St) (p0 : Int32) : Option (Bool × St) :=
  (rec σ p0).bind fun r1 => (fX1_moreUnits_B rec r1.2 (bi r1.1) p0).bind fun r2 => (fX1_moreTruths_B rec r2.2 (bi r2.1) p0).bind fun r3 => some (r3.1, r3.2)
def fX1_unit_L7 (rec : St → Int32 → Option (Bool × St)) (k1 : St → Int32 → Int32 → Option (Bool × St)) (kb : St → Int32 → Int32 → Int32 → Option (Bool × St)) (σ : St) (v2 : Int32) (v3 : Int32) (v4 : Int32) : Option (Bool × St) :=
  if (6 : Int32) ≤ v4 then (k1 σ v2 v3)
  else ((fX5_takes_h σ (33 : Int32)).bind fun r1 => if (bi r1.1) = 0 then (k1 r1.2 v2 v3)
  else (if v2 = 0 then (kb r1.2 (1 : Int32) (v3 + (1 : Int32)) (v4 + (1 : Int32)))
  else (kb r1.2 (0 : Int32) (v3 + (1 : Int32)) (v4 + (1 : Int32)))))
def fX1_unit_P7 (rec : St → Int32 → Option (Bool × St)) (k1 : St → Int32 → Int32 → Option (Bool × St)) (σ : St) (v2 : Int32) (v3 : Int32) (v4 : Int32) : Option (Bool × St) := it (fun (kb : (St × Int32 × Int32 × Int32) → Option (Bool × St)) (t : St × Int32 × Int32 × Int32) => fX1_unit_L7 rec k1 (fun σ v2 v3 v4 => kb (σ, v2, v3, v4)) t.1 t.2.1 t.2.2.1 t.2.2.2) FU (σ, v2, v3, v4)
def fX1_unit_J42 (rec : St → Int32 → Option (Bool × St)) (σ : St) (v2 : Int32) (v3 : Int32) : Option (Bool × St) :=
  if (6 : Int32) ≤ v3 then ((fX1_sum 8 σ v3).bind fun r5 => (fX1_compared r5.2 r5.1 v3).bind fun r6 => if (bi r6.1) = v2 then (some (false, r6.2))
  else (some (true, r6.2)))
  else ((fX5_takes_h σ (40 : Int32)).bind fun r7 => if (bi r7.1) = 0 then ((fX1_sum 8 r7.2 v3).bind fun r8 => (fX1_compared r8.2 r8.1 v3).bind fun r9 => if (bi r9.1) = v2 then (some (false, r9.2))
  else (some (true, r9.2)))
  else ((fX1_condition_B rec r7.2 (v3 + (1 : Int32))).bind fun r10 => (fX5_needs_h r10.2 (41 : Int32)).bind fun s11 => if (bi r10.1) = v2 then (some (false, s11))
  else (some (true, s11))))
def fX1_unit_B (rec : St → Int32 → Option (Bool × St)) (σ : St) (p0 : Int32) : Option (Bool × St) :=
  fX1_unit_P7 rec (fun s2 x3 x4 => fX1_unit_J42 rec s2 x3 x4) σ (0 : Int32) p0 p0
def fX1_unit : Nat → St → Int32 → Option (Bool × St)
  | 0 => fun _ _ => none
  | d + 1 => fX1_unit_B (fX1_unit d)
def fX1_moreUnits (d : Nat) (σ : St) (p0 : Int32) (p1 : Int32) : Option (Bool × St) := fX1_moreUnits_B (fX1_unit d) σ p0 p1
def fX1_moreTruths (d : Nat) (σ : St) (p0 : Int32) (p1 : Int32) : Option (Bool × St) := fX1_moreTruths_B (fX1_unit d) σ p0 p1
def fX1_condition (d : Nat) (σ : St) (p0 : Int32) : Option (Bool × St) := fX1_condition_B (fX1_unit d) σ p0
def fX1_takeAll_J93 (kb : St → Int32 → Int32 → Int32 → Option St) (σ : St) (v1 : Int32) (v3 : Int32) (v4 : Int32) (v5 : Int32) : Option St :=
  if v4 = 0 then ((fX1_compared σ v5 (0 : Int32)).bind fun r6 => (fX1_moreUnits 8 r6.2 (bi r6.1) (0 : Int32)).bind fun r7 => (fX1_moreTruths 8 r7.2 (bi r7.1) (0 : Int32)).bind fun r8 => (fX5_needs_h r8.2 (63 : Int32)).bind fun s9 => (fX1_sum 8 s9 (0 : Int32)).bind fun r10 => if (bi r8.1) = 0 then ((fX5_takes_h r10.2 (59 : Int32)).bind fun r11 => kb r11.2 v1 (bi r11.1) (v3 + (1 : Int32)))
  else (if v1 = 0 then ((some (uI r10.2 16 r10.1)).bind fun s13 => (fX5_takes_h s13 (59 : Int32)).bind fun r14 => kb r14.2 (1 : Int32) (bi r14.1) (v3 + (1 : Int32)))
  else ((fX5_takes_h r10.2 (59 : Int32)).bind fun r12 => kb r12.2 v1 (bi r12.1) (v3 + (1 : Int32)))))
  else ((fX1_condition 8 σ (0 : Int32)).bind fun r15 => (fX5_needs_h r15.2 (63 : Int32)).bind fun s16 => (fX1_sum 8 s16 (0 : Int32)).bind fun r17 => if (bi r15.1) = 0 then ((fX5_takes_h r17.2 (59 : Int32)).bind fun r18 => kb r18.2 v1 (bi r18.1) (v3 + (1 : Int32)))
  else (if v1 = 0 then ((some (uI r17.2 16 r17.1)).bind fun s20 => (fX5_takes_h s20 (59 : Int32)).bind fun r21 => kb r21.2 (1 : Int32) (bi r21.1) (v3 + (1 : Int32)))
  else ((fX5_takes_h r17.2 (59 : Int32)).bind fun r19 => kb r19.2 v1 (bi r19.1) (v3 + (1 : Int32)))))
def fX1_takeAll_J57 (kb : St → Int32 → Int32 → Int32 → Option St) (σ : St) (v1 : Int32) (v3 : Int32) (t0 : Int32) : Option St :=
  if t0 = 0 then ((fX1_sum 8 σ (0 : Int32)).bind fun r5 => if t0 = 0 then ((fX5_sign_h r5.2).bind fun x22 => (fX1_isRelation x22).bind fun x23 => if (bi x23) = 0 then (if (1 : Int32) = 0 then ((fX5_takes_h r5.2 (59 : Int32)).bind fun r24 => kb r24.2 v1 (bi r24.1) (v3 + (1 : Int32)))
  else (if v1 = 0 then ((some (uI r5.2 16 r5.1)).bind fun s26 => (fX5_takes_h s26 (59 : Int32)).bind fun r27 => kb r27.2 (1 : Int32) (bi r27.1) (v3 + (1 : Int32)))
  else ((fX5_takes_h r5.2 (59 : Int32)).bind fun r25 => kb r25.2 v1 (bi r25.1) (v3 + (1 : Int32)))))
  else (fX1_takeAll_J93 kb r5.2 v1 v3 t0 r5.1))
  else (fX1_takeAll_J93 kb r5.2 v1 v3 t0 r5.1))
  else (if t0 = 0 then ((fX5_sign_h σ).bind fun x28 => (fX1_isRelation x28).bind fun x29 => if (bi x29) = 0 then (if (1 : Int32) = 0 then ((fX5_takes_h σ (59 : Int32)).bind fun r30 => kb r30.2 v1 (bi r30.1) (v3 + (1 : Int32)))
  else (if v1 = 0 then ((some (uI σ 16 (0 : Int32))).bind fun s32 => (fX5_takes_h s32 (59 : Int32)).bind fun r33 => kb r33.2 (1 : Int32) (bi r33.1) (v3 + (1 : Int32)))
  else ((fX5_takes_h σ (59 : Int32)).bind fun r31 => kb r31.2 v1 (bi r31.1) (v3 + (1 : Int32)))))
  else (fX1_takeAll_J93 kb σ v1 v3 t0 (0 : Int32)))
  else (fX1_takeAll_J93 kb σ v1 v3 t0 (0 : Int32)))
def fX1_takeAll_L11 (kb : St → Int32 → Int32 → Int32 → Option St) (σ : St) (v1 : Int32) (v2 : Int32) (v3 : Int32) : Option St :=
  if (200 : Int32) ≤ v3 then (some σ)
  else (if v2 = 0 then (some σ)
  else ((fX5_needs_h σ (121 : Int32)).bind fun s2 => (fX5_needs_h s2 (58 : Int32)).bind fun s3 => (fX5_sign_h s3).bind fun x4 => if x4 = (33 : Int32) then (fX1_takeAll_J57 kb s3 v1 v3 (1 : Int32))
  else ((fX5_sign_h s3).bind fun x34 => if x34 = (40 : Int32) then (fX1_takeAll_J57 kb s3 v1 v3 (1 : Int32))
  else (fX1_takeAll_J57 kb s3 v1 v3 (0 : Int32)))))
def fX1_takeAll_P11 (σ : St) (v1 : Int32) (v2 : Int32) (v3 : Int32) : Option St := it (fun (kb : (St × Int32 × Int32 × Int32) → Option St) (t : St × Int32 × Int32 × Int32) => fX1_takeAll_L11 (fun σ v1 v2 v3 => kb (σ, v1, v2, v3)) t.1 t.2.1 t.2.2.1 t.2.2.2) FU (σ, v1, v2, v3)
def fX1_takeAll (σ : St) : Option St :=
  (some (uI σ 16 (0 : Int32))).bind fun s1 => fX1_takeAll_P11 s1 (0 : Int32) (1 : Int32) (0 : Int32)
def fX5_faultOf_h (σ : St) : Option (Int32 × St) :=
  (fX5_cutUp_h σ).bind fun s1 => (fX5_begin_h_21 s1).bind fun s2 => (fX1_takeAll s2).bind fun s3 => (fX5_sign_h s3).bind fun x4 => if x4 = (256 : Int32) then (some ((zI s3 10), s3))
  else ((fX5_spoil_h s3).bind fun s5 => some ((zI s5 10), s5))
def fX3_joins (p0 : Int32) : Option Bool :=
  some false
def fX3_grown (p0 : Int64) (p1 : Int32) : Option Int64 :=
  some p0
def fX3_mostJoined : Option Int32 :=
  some (0 : Int32)
def fX5_cutUp_p_J114 (kb : St → Int32 → Int32 → Int32 → Option St) (σ : St) (v2 : Int32) (v3 : Int32) (v4 : Int32) (v5 : Int32) (v6 : Int32) (t0 : Int32) : Option St :=
  if t0 = 0 then (if v6 = 0 then (wr 201 v2 ((some (uB σ 18 (vp_updL (zB σ 18) (Int32.toNatClampNeg v2) (Int32.toInt64 v5)))).bind fun s5 => wr 201 v2 ((some (uA s5 19 (upd (zA s5 19) (Int32.toNatClampNeg v2) v4))).bind fun s6 => if v6 = 0 then (kb s6 (v2 + (1 : Int32)) (0 : Int32) (v4 + (1 : Int32)))
  else ((some ((v3 + (1 : Int32)))).bind fun x7 => kb s6 (v2 + (1 : Int32)) x7 (v4 + (1 : Int32))))))
  else ((fX3_grown (0 : Int64) v5).bind fun x8 => wr 201 v2 ((some (uB σ 18 (vp_updL (zB σ 18) (Int32.toNatClampNeg v2) ((1000 : Int64) + x8)))).bind fun s9 => wr 201 v2 ((some (uA s9 19 (upd (zA s9 19) (Int32.toNatClampNeg v2) v4))).bind fun s10 => if v6 = 0 then (kb s10 (v2 + (1 : Int32)) (0 : Int32) (v4 + (1 : Int32)))
  else ((some ((v3 + (1 : Int32)))).bind fun x11 => kb s10 (v2 + (1 : Int32)) x11 (v4 + (1 : Int32)))))))
  else (wr 201 v2 ((some (uB σ 18 (vp_updL (zB σ 18) (Int32.toNatClampNeg v2) (257 : Int64)))).bind fun s12 => wr 201 v2 ((some (uA s12 19 (upd (zA s12 19) (Int32.toNatClampNeg v2) v4))).bind fun s13 => if v6 = 0 then (kb s13 (v2 + (1 : Int32)) (0 : Int32) (v4 + (1 : Int32)))
  else ((some ((v3 + (1 : Int32)))).bind fun x14 => kb s13 (v2 + (1 : Int32)) x14 (v4 + (1 : Int32))))))
def fX5_cutUp_p_J93 (kb : St → Int32 → Int32 → Int32 → Option St) (σ : St) (v2 : Int32) (v3 : Int32) (v4 : Int32) (v5 : Int32) (v6 : Int32) : Option St :=
  if v5 = (32 : Int32) then (if v6 = 0 then (kb σ v2 (0 : Int32) (v4 + (1 : Int32)))
  else ((some ((v3 + (1 : Int32)))).bind fun x4 => kb σ v2 x4 (v4 + (1 : Int32))))
  else (if v6 = 0 then (fX5_cutUp_p_J114 kb σ v2 v3 v4 v5 v6 (0 : Int32))
  else (if v3 ≤ 0 then (fX5_cutUp_p_J114 kb σ v2 v3 v4 v5 v6 (0 : Int32))
  else (fX5_cutUp_p_J114 kb σ v2 v3 v4 v5 v6 (1 : Int32))))
def fX5_cutUp_p_L7 (k1 : St → Int32 → Option St) (kb : St → Int32 → Int32 → Int32 → Option St) (σ : St) (v2 : Int32) (v3 : Int32) (v4 : Int32) : Option St :=
  (fX9_size σ).bind fun x1 => if x1 ≤ v4 then (k1 σ v2)
  else (if (200 : Int32) ≤ v2 then (k1 σ v2)
  else ((fX9_at σ v4).bind fun x2 => (fX3_joins x2).bind fun x3 => if (bi x3) = 0 then (fX5_cutUp_p_J93 kb σ v2 v3 v4 x2 (bi x3))
  else (if v3 ≤ 0 then (fX5_cutUp_p_J93 kb σ v2 v3 v4 x2 (bi x3))
  else ((fX3_mostJoined).bind fun x15 => if x15 ≤ v3 then (fX5_cutUp_p_J93 kb σ v2 v3 v4 x2 (bi x3))
  else (if v2 ≤ 0 then (fX5_cutUp_p_J93 kb σ v2 v3 v4 x2 (bi x3))
  else ((rd (zB σ 18) 201 (v2 - (1 : Int32))).bind fun x16 => (fX3_grown (x16 - (1000 : Int64)) x2).bind fun x17 => wr 201 (v2 - (1 : Int32)) ((some (uB σ 18 (vp_updL (zB σ 18) (Int32.toNatClampNeg (v2 - (1 : Int32))) ((1000 : Int64) + x17)))).bind fun s18 => if (bi x3) = 0 then (kb s18 v2 (0 : Int32) (v4 + (1 : Int32)))
  else ((some ((v3 + (1 : Int32)))).bind fun x19 => kb s18 v2 x19 (v4 + (1 : Int32))))))))))
def fX5_cutUp_p_P7 (k1 : St → Int32 → Option St) (σ : St) (v2 : Int32) (v3 : Int32) (v4 : Int32) : Option St := it (fun (kb : (St × Int32 × Int32 × Int32) → Option St) (t : St × Int32 × Int32 × Int32) => fX5_cutUp_p_L7 k1 (fun σ v2 v3 v4 => kb (σ, v2, v3, v4)) t.1 t.2.1 t.2.2.1 t.2.2.2) FU (σ, v2, v3, v4)
def fX5_cutUp_p (σ : St) : Option St :=
  fX5_cutUp_p_P7 (fun s20 x21 => wr 201 x21 ((some (uB s20 18 (vp_updL (zB s20 18) (Int32.toNatClampNeg x21) (256 : Int64)))).bind fun s22 => (fX9_size s22).bind fun x23 => wr 201 x21 ((some (uA s22 19 (upd (zA s22 19) (Int32.toNatClampNeg x21) x23))).bind fun s24 => some s24))) σ (0 : Int32) (0 : Int32) (0 : Int32)
def fX5_begin_p_18 (σ : St) : Option St :=
  (some (uR σ 1 18)).bind fun s1 => (some (uI s1 6 (0 : Int32))).bind fun s2 => (some (uI s2 7 (-1 : Int32))).bind fun s3 => some s3
def fX5_sign_p (σ : St) : Option Int32 :=
  if (zI σ 7) = (-1 : Int32) then (if (zI σ 6) < 0 then (some (257 : Int32))
  else (isl (lenB σ (zR σ 1)) (if (zI σ 6) < (Int32.ofNat (lenB σ (zR σ 1))) then ((rd (zB σ (zR σ 1)) (lenB σ (zR σ 1)) (zI σ 6)).bind fun x1 => if (lg_cmp x1 (1000 : Int64)) < 0 then ((rd (zB σ (zR σ 1)) (lenB σ (zR σ 1)) (zI σ 6)).bind fun x2 => some (Int64.toInt32 x2))
  else (some (1000 : Int32)))
  else (some (257 : Int32)))))
  else (some (257 : Int32))
def fX5_step_p (σ : St) : Option St :=
  (some (uI σ 6 ((zI σ 6) + (1 : Int32)))).bind fun s1 => some s1
def fX5_spoil_p (σ : St) : Option St :=
  if (zI σ 7) = (-1 : Int32) then (if (zI σ 6) < 0 then (some σ)
  else (if (201 : Int32) ≤ (zI σ 6) then (some σ)
  else ((rd (zA σ 19) 201 (zI σ 6)).bind fun x1 => (some (uI σ 7 x1)).bind fun s2 => some s2)))
  else (some σ)
def fX3_takeScene_L6 (k1 : St → Int32 → Option (Int32 × St)) (kb : St → Int32 → Int32 → Int32 → Option (Int32 × St)) (σ : St) (v1 : Int32) (v2 : Int32) (v3 : Int32) : Option (Int32 × St) :=
  if (10 : Int32) ≤ v3 then (k1 σ v1)
  else (if v2 = 0 then (k1 σ v1)
  else ((fX5_sign_p σ).bind fun x1 => (some ((x1 - (97 : Int32)))).bind fun x2 => if x2 < 0 then (if (0 : Int32) = 0 then (kb σ v1 (0 : Int32) (v3 + (1 : Int32)))
  else ((some ((v1 ||| ((1 : Int32) <<< (x2 &&& 31))))).bind fun x3 => (fX5_step_p σ).bind fun s4 => kb s4 x3 (0 : Int32) (v3 + (1 : Int32))))
  else (if (10 : Int32) ≤ x2 then (if (0 : Int32) = 0 then (kb σ v1 (0 : Int32) (v3 + (1 : Int32)))
  else ((some ((v1 ||| ((1 : Int32) <<< (x2 &&& 31))))).bind fun x5 => (fX5_step_p σ).bind fun s6 => kb s6 x5 (0 : Int32) (v3 + (1 : Int32))))
  else (if ((v1 >>> (x2 &&& 31)) &&& (1 : Int32)) = 0 then (if (1 : Int32) = 0 then (kb σ v1 (1 : Int32) (v3 + (1 : Int32)))
  else ((some ((v1 ||| ((1 : Int32) <<< (x2 &&& 31))))).bind fun x9 => (fX5_step_p σ).bind fun s10 => kb s10 x9 (1 : Int32) (v3 + (1 : Int32))))
  else (if (0 : Int32) = 0 then (kb σ v1 (0 : Int32) (v3 + (1 : Int32)))
  else ((some ((v1 ||| ((1 : Int32) <<< (x2 &&& 31))))).bind fun x7 => (fX5_step_p σ).bind fun s8 => kb s8 x7 (0 : Int32) (v3 + (1 : Int32))))))))
def fX3_takeScene_P6 (k1 : St → Int32 → Option (Int32 × St)) (σ : St) (v1 : Int32) (v2 : Int32) (v3 : Int32) : Option (Int32 × St) := it (fun (kb : (St × Int32 × Int32 × Int32) → Option (Int32 × St)) (t : St × Int32 × Int32 × Int32) => fX3_takeScene_L6 k1 (fun σ v1 v2 v3 => kb (σ, v1, v2, v3)) t.1 t.2.1 t.2.2.1 t.2.2.2) FU (σ, v1, v2, v3)
def fX3_takeScene (σ : St) : Option (Int32 × St) :=
  fX3_takeScene_P6 (fun s11 x12 => if x12 = 0 then ((fX5_spoil_p s11).bind fun s13 => some (x12, s13))
  else (some (x12, s11))) σ (0 : Int32) (1 : Int32) (0 : Int32)
def fX5_takes_p (σ : St) (p0 : Int32) : Option (Bool × St) :=
  (fX5_sign_p σ).bind fun x1 => if x1 = p0 then ((some (uI σ 6 ((zI σ 6) + (1 : Int32)))).bind fun s2 => some (true, s2))
  else (some (false, σ))
def fX3_takeAll_L9 (kb : St → Int32 → Int32 → Option St) (σ : St) (v1 : Int32) (v2 : Int32) : Option St :=
  if (20 : Int32) ≤ v2 then (some σ)
  else (if v1 = 0 then (some σ)
  else ((fX3_takeScene σ).bind fun r2 => wr 20 v2 ((some (uA r2.2 20 (upd (zA r2.2 20) (Int32.toNatClampNeg v2) r2.1))).bind fun s3 => (some (uI s3 8 ((zI s3 8) + (1 : Int32)))).bind fun s4 => if (20 : Int32) ≤ (v2 + (1 : Int32)) then (kb s4 (0 : Int32) (v2 + (1 : Int32)))
  else ((fX5_takes_p s4 (47 : Int32)).bind fun r5 => if (bi r5.1) = 0 then (kb r5.2 (0 : Int32) (v2 + (1 : Int32)))
  else (kb r5.2 (1 : Int32) (v2 + (1 : Int32)))))))
def fX3_takeAll_P9 (σ : St) (v1 : Int32) (v2 : Int32) : Option St := it (fun (kb : (St × Int32 × Int32) → Option St) (t : St × Int32 × Int32) => fX3_takeAll_L9 (fun σ v1 v2 => kb (σ, v1, v2)) t.1 t.2.1 t.2.2) FU (σ, v1, v2)
def fX3_takeAll (σ : St) : Option St :=
  (some (uI σ 8 (0 : Int32))).bind fun s1 => fX3_takeAll_P9 s1 (1 : Int32) (0 : Int32)
def fX5_faultOf_p (σ : St) : Option (Int32 × St) :=
  (fX5_cutUp_p σ).bind fun s1 => (fX5_begin_p_18 s1).bind fun s2 => (fX3_takeAll s2).bind fun s3 => (fX5_sign_p s3).bind fun x4 => if x4 = (256 : Int32) then (some ((zI s3 7), s3))
  else ((fX5_spoil_p s3).bind fun s5 => some ((zI s5 7), s5))
def fX6_joins (p0 : Int32) : Option Bool :=
  if p0 < (97 : Int32) then (some false)
  else (if (122 : Int32) < p0 then (some false)
  else (some true))
def fX6_grown (p0 : Int64) (p1 : Int32) : Option Int64 :=
  (fX10_with p0 p1).bind fun x1 => some x1
def fX6_mostJoined : Option Int32 :=
  some (8 : Int32)
def fX5_cutUp_r_J114 (kb : St → Int32 → Int32 → Int32 → Option St) (σ : St) (v2 : Int32) (v3 : Int32) (v4 : Int32) (v5 : Int32) (v6 : Int32) (t0 : Int32) : Option St :=
  if t0 = 0 then (if v6 = 0 then (wr 201 v2 ((some (uB σ 12 (vp_updL (zB σ 12) (Int32.toNatClampNeg v2) (Int32.toInt64 v5)))).bind fun s5 => wr 201 v2 ((some (uA s5 13 (upd (zA s5 13) (Int32.toNatClampNeg v2) v4))).bind fun s6 => if v6 = 0 then (kb s6 (v2 + (1 : Int32)) (0 : Int32) (v4 + (1 : Int32)))
  else ((some ((v3 + (1 : Int32)))).bind fun x7 => kb s6 (v2 + (1 : Int32)) x7 (v4 + (1 : Int32))))))
  else ((fX6_grown (0 : Int64) v5).bind fun x8 => wr 201 v2 ((some (uB σ 12 (vp_updL (zB σ 12) (Int32.toNatClampNeg v2) ((1000 : Int64) + x8)))).bind fun s9 => wr 201 v2 ((some (uA s9 13 (upd (zA s9 13) (Int32.toNatClampNeg v2) v4))).bind fun s10 => if v6 = 0 then (kb s10 (v2 + (1 : Int32)) (0 : Int32) (v4 + (1 : Int32)))
  else ((some ((v3 + (1 : Int32)))).bind fun x11 => kb s10 (v2 + (1 : Int32)) x11 (v4 + (1 : Int32)))))))
  else (wr 201 v2 ((some (uB σ 12 (vp_updL (zB σ 12) (Int32.toNatClampNeg v2) (257 : Int64)))).bind fun s12 => wr 201 v2 ((some (uA s12 13 (upd (zA s12 13) (Int32.toNatClampNeg v2) v4))).bind fun s13 => if v6 = 0 then (kb s13 (v2 + (1 : Int32)) (0 : Int32) (v4 + (1 : Int32)))
  else ((some ((v3 + (1 : Int32)))).bind fun x14 => kb s13 (v2 + (1 : Int32)) x14 (v4 + (1 : Int32))))))
def fX5_cutUp_r_J93 (kb : St → Int32 → Int32 → Int32 → Option St) (σ : St) (v2 : Int32) (v3 : Int32) (v4 : Int32) (v5 : Int32) (v6 : Int32) : Option St :=
  if v5 = (32 : Int32) then (if v6 = 0 then (kb σ v2 (0 : Int32) (v4 + (1 : Int32)))
  else ((some ((v3 + (1 : Int32)))).bind fun x4 => kb σ v2 x4 (v4 + (1 : Int32))))
  else (if v6 = 0 then (fX5_cutUp_r_J114 kb σ v2 v3 v4 v5 v6 (0 : Int32))
  else (if v3 ≤ 0 then (fX5_cutUp_r_J114 kb σ v2 v3 v4 v5 v6 (0 : Int32))
  else (fX5_cutUp_r_J114 kb σ v2 v3 v4 v5 v6 (1 : Int32))))
def fX5_cutUp_r_L7 (k1 : St → Int32 → Option St) (kb : St → Int32 → Int32 → Int32 → Option St) (σ : St) (v2 : Int32) (v3 : Int32) (v4 : Int32) : Option St :=
  (fX9_size σ).bind fun x1 => if x1 ≤ v4 then (k1 σ v2)
  else (if (200 : Int32) ≤ v2 then (k1 σ v2)
  else ((fX9_at σ v4).bind fun x2 => (fX6_joins x2).bind fun x3 => if (bi x3) = 0 then (fX5_cutUp_r_J93 kb σ v2 v3 v4 x2 (bi x3))
  else (if v3 ≤ 0 then (fX5_cutUp_r_J93 kb σ v2 v3 v4 x2 (bi x3))
  else ((fX6_mostJoined).bind fun x15 => if x15 ≤ v3 then (fX5_cutUp_r_J93 kb σ v2 v3 v4 x2 (bi x3))
  else (if v2 ≤ 0 then (fX5_cutUp_r_J93 kb σ v2 v3 v4 x2 (bi x3))
  else ((rd (zB σ 12) 201 (v2 - (1 : Int32))).bind fun x16 => (fX6_grown (x16 - (1000 : Int64)) x2).bind fun x17 => wr 201 (v2 - (1 : Int32)) ((some (uB σ 12 (vp_updL (zB σ 12) (Int32.toNatClampNeg (v2 - (1 : Int32))) ((1000 : Int64) + x17)))).bind fun s18 => if (bi x3) = 0 then (kb s18 v2 (0 : Int32) (v4 + (1 : Int32)))
  else ((some ((v3 + (1 : Int32)))).bind fun x19 => kb s18 v2 x19 (v4 + (1 : Int32))))))))))
def fX5_cutUp_r_P7 (k1 : St → Int32 → Option St) (σ : St) (v2 : Int32) (v3 : Int32) (v4 : Int32) : Option St := it (fun (kb : (St × Int32 × Int32 × Int32) → Option St) (t : St × Int32 × Int32 × Int32) => fX5_cutUp_r_L7 k1 (fun σ v2 v3 v4 => kb (σ, v2, v3, v4)) t.1 t.2.1 t.2.2.1 t.2.2.2) FU (σ, v2, v3, v4)
def fX5_cutUp_r (σ : St) : Option St :=
  fX5_cutUp_r_P7 (fun s20 x21 => wr 201 x21 ((some (uB s20 12 (vp_updL (zB s20 12) (Int32.toNatClampNeg x21) (256 : Int64)))).bind fun s22 => (fX9_size s22).bind fun x23 => wr 201 x21 ((some (uA s22 13 (upd (zA s22 13) (Int32.toNatClampNeg x21) x23))).bind fun s24 => some s24))) σ (0 : Int32) (0 : Int32) (0 : Int32)
def fX5_begin_r_12 (σ : St) : Option St :=
  (some (uR σ 0 12)).bind fun s1 => (some (uI s1 3 (0 : Int32))).bind fun s2 => (some (uI s2 4 (-1 : Int32))).bind fun s3 => some s3
def fX5_sign_r (σ : St) : Option Int32 :=
  if (zI σ 4) = (-1 : Int32) then (if (zI σ 3) < 0 then (some (257 : Int32))
  else (isl (lenB σ (zR σ 0)) (if (zI σ 3) < (Int32.ofNat (lenB σ (zR σ 0))) then ((rd (zB σ (zR σ 0)) (lenB σ (zR σ 0)) (zI σ 3)).bind fun x1 => if (lg_cmp x1 (1000 : Int64)) < 0 then ((rd (zB σ (zR σ 0)) (lenB σ (zR σ 0)) (zI σ 3)).bind fun x2 => some (Int64.toInt32 x2))
  else (some (1000 : Int32)))
  else (some (257 : Int32)))))
  else (some (257 : Int32))
def fX5_takes_r (σ : St) (p0 : Int32) : Option (Bool × St) :=
  (fX5_sign_r σ).bind fun x1 => if x1 = p0 then ((some (uI σ 3 ((zI σ 3) + (1 : Int32)))).bind fun s2 => some (true, s2))
  else (some (false, σ))
def fX5_value_r (σ : St) : Option Int64 :=
  if (zI σ 3) < 0 then (some (0 : Int64))
  else (isl (lenB σ (zR σ 0)) (if (Int32.ofNat (lenB σ (zR σ 0))) ≤ (zI σ 3) then (some (0 : Int64))
  else ((rd (zB σ (zR σ 0)) (lenB σ (zR σ 0)) (zI σ 3)).bind fun x1 => some (x1 - (1000 : Int64)))))
def fX5_step_r (σ : St) : Option St :=
  (some (uI σ 3 ((zI σ 3) + (1 : Int32)))).bind fun s1 => some s1
def fX5_spoil_r (σ : St) : Option St :=
  if (zI σ 4) = (-1 : Int32) then (if (zI σ 3) < 0 then (some σ)
  else (if (201 : Int32) ≤ (zI σ 3) then (some σ)
  else ((rd (zA σ 13) 201 (zI σ 3)).bind fun x1 => (some (uI σ 4 x1)).bind fun s2 => some s2)))
  else (some σ)
def fX6_takeWords_15_L6 (v2 : Int32) (v3 : Int32) (k1 : St → Int32 → Option (Int32 × St)) (kb : St → Int32 → Int32 → Option (Int32 × St)) (σ : St) (v4 : Int32) (v5 : Int32) : Option (Int32 × St) :=
  if v3 ≤ v5 then (k1 σ v4)
  else (if (24 : Int32) ≤ (v2 + v5) then (k1 σ v4)
  else ((fX5_sign_r σ).bind fun x1 => if x1 = (1000 : Int32) then ((fX5_value_r σ).bind fun x2 => wr 24 (v2 + v5) ((some (uB σ 15 (vp_updL (zB σ 15) (Int32.toNatClampNeg (v2 + v5)) x2))).bind fun s3 => (fX5_step_r s3).bind fun s4 => kb s4 (v4 + (1 : Int32)) (v5 + (1 : Int32))))
  else (k1 σ v4)))
def fX6_takeWords_15_P6 (v2 : Int32) (v3 : Int32) (k1 : St → Int32 → Option (Int32 × St)) (σ : St) (v4 : Int32) (v5 : Int32) : Option (Int32 × St) := it (fun (kb : (St × Int32 × Int32) → Option (Int32 × St)) (t : St × Int32 × Int32) => fX6_takeWords_15_L6 v2 v3 k1 (fun σ v4 v5 => kb (σ, v4, v5)) t.1 t.2.1 t.2.2) FU (σ, v4, v5)
def fX6_takeWords_15 (σ : St) (p1 : Int32) (p2 : Int32) : Option (Int32 × St) :=
  fX6_takeWords_15_P6 p1 p2 (fun s5 x6 => if x6 = 0 then ((fX5_spoil_r s5).bind fun s7 => some (x6, s7))
  else (some (x6, s5))) σ (0 : Int32) (0 : Int32)
def fX5_needs_r (σ : St) (p0 : Int32) : Option St :=
  (fX5_sign_r σ).bind fun x1 => if x1 = p0 then ((some (uI σ 3 ((zI σ 3) + (1 : Int32)))).bind fun s3 => some s3)
  else ((fX5_spoil_r σ).bind fun s2 => some s2)
def fX6_takeWords_17_L6 (v2 : Int32) (v3 : Int32) (k1 : St → Int32 → Option (Int32 × St)) (kb : St → Int32 → Int32 → Option (Int32 × St)) (σ : St) (v4 : Int32) (v5 : Int32) : Option (Int32 × St) :=
  if v3 ≤ v5 then (k1 σ v4)
  else (if (144 : Int32) ≤ (v2 + v5) then (k1 σ v4)
  else ((fX5_sign_r σ).bind fun x1 => if x1 = (1000 : Int32) then ((fX5_value_r σ).bind fun x2 => wr 144 (v2 + v5) ((some (uB σ 17 (vp_updL (zB σ 17) (Int32.toNatClampNeg (v2 + v5)) x2))).bind fun s3 => (fX5_step_r s3).bind fun s4 => kb s4 (v4 + (1 : Int32)) (v5 + (1 : Int32))))
  else (k1 σ v4)))
def fX6_takeWords_17_P6 (v2 : Int32) (v3 : Int32) (k1 : St → Int32 → Option (Int32 × St)) (σ : St) (v4 : Int32) (v5 : Int32) : Option (Int32 × St) := it (fun (kb : (St × Int32 × Int32) → Option (Int32 × St)) (t : St × Int32 × Int32) => fX6_takeWords_17_L6 v2 v3 k1 (fun σ v4 v5 => kb (σ, v4, v5)) t.1 t.2.1 t.2.2) FU (σ, v4, v5)
def fX6_takeWords_17 (σ : St) (p1 : Int32) (p2 : Int32) : Option (Int32 × St) :=
  fX6_takeWords_17_P6 p1 p2 (fun s5 x6 => if x6 = 0 then ((fX5_spoil_r s5).bind fun s7 => some (x6, s7))
  else (some (x6, s5))) σ (0 : Int32) (0 : Int32)
def fX6_takeAll_J49 (kb : St → Int32 → Int32 → Option St) (σ : St) (v2 : Int32) (t0 : Int32) (t1 : Int32) : Option St :=
  wr 12 t1 ((some (uA σ 14 (upd (zA σ 14) (Int32.toNatClampNeg t1) t0))).bind fun s4 => (fX5_needs_r s4 (62 : Int32)).bind fun s5 => (fX6_takeWords_17 s5 ((12 : Int32) * v2) (12 : Int32)).bind fun r6 => wr 12 v2 ((some (uA r6.2 16 (upd (zA r6.2 16) (Int32.toNatClampNeg v2) r6.1))).bind fun s7 => (some (uI s7 5 ((zI s7 5) + (1 : Int32)))).bind fun s8 => if (12 : Int32) ≤ (v2 + (1 : Int32)) then (kb s8 (0 : Int32) (v2 + (1 : Int32)))
  else ((fX5_takes_r s8 (59 : Int32)).bind fun r9 => if (bi r9.1) = 0 then (kb r9.2 (0 : Int32) (v2 + (1 : Int32)))
  else (kb r9.2 (1 : Int32) (v2 + (1 : Int32))))))
def fX6_takeAll_L9 (kb : St → Int32 → Int32 → Option St) (σ : St) (v1 : Int32) (v2 : Int32) : Option St :=
  if (12 : Int32) ≤ v2 then (some σ)
  else (if v1 = 0 then (some σ)
  else ((fX5_takes_r σ (45 : Int32)).bind fun r2 => if (bi r2.1) = 0 then ((fX6_takeWords_15 r2.2 ((2 : Int32) * v2) (2 : Int32)).bind fun r3 => fX6_takeAll_J49 kb r3.2 v2 r3.1 v2)
  else (fX6_takeAll_J49 kb r2.2 v2 (0 : Int32) v2)))
def fX6_takeAll_P9 (σ : St) (v1 : Int32) (v2 : Int32) : Option St := it (fun (kb : (St × Int32 × Int32) → Option St) (t : St × Int32 × Int32) => fX6_takeAll_L9 (fun σ v1 v2 => kb (σ, v1, v2)) t.1 t.2.1 t.2.2) FU (σ, v1, v2)
def fX6_takeAll (σ : St) : Option St :=
  (some (uI σ 5 (0 : Int32))).bind fun s1 => fX6_takeAll_P9 s1 (1 : Int32) (0 : Int32)
def fX5_faultOf_r (σ : St) : Option (Int32 × St) :=
  (fX5_cutUp_r σ).bind fun s1 => (fX5_begin_r_12 s1).bind fun s2 => (fX6_takeAll s2).bind fun s3 => (fX5_sign_r s3).bind fun x4 => if x4 = (256 : Int32) then (some ((zI s3 4), s3))
  else ((fX5_spoil_r s3).bind fun s5 => some ((zI s5 4), s5))
def fX11_fault (σ : St) (p0 : Int32) : Option (Int32 × St) :=
  if p0 = 0 then ((fX5_faultOf_r σ).bind fun r3 => some (r3.1, r3.2))
  else (if p0 = 1 then ((fX5_faultOf_p σ).bind fun r2 => some (r2.1, r2.2))
  else (if p0 = 2 then ((fX5_faultOf_h σ).bind fun r1 => some (r1.1, r1.2))
  else (some ((-2 : Int32), σ))))
def fX9_told_L5 (v0 : Int32) (kb : Int32 → Int32 → Option Int32) (v1 : Int32) (v2 : Int32) : Option Int32 :=
  if v2 < 0 then (some v1)
  else (if ((ushr32 v0 v2) &&& (255 : Int32)) = 0 then (kb v1 (v2 + (-8 : Int32)))
  else (kb (v1 + (1 : Int32)) (v2 + (-8 : Int32))))
def fX9_told_P5 (v0 : Int32) (v1 : Int32) (v2 : Int32) : Option Int32 := it (fun (kb : (Int32 × Int32) → Option Int32) (t : Int32 × Int32) => fX9_told_L5 v0 (fun v1 v2 => kb (v1, v2)) t.1 t.2) FU (v1, v2)
def fX9_told (p0 : Int32) : Option Int32 :=
  fX9_told_P5 p0 (0 : Int32) (24 : Int32)
def fX9_put_L3 (v1 : Int32) (kb : St → Int32 → Option St) (σ : St) (v2 : Int32) : Option St :=
  if v2 < 0 then (some σ)
  else ((some (((ushr32 v1 v2) &&& (255 : Int32)))).bind fun x1 => if x1 = 0 then (kb σ (v2 + (-8 : Int32)))
  else (if (zI σ 2) < 0 then (kb σ (v2 + (-8 : Int32)))
  else (if (200 : Int32) ≤ (zI σ 2) then (kb σ (v2 + (-8 : Int32)))
  else (wr 200 (zI σ 2) ((some (uA σ 11 (upd (zA σ 11) (Int32.toNatClampNeg (zI σ 2)) (vp_nar .byte ((Int32.toInt8 x1).toInt32))))).bind fun s2 => (some (uI s2 2 ((zI s2 2) + (1 : Int32)))).bind fun s3 => kb s3 (v2 + (-8 : Int32)))))))
def fX9_put_P3 (v1 : Int32) (σ : St) (v2 : Int32) : Option St := it (fun (kb : (St × Int32) → Option St) (t : St × Int32) => fX9_put_L3 v1 (fun σ v2 => kb (σ, v2)) t.1 t.2) FU (σ, v2)
def fX9_put (σ : St) (p0 : Int32) : Option St :=
  fX9_put_P3 p0 σ (24 : Int32)
def fX11_feed (σ : St) (p0 : Int32) (p1 : Int32) (p2 : Int32) (p3 : Int32) (p4 : Int32) : Option (Int32 × St) :=
  (fX9_told p0).bind fun x1 => (fX9_told p1).bind fun x2 => (fX9_told p2).bind fun x3 => (fX9_told p3).bind fun x4 => (fX9_told p4).bind fun x5 => (some (((((x1 + x2) + x3) + x4) + x5))).bind fun x6 => (fX9_size σ).bind fun x7 => if (x7 + x6) ≤ (200 : Int32) then ((fX9_put σ p0).bind fun s8 => (fX9_put s8 p1).bind fun s9 => (fX9_put s9 p2).bind fun s10 => (fX9_put s10 p3).bind fun s11 => (fX9_put s11 p4).bind fun s12 => (fX9_size s12).bind fun x13 => some (x13, s12))
  else (some ((-1 : Int32), σ))
def fX7_haveAll (σ : St) (p0 : Int32) : Option Bool :=
  if p0 ≤ 0 then (some false)
  else (if ((1 : Int32) <<< ((zI σ 18) &&& 31)) ≤ p0 then (some false)
  else (some true))
def fX2_layOut_L14 (v1 : Int32) (k1 : St → Int32 → Option (Bool × St)) (kb : St → Int32 → Int32 → Option (Bool × St)) (σ : St) (v2 : Int32) (v3 : Int32) : Option (Bool × St) :=
  if (8 : Int32) ≤ v3 then (k1 σ v2)
  else ((fX7_isIn v3 v1).bind fun x3 => if (bi x3) = 0 then (kb σ v2 (v3 + (1 : Int32)))
  else (if (8 : Int32) ≤ (zI σ 21) then (kb σ v2 (v3 + (1 : Int32)))
  else (wr 8 (zI σ 21) ((some (uA σ 35 (upd (zA σ 35) (Int32.toNatClampNeg (zI σ 21)) v3))).bind fun s4 => (fX7_sizeOf s4 v3).bind fun x5 => wr 8 (zI s4 21) ((some (uA s4 36 (upd (zA s4 36) (Int32.toNatClampNeg (zI s4 21)) x5))).bind fun s6 => wr 8 (zI s6 21) ((some (uA s6 37 (upd (zA s6 37) (Int32.toNatClampNeg (zI s6 21)) (zI s6 22)))).bind fun s7 => wr 8 (zI s7 21) ((some (uA s7 38 (upd (zA s7 38) (Int32.toNatClampNeg (zI s7 21)) v2))).bind fun s8 => (rd (zA s8 36) 8 (zI s8 21)).bind fun x9 => (some ((v2 + x9))).bind fun x10 => (rd (zA s8 36) 8 (zI s8 21)).bind fun x11 => (some (uI s8 22 ((zI s8 22) * (x11 + (1 : Int32))))).bind fun s12 => (some (uI s12 21 ((zI s12 21) + (1 : Int32)))).bind fun s13 => kb s13 x10 (v3 + (1 : Int32)))))))))
def fX2_layOut_P14 (v1 : Int32) (k1 : St → Int32 → Option (Bool × St)) (σ : St) (v2 : Int32) (v3 : Int32) : Option (Bool × St) := it (fun (kb : (St × Int32 × Int32) → Option (Bool × St)) (t : St × Int32 × Int32) => fX2_layOut_L14 v1 k1 (fun σ v2 v3 => kb (σ, v2, v3)) t.1 t.2.1 t.2.2) FU (σ, v2, v3)
def fX2_layOut (σ : St) (p0 : Int32) : Option (Bool × St) :=
  (some (uI σ 21 (0 : Int32))).bind fun s1 => (some (uI s1 22 (1 : Int32))).bind fun s2 => fX2_layOut_P14 p0 (fun s14 x15 => if (20 : Int32) < x15 then (some (false, s14))
  else (if (20000 : Int32) < (zI s14 22) then (some (false, s14))
  else (some (true, s14)))) s2 (0 : Int32) (0 : Int32)
def fX2_endedBy_L15 (v1 : Int32) (v3 : Int32) (k1 : Int32 → Option Int32) (kb : Int32 → Int32 → Option Int32) (σ : St) (v2 : Int32) (v4 : Int32) : Option Int32 :=
  (rd (zA σ 36) 8 v3).bind fun x1 => if x1 ≤ v4 then (k1 v2)
  else ((rd (zA σ 35) 8 v3).bind fun x2 => (some ((((16 : Int32) * x2) + v4))).bind fun x3 => (fX7_rollOf v1).bind fun x4 => (rd (zA σ 35) 8 v3).bind fun x5 => if x4 = x5 then (kb v2 (v4 + (1 : Int32)))
  else ((fX0_closes σ v1 x3).bind fun x6 => if (bi x6) = 0 then (kb v2 (v4 + (1 : Int32)))
  else ((rd (zA σ 38) 8 v3).bind fun x7 => (some ((v2 ||| ((1 : Int32) <<< ((x7 + v4) &&& 31))))).bind fun x8 => kb x8 (v4 + (1 : Int32)))))
def fX2_endedBy_P15 (v1 : Int32) (v3 : Int32) (k1 : Int32 → Option Int32) (σ : St) (v2 : Int32) (v4 : Int32) : Option Int32 := it (fun (kb : (Int32 × Int32) → Option Int32) (t : Int32 × Int32) => fX2_endedBy_L15 v1 v3 k1 (fun v2 v4 => kb (v2, v4)) σ t.1 t.2) FU (v2, v4)
def fX2_endedBy_L4 (v1 : Int32) (kb : Int32 → Int32 → Option Int32) (σ : St) (v2 : Int32) (v3 : Int32) : Option Int32 :=
  if (zI σ 21) ≤ v3 then (some v2)
  else (fX2_endedBy_P15 v1 v3 (fun x9 => kb x9 (v3 + (1 : Int32))) σ v2 (0 : Int32))
def fX2_endedBy_P4 (v1 : Int32) (σ : St) (v2 : Int32) (v3 : Int32) : Option Int32 := it (fun (kb : (Int32 × Int32) → Option Int32) (t : Int32 × Int32) => fX2_endedBy_L4 v1 (fun v2 v3 => kb (v2, v3)) σ t.1 t.2) FU (v2, v3)
def fX2_endedBy (σ : St) (p0 : Int32) : Option Int32 :=
  fX2_endedBy_P4 p0 σ (0 : Int32) (0 : Int32)
def fX2_seeWhatFollows_L12 (v1 : Int32) (k1 : St → Option St) (kb : St → Int32 → Option St) (σ : St) (v2 : Int32) : Option St :=
  (rd (zA σ 36) 8 v1).bind fun x1 => if x1 ≤ v2 then (k1 σ)
  else ((rd (zA σ 38) 8 v1).bind fun x2 => (some ((x2 + v2))).bind fun x3 => (rd (zA σ 35) 8 v1).bind fun x4 => (some ((((16 : Int32) * x4) + v2))).bind fun x5 => if (20 : Int32) ≤ x3 then (kb σ (v2 + (1 : Int32)))
  else ((fX7_hasCue σ x5).bind fun x6 => if (bi x6) = 0 then (wr 20 x3 ((some (uA σ 39 (upd (zA σ 39) (Int32.toNatClampNeg x3) (1048576 : Int32)))).bind fun s7 => kb s7 (v2 + (1 : Int32))))
  else ((fX2_endedBy σ x5).bind fun x8 => wr 20 x3 ((some (uA σ 39 (upd (zA σ 39) (Int32.toNatClampNeg x3) x8))).bind fun s9 => kb s9 (v2 + (1 : Int32))))))
def fX2_seeWhatFollows_P12 (v1 : Int32) (k1 : St → Option St) (σ : St) (v2 : Int32) : Option St := it (fun (kb : (St × Int32) → Option St) (t : St × Int32) => fX2_seeWhatFollows_L12 v1 k1 (fun σ v2 => kb (σ, v2)) t.1 t.2) FU (σ, v2)
def fX2_seeWhatFollows_L2 (kb : St → Int32 → Option St) (σ : St) (v1 : Int32) : Option St :=
  if (zI σ 21) ≤ v1 then (some σ)
  else (fX2_seeWhatFollows_P12 v1 (fun s10 => kb s10 (v1 + (1 : Int32))) σ (0 : Int32))
def fX2_seeWhatFollows_P2 (σ : St) (v1 : Int32) : Option St := it (fun (kb : (St × Int32) → Option St) (t : St × Int32) => fX2_seeWhatFollows_L2 (fun σ v1 => kb (σ, v1)) t.1 t.2) FU (σ, v1)
def fX2_seeWhatFollows (σ : St) : Option St :=
  fX2_seeWhatFollows_P2 σ (0 : Int32)
def fX2_startSlot (σ : St) : Option Int32 :=
  some ((zI σ 22) * (zI σ 21))
def fX2_makeRoom (σ : St) : Option St :=
  (fX2_startSlot σ).bind fun x1 => (some ((x1 + (1 : Int32)))).bind fun x2 => if x2 ≤ (Int32.ofNat (zN σ 45)) then (some σ)
  else (if (160001 : Int32) < x2 then (some σ)
  else ((fJ9_min_7cf53 ((2 : Int32) * (Int32.ofNat (zN σ 45))) (160001 : Int32)).bind fun x3 => (fJ9_max_7cf53 x2 x3).bind fun x4 => nb σ 45 x4 ((some (uNew σ 45 x4)).bind fun s5 => some s5)))
def fX2_slotBehind (σ : St) (p0 : Int32) (p1 : Int32) : Option Int32 :=
  (rd (zA σ 37) 8 p1).bind fun x1 => some (((p0 + x1) * (zI σ 21)) + p1)
def fX2_gapsAt (σ : St) (p0 : Int32) : Option Int32 :=
  if p0 < 0 then (some (0 : Int32))
  else (if (Int32.ofNat (zN σ 45)) ≤ p0 then (some (0 : Int32))
  else ((rd (zB σ 45) (zN σ 45) p0).bind fun x1 => some (Int64.toInt32 (x1 &&& (31 : Int64)))))
def fX2_waysAt (σ : St) (p0 : Int32) : Option Int64 :=
  if p0 < 0 then (some (0 : Int64))
  else (if (Int32.ofNat (zN σ 45)) ≤ p0 then (some (0 : Int64))
  else ((rd (zB σ 45) (zN σ 45) p0).bind fun x1 => some (ushr64 x1 (5 : Int32))))
def fX2_lookAhead_L2 (v1 : Int32) (kb : St → Int32 → Option St) (σ : St) (v2 : Int32) : Option St :=
  if (zI σ 21) ≤ v2 then (some σ)
  else ((rd (zA σ 38) 8 v2).bind fun x1 => (rd (zA σ 40) 8 v2).bind fun x2 => (some ((x1 + x2))).bind fun x3 => wr 8 v2 ((some (uA σ 41 (upd (zA σ 41) (Int32.toNatClampNeg v2) (1000 : Int32)))).bind fun s4 => (rd (zA s4 40) 8 v2).bind fun x5 => (rd (zA s4 36) 8 v2).bind fun x6 => if x6 ≤ x5 then (kb s4 (v2 + (1 : Int32)))
  else (if (20 : Int32) ≤ x3 then (kb s4 (v2 + (1 : Int32)))
  else ((fX2_slotBehind s4 v1 v2).bind fun x7 => (fX2_gapsAt s4 x7).bind fun x8 => wr 8 v2 ((some (uA s4 41 (upd (zA s4 41) (Int32.toNatClampNeg v2) ((1 : Int32) + x8)))).bind fun s9 => (fX2_waysAt s9 x7).bind fun x10 => wr 8 v2 ((some (uB s9 43 (vp_updL (zB s9 43) (Int32.toNatClampNeg v2) x10))).bind fun s11 => (rd (zA s11 39) 20 x3).bind fun x12 => wr 8 v2 ((some (uA s11 42 (upd (zA s11 42) (Int32.toNatClampNeg v2) x12))).bind fun s13 => kb s13 (v2 + (1 : Int32)))))))))
def fX2_lookAhead_P2 (v1 : Int32) (σ : St) (v2 : Int32) : Option St := it (fun (kb : (St × Int32) → Option St) (t : St × Int32) => fX2_lookAhead_L2 v1 (fun σ v2 => kb (σ, v2)) t.1 t.2) FU (σ, v2)
def fX2_lookAhead (σ : St) (p0 : Int32) : Option St :=
  fX2_lookAhead_P2 p0 σ (0 : Int32)
def fX2_gapsIfNext (σ : St) (p0 : Int32) (p1 : Int32) : Option Int32 :=
  (rd (zA σ 41) 8 p0).bind fun x1 => if (1000 : Int32) ≤ x1 then (some (1000 : Int32))
  else ((rd (zA σ 41) 8 p0).bind fun x2 => (rd (zA σ 42) 8 p0).bind fun x3 => some (x2 - ((x3 >>> (p1 &&& 31)) &&& (1 : Int32))))
def fX2_settle_L10 (v1 : Int32) (v2 : Int32) (k1 : Int32 → Int64 → Option St) (kb : Int32 → Int64 → Int32 → Option St) (σ : St) (v3 : Int32) (v4 : Int64) (v6 : Int32) : Option St :=
  if (zI σ 21) ≤ v6 then (k1 v3 v4)
  else ((fX2_gapsIfNext σ v6 v1).bind fun x1 => if v3 ≤ x1 then (if x1 = v3 then (if (1000 : Int32) ≤ x1 then (kb v3 v4 (v6 + (1 : Int32)))
  else ((rd (zB σ 43) 8 v6).bind fun x2 => (some ((v4 + x2))).bind fun x3 => kb v3 x3 (v6 + (1 : Int32))))
  else (kb v3 v4 (v6 + (1 : Int32))))
  else ((rd (zB σ 43) 8 v6).bind fun x4 => kb x1 x4 (v6 + (1 : Int32))))
def fX2_settle_P10 (v1 : Int32) (v2 : Int32) (k1 : Int32 → Int64 → Option St) (σ : St) (v3 : Int32) (v4 : Int64) (v6 : Int32) : Option St := it (fun (kb : (Int32 × Int64 × Int32) → Option St) (t : Int32 × Int64 × Int32) => fX2_settle_L10 v1 v2 k1 (fun v3 v4 v6 => kb (v3, v4, v6)) σ t.1 t.2.1 t.2.2) FU (v3, v4, v6)
def fX2_settle (σ : St) (p0 : Int32) (p1 : Int32) : Option St :=
  fX2_settle_P10 p0 p1 (fun x5 x6 => if p1 < 0 then (some σ)
  else (if (Int32.ofNat (zN σ 45)) ≤ p1 then (some σ)
  else (if x5 = (1000 : Int32) then (wr (zN σ 45) p1 ((some (uB σ 45 (vp_updL (zB σ 45) (Int32.toNatClampNeg p1) (32 : Int64)))).bind fun s8 => some s8))
  else (wr (zN σ 45) p1 ((some (uB σ 45 (vp_updL (zB σ 45) (Int32.toNatClampNeg p1) ((x6 <<< (Int32.toInt64 (5 : Int32) &&& 63)) ||| (Int32.toInt64 x5))))).bind fun s7 => some s7))))) σ (1000 : Int32) (0 : Int64) (0 : Int32)
def fX2_stepBack_L2 (k1 : St → Int32 → Option St) (kb : St → Int32 → Option St) (σ : St) (v1 : Int32) : Option St :=
  if (zI σ 21) ≤ v1 then (some σ)
  else ((rd (zA σ 40) 8 v1).bind fun x1 => if x1 ≤ 0 then ((rd (zA σ 36) 8 v1).bind fun x2 => wr 8 v1 ((some (uA σ 40 (upd (zA σ 40) (Int32.toNatClampNeg v1) x2))).bind fun s3 => kb s3 (v1 + (1 : Int32))))
  else (k1 σ v1))
def fX2_stepBack_P2 (k1 : St → Int32 → Option St) (σ : St) (v1 : Int32) : Option St := it (fun (kb : (St × Int32) → Option St) (t : St × Int32) => fX2_stepBack_L2 k1 (fun σ v1 => kb (σ, v1)) t.1 t.2) FU (σ, v1)
def fX2_stepBack (σ : St) : Option St :=
  fX2_stepBack_P2 (fun s4 x5 => (rd (zA s4 40) 8 x5).bind fun x6 => wr 8 x5 ((some (uA s4 40 (upd (zA s4 40) (Int32.toNatClampNeg x5) (x6 - (1 : Int32))))).bind fun s7 => some s7)) σ (0 : Int32)
def fX2_countBack_L2 (k1 : St → Option St) (kb : St → Int32 → Option St) (σ : St) (v1 : Int32) : Option St :=
  if (zI σ 21) ≤ v1 then (k1 σ)
  else ((rd (zA σ 36) 8 v1).bind fun x1 => wr 8 v1 ((some (uA σ 40 (upd (zA σ 40) (Int32.toNatClampNeg v1) x1))).bind fun s2 => kb s2 (v1 + (1 : Int32))))
def fX2_countBack_P2 (k1 : St → Option St) (σ : St) (v1 : Int32) : Option St := it (fun (kb : (St × Int32) → Option St) (t : St × Int32) => fX2_countBack_L2 k1 (fun σ v1 => kb (σ, v1)) t.1 t.2) FU (σ, v1)
def fX2_countBack_L46 (v1 : Int32) (k1 : St → Option St) (kb : St → Int32 → Option St) (σ : St) (v2 : Int32) : Option St :=
  if (zI σ 21) ≤ v2 then (k1 σ)
  else ((rd (zA σ 40) 8 v2).bind fun x6 => if x6 ≤ 0 then (kb σ (v2 + (1 : Int32)))
  else ((rd (zA σ 38) 8 v2).bind fun x7 => (rd (zA σ 40) 8 v2).bind fun x8 => (fX2_settle σ ((x7 + x8) - (1 : Int32)) ((v1 * (zI σ 21)) + v2)).bind fun s9 => kb s9 (v2 + (1 : Int32))))
def fX2_countBack_P46 (v1 : Int32) (k1 : St → Option St) (σ : St) (v2 : Int32) : Option St := it (fun (kb : (St × Int32) → Option St) (t : St × Int32) => fX2_countBack_L46 v1 k1 (fun σ v2 => kb (σ, v2)) t.1 t.2) FU (σ, v2)
def fX2_countBack_L35 (k1 : St → Option St) (kb : St → Int32 → Option St) (σ : St) (v1 : Int32) : Option St :=
  if v1 ≤ 0 then (k1 σ)
  else ((fX2_lookAhead σ v1).bind fun s5 => fX2_countBack_P46 v1 (fun s10 => (fX2_stepBack s10).bind fun s11 => kb s11 (v1 + (-1 : Int32))) s5 (0 : Int32))
def fX2_countBack_P35 (k1 : St → Option St) (σ : St) (v1 : Int32) : Option St := it (fun (kb : (St × Int32) → Option St) (t : St × Int32) => fX2_countBack_L35 k1 (fun σ v1 => kb (σ, v1)) t.1 t.2) FU (σ, v1)
def fX2_countBack (σ : St) : Option St :=
  fX2_countBack_P2 (fun s3 => (some (((zI s3 22) - (1 : Int32)))).bind fun x4 => fX2_countBack_P35 (fun s12 => (fX2_lookAhead s12 (0 : Int32)).bind fun s13 => (fX2_startSlot s13).bind fun x14 => (fX2_settle s13 (20 : Int32) x14).bind fun s15 => some s15) s3 x4) σ (0 : Int32)
def fX7_changes (σ : St) : Option Int32 :=
  some (zI σ 19)
def fX2_areTold (σ : St) (p0 : Int32) : Option (Bool × St) :=
  (fX7_haveAll σ p0).bind fun x1 => if (bi x1) = 0 then (some (false, σ))
  else (if (zI σ 23) = p0 then ((fX7_changes σ).bind fun x11 => if (zI σ 24) = x11 then (some (true, σ))
  else ((some (uI σ 23 (0 : Int32))).bind fun s12 => (fX2_layOut s12 p0).bind fun r13 => if (bi r13.1) = 0 then (some (false, r13.2))
  else ((fX2_seeWhatFollows r13.2).bind fun s14 => (fX2_makeRoom s14).bind fun s15 => (fX2_countBack s15).bind fun s16 => (some (uI s16 23 p0)).bind fun s17 => (fX7_changes s17).bind fun x18 => (some (uI s17 24 x18)).bind fun s19 => (some (uI s19 25 (0 : Int32))).bind fun s20 => some (true, s20))))
  else ((some (uI σ 23 (0 : Int32))).bind fun s2 => (fX2_layOut s2 p0).bind fun r3 => if (bi r3.1) = 0 then (some (false, r3.2))
  else ((fX2_seeWhatFollows r3.2).bind fun s4 => (fX2_makeRoom s4).bind fun s5 => (fX2_countBack s5).bind fun s6 => (some (uI s6 23 p0)).bind fun s7 => (fX7_changes s7).bind fun x8 => (some (uI s7 24 x8)).bind fun s9 => (some (uI s9 25 (0 : Int32))).bind fun s10 => some (true, s10))))
def fX2_speeches (σ : St) : Option Int32 :=
  if (zI σ 21) ≤ 0 then (some (0 : Int32))
  else (if (8 : Int32) < (zI σ 21) then (some (0 : Int32))
  else ((rd (zA σ 38) 8 ((zI σ 21) - (1 : Int32))).bind fun x1 => (rd (zA σ 36) 8 ((zI σ 21) - (1 : Int32))).bind fun x2 => some (x1 + x2)))
def fX2_clearSaid_L2 (kb : St → Int32 → Option St) (σ : St) (v1 : Int32) : Option St :=
  if (8 : Int32) ≤ v1 then (some σ)
  else (wr 8 v1 ((some (uA σ 40 (upd (zA σ 40) (Int32.toNatClampNeg v1) (0 : Int32)))).bind fun s1 => kb s1 (v1 + (1 : Int32))))
def fX2_clearSaid_P2 (σ : St) (v1 : Int32) : Option St := it (fun (kb : (St × Int32) → Option St) (t : St × Int32) => fX2_clearSaid_L2 (fun σ v1 => kb (σ, v1)) t.1 t.2) FU (σ, v1)
def fX2_clearSaid (σ : St) : Option St :=
  fX2_clearSaid_P2 σ (0 : Int32)
def fX2_lowestBest_L8 (v2 : Int32) (v3 : Int32) (kb : Int32 → Option (Int32 × St)) (σ : St) (v4 : Int32) : Option (Int32 × St) :=
  if (zI σ 21) ≤ v4 then (some ((0 : Int32), σ))
  else ((fX2_gapsIfNext σ v4 v2).bind fun x2 => (fX2_gapsAt σ v3).bind fun x3 => if x2 = x3 then (some (v4, σ))
  else (kb (v4 + (1 : Int32))))
def fX2_lowestBest_P8 (v2 : Int32) (v3 : Int32) (σ : St) (v4 : Int32) : Option (Int32 × St) := it (fun (kb : Int32 → Option (Int32 × St)) (t : Int32) => fX2_lowestBest_L8 v2 v3 (fun v4 => kb v4) σ t) FU v4
def fX2_lowestBest (σ : St) (p0 : Int32) (p1 : Int32) (p2 : Int32) : Option (Int32 × St) :=
  (fX2_lookAhead σ p0).bind fun s1 => fX2_lowestBest_P8 p1 p2 s1 (0 : Int32)
def fX2_firstAt_L35 (v1 : Int32) (kb : St → Int32 → Int32 → Int32 → Int32 → Int32 → Option (Int32 × St)) (σ : St) (v2 : Int32) (v3 : Int32) (v4 : Int32) (v5 : Int32) (v6 : Int32) : Option (Int32 × St) :=
  if v1 < v6 then (some (v5, σ))
  else ((fX2_lowestBest σ v2 v3 v4).bind fun r4 => (rd (zA r4.2 35) 8 r4.1).bind fun x5 => (rd (zA r4.2 40) 8 r4.1).bind fun x6 => (some ((((16 : Int32) * x5) + x6))).bind fun x7 => (rd (zA r4.2 38) 8 r4.1).bind fun x8 => (rd (zA r4.2 40) 8 r4.1).bind fun x9 => (some ((x8 + x9))).bind fun x10 => (fX2_slotBehind r4.2 v2 r4.1).bind fun x11 => (rd (zA r4.2 37) 8 r4.1).bind fun x12 => (some ((v2 + x12))).bind fun x13 => (rd (zA r4.2 40) 8 r4.1).bind fun x14 => wr 8 r4.1 ((some (uA r4.2 40 (upd (zA r4.2 40) (Int32.toNatClampNeg r4.1) (x14 + (1 : Int32))))).bind fun s15 => kb s15 x13 x10 x11 x7 (v6 + (1 : Int32))))
def fX2_firstAt_P35 (v1 : Int32) (σ : St) (v2 : Int32) (v3 : Int32) (v4 : Int32) (v5 : Int32) (v6 : Int32) : Option (Int32 × St) := it (fun (kb : (St × Int32 × Int32 × Int32 × Int32 × Int32) → Option (Int32 × St)) (t : St × Int32 × Int32 × Int32 × Int32 × Int32) => fX2_firstAt_L35 v1 (fun σ v2 v3 v4 v5 v6 => kb (σ, v2, v3, v4, v5, v6)) t.1 t.2.1 t.2.2.1 t.2.2.2.1 t.2.2.2.2.1 t.2.2.2.2.2) FU (σ, v2, v3, v4, v5, v6)
def fX2_firstAt (σ : St) (p0 : Int32) : Option (Int32 × St) :=
  if p0 < 0 then (some ((-1 : Int32), σ))
  else ((fX2_speeches σ).bind fun x1 => if p0 < x1 then ((fX2_clearSaid σ).bind fun s2 => (fX2_startSlot s2).bind fun x3 => fX2_firstAt_P35 p0 s2 (0 : Int32) (20 : Int32) x3 (-1 : Int32) (0 : Int32))
  else (some ((-1 : Int32), σ)))
def fX11_first (σ : St) (p0 : Int32) (p1 : Int32) : Option (Int32 × St) :=
  (fX2_areTold σ p0).bind fun r1 => if (bi r1.1) = 0 then (some ((-1 : Int32), r1.2))
  else ((fX2_firstAt r1.2 p1).bind fun r2 => some (r2.1, r2.2))
def fX7_setHabit (σ : St) (p0 : Int32) (p1 : Int32) : Option St :=
  (fX7_hasRoll σ p0).bind fun x1 => if (bi x1) = 0 then (some σ)
  else (wr 8 p0 ((some (uA σ 24 (upd (zA σ 24) (Int32.toNatClampNeg p0) p1))).bind fun s2 => some s2))
def fX1_has (σ : St) (p0 : Int32) : Option Bool :=
  if p0 < 0 then (some false)
  else (if (zI σ 11) ≤ p0 then (some false)
  else (if (4 : Int32) ≤ p0 then (some false)
  else (some true)))
def fX11_habit (σ : St) (p0 : Int32) (p1 : Int32) : Option (Bool × St) :=
  (fX7_hasRoll σ p0).bind fun x1 => if (bi x1) = 0 then (some (false, σ))
  else (if p1 = (-1 : Int32) then ((fX7_setHabit σ p0 p1).bind fun s2 => some (true, s2))
  else ((fX1_has σ p1).bind fun x3 => if (bi x3) = 0 then (some (false, σ))
  else ((fX7_setHabit σ p0 p1).bind fun s4 => some (true, s4))))
def fX11_inside (σ : St) (p0 : Int32) (p1 : Int32) : Option Int32 :=
  (fX7_has σ p0).bind fun x1 => if (bi x1) = 0 then (some (-1 : Int32))
  else ((fX7_has σ p1).bind fun x2 => if (bi x2) = 0 then (some (-1 : Int32))
  else ((fX7_rollOf p0).bind fun x3 => (fX7_rollOf p1).bind fun x4 => if x3 = x4 then (some (-1 : Int32))
  else ((fX0_within σ p0 p1).bind fun x5 => some x5)))
def fX11_keep (σ : St) : Option (Int32 × St) :=
  (fX7_number σ).bind fun x1 => (some (uI σ 0 x1)).bind fun s2 => (fX8_played s2).bind fun x3 => (some (uI s2 1 x3)).bind fun s4 => some (((zI s4 0) + (zI s4 1)), s4)
def fX11_kind (σ : St) (p0 : Int32) (p1 : Int32) : Option (Int32 × St) :=
  (fX7_has σ p0).bind fun x1 => if (bi x1) = 0 then (some ((-1 : Int32), σ))
  else ((fX7_haveAll σ p1).bind fun x2 => if (bi x2) = 0 then (some ((-1 : Int32), σ))
  else ((fX7_isOf p0 p1).bind fun x3 => if (bi x3) = 0 then (some ((-1 : Int32), σ))
  else ((fX0_kindOf σ p0 p1).bind fun r4 => some (r4.1, r4.2))))
def fX11_kinds (σ : St) (p0 : Int32) (p1 : Int32) : Option (Int32 × St) :=
  (fX7_haveAll σ p0).bind fun x1 => if (bi x1) = 0 then (some ((-1 : Int32), σ))
  else (if p1 < 0 then (some ((-1 : Int32), σ))
  else (if p1 ≤ (5 : Int32) then ((fX0_howManyOfKind σ p0 p1).bind fun r2 => some (r2.1, r2.2))
  else (some ((-1 : Int32), σ))))
def fX2_fewestGaps (σ : St) : Option Int32 :=
  (fX2_startSlot σ).bind fun x1 => (fX2_gapsAt σ x1).bind fun x2 => some x2
def fX11_least (σ : St) (p0 : Int32) : Option (Int32 × St) :=
  (fX2_areTold σ p0).bind fun r1 => if (bi r1.1) = 0 then (some ((-1 : Int32), r1.2))
  else ((fX2_fewestGaps r1.2).bind fun x2 => some (x2, r1.2))
def fX11_length (σ : St) (p0 : Int32) : Option (Int32 × St) :=
  (fX7_haveAll σ p0).bind fun x1 => if (bi x1) = 0 then (some ((-1 : Int32), σ))
  else ((fX0_wordsAtLeast σ p0).bind fun r2 => some (r2.1, r2.2))
def fX7_habitOf (σ : St) (p0 : Int32) : Option Int32 :=
  (fX7_hasRoll σ p0).bind fun x1 => if (bi x1) = 0 then (some (-1 : Int32))
  else ((rd (zA σ 24) 8 p0).bind fun x2 => some x2)
def fX7_lastCueWord (σ : St) (p0 : Int32) : Option Int64 :=
  (fX7_cueWordsOf σ p0).bind fun x1 => (fX7_cueWord σ p0 (x1 - (1 : Int32))).bind fun x2 => some x2
def fX7_lastCueWordButOne (σ : St) (p0 : Int32) : Option Int64 :=
  (fX7_cueWordsOf σ p0).bind fun x1 => (fX7_cueWord σ p0 (x1 - (2 : Int32))).bind fun x2 => some x2
def fX5_begin_h (σ : St) (p0 : Nat) : Option St :=
  (some (uR σ 2 p0)).bind fun s1 => (some (uI s1 9 (0 : Int32))).bind fun s2 => (some (uI s2 10 (-1 : Int32))).bind fun s3 => some s3
def fX1_worthOf (σ : St) (p0 : Int32) (p1 : Int64) (p2 : Int64) : Option (Int32 × St) :=
  (fX1_has σ p0).bind fun x1 => if (bi x1) = 0 then (some ((0 : Int32), σ))
  else ((some (uJ σ 0 p1)).bind fun s2 => (fX10_letters p1).bind fun x3 => (some (uI s2 12 x3)).bind fun s4 => (fX10_vowels p1).bind fun x5 => (some (uI s4 13 x5)).bind fun s6 => (fX10_firstLetter p1).bind fun x7 => (some (uI s6 14 x7)).bind fun s8 => (fX10_letters p2).bind fun x9 => (some (uI s8 15 x9)).bind fun s10 => (rd (fun j => 83 + j) 4 p0).bind fun x11 => (fX5_begin_h s10 x11).bind fun s12 => (fX1_takeAll s12).bind fun s13 => (fJ9_min_7cf53 (100 : Int32) (zI s13 16)).bind fun x14 => (fJ9_max_7cf53 (0 : Int32) x14).bind fun x15 => some (x15, s13))
def fX11_likely (σ : St) (p0 : Int32) (p1 : Int32) : Option (Int32 × St) :=
  (fX7_hasCue σ p0).bind fun x1 => if (bi x1) = 0 then (some ((-1 : Int32), σ))
  else ((fX7_hasRoll σ p1).bind fun x2 => if (bi x2) = 0 then (some ((-1 : Int32), σ))
  else ((fX7_rollOf p0).bind fun x3 => if x3 = p1 then (some ((-1 : Int32), σ))
  else ((fX7_habitOf σ p1).bind fun x4 => if x4 = (-1 : Int32) then (some ((-1 : Int32), σ))
  else ((fX7_lastCueWord σ p0).bind fun x5 => (fX7_lastCueWordButOne σ p0).bind fun x6 => (fX1_worthOf σ x4 x5 x6).bind fun r7 => some (r7.1, r7.2)))))
def fX11_limit (σ : St) (p0 : Int32) : Option (Bool × St) :=
  (fX0_setLimit σ p0).bind fun r1 => some (r1.1, r1.2)
def fX11_many (σ : St) (p0 : Int32) : Option Int32 :=
  (fX7_hasRoll σ p0).bind fun x1 => if (bi x1) = 0 then (some (-1 : Int32))
  else ((fX7_sizeOf σ p0).bind fun x2 => some x2)
def fX11_nearest (σ : St) (p0 : Int32) (p1 : Int32) : Option (Int32 × St) :=
  (fX7_hasCue σ p0).bind fun x1 => if (bi x1) = 0 then (some ((-1 : Int32), σ))
  else ((fX7_haveAll σ p1).bind fun x2 => if (bi x2) = 0 then (some ((-1 : Int32), σ))
  else ((fX7_isOf p0 p1).bind fun x3 => if (bi x3) = 0 then (some ((-1 : Int32), σ))
  else ((fX0_leastFar σ p0 p1).bind fun r4 => some (r4.1, r4.2))))
def fX11_next (σ : St) (p0 : Int32) : Option Int32 :=
  (fX7_haveAll σ p0).bind fun x1 => if (bi x1) = 0 then (some (-1 : Int32))
  else ((fX0_settlesMost σ p0).bind fun x2 => some x2)
def fX11_one (σ : St) (p0 : Int32) : Option (Int32 × St) :=
  (fX7_hasRoll σ p0).bind fun x1 => if (bi x1) = 0 then (some ((-1 : Int32), σ))
  else ((fX0_joined σ p0).bind fun r2 => some (r2.1, r2.2))
def fX2_howManyBest (σ : St) : Option Int64 :=
  (fX2_startSlot σ).bind fun x1 => (fX2_waysAt σ x1).bind fun x2 => some x2
def fX11_orders (σ : St) (p0 : Int32) : Option (Int64 × St) :=
  (fX2_areTold σ p0).bind fun r1 => if (bi r1.1) = 0 then (some ((-1 : Int64), r1.2))
  else ((fX2_howManyBest r1.2).bind fun x2 => some (x2, r1.2))
def fX11_play (σ : St) (p0 : Int32) : Option Int32 :=
  if p0 = (-1 : Int32) then ((fX8_played σ).bind fun x2 => some x2)
  else ((fX8_playedAt σ p0).bind fun x1 => some x1)
def fX11_plot (σ : St) (p0 : Int32) (p1 : Int32) : Option Int32 :=
  (fX4_has σ p0).bind fun x1 => if (bi x1) = 0 then (some (-1 : Int32))
  else (if p1 = (-1 : Int32) then ((fX4_partsOf σ p0).bind fun x3 => some x3)
  else ((fX4_partsIn σ p0 p1).bind fun x2 => some x2))
def fX8_lowest_L2 (v0 : Int32) (kb : Int32 → Option Int32) (v1 : Int32) : Option Int32 :=
  if (8 : Int32) ≤ v1 then (some (0 : Int32))
  else ((fX7_isIn v1 v0).bind fun x1 => if (bi x1) = 0 then (kb (v1 + (1 : Int32)))
  else (some v1))
def fX8_lowest_P2 (v0 : Int32) (v1 : Int32) : Option Int32 := it (fun (kb : Int32 → Option Int32) (t : Int32) => fX8_lowest_L2 v0 (fun v1 => kb v1) t) FU v1
def fX8_lowest (p0 : Int32) : Option Int32 :=
  fX8_lowest_P2 p0 (0 : Int32)
def fX8_readyBehind_L5 (v1 : Int32) (v2 : Int32) (kb : Int32 → Int32 → Option Int32) (σ : St) (v3 : Int32) (v4 : Int32) : Option Int32 :=
  if (8 : Int32) ≤ v4 then (some v3)
  else ((rd (zA σ 49) 8 v4).bind fun x1 => (some ((((16 : Int32) * v4) + x1))).bind fun x2 => (fX7_isIn v4 v2).bind fun x3 => if (bi x3) = 0 then (kb v3 (v4 + (1 : Int32)))
  else ((rd (zA σ 49) 8 v4).bind fun x4 => (fX7_sizeOf σ v4).bind fun x5 => if x5 ≤ x4 then (kb v3 (v4 + (1 : Int32)))
  else ((fX0_closes σ x2 v1).bind fun x6 => if (bi x6) = 0 then (kb v3 (v4 + (1 : Int32)))
  else ((some ((v3 ||| ((1 : Int32) <<< (v4 &&& 31))))).bind fun x7 => kb x7 (v4 + (1 : Int32))))))
def fX8_readyBehind_P5 (v1 : Int32) (v2 : Int32) (σ : St) (v3 : Int32) (v4 : Int32) : Option Int32 := it (fun (kb : (Int32 × Int32) → Option Int32) (t : Int32 × Int32) => fX8_readyBehind_L5 v1 v2 (fun v3 v4 => kb (v3, v4)) σ t.1 t.2) FU (v3, v4)
def fX8_readyBehind (σ : St) (p0 : Int32) (p1 : Int32) : Option Int32 :=
  fX8_readyBehind_P5 p0 p1 σ (0 : Int32) (0 : Int32)
def fX8_rehearseAll_L4 (v1 : Int32) (k1 : St → Int32 → Option St) (kb : St → Int32 → Int32 → Option St) (σ : St) (v2 : Int32) (v3 : Int32) : Option St :=
  if (8 : Int32) ≤ v3 then (k1 σ v2)
  else (wr 8 v3 ((some (uA σ 49 (upd (zA σ 49) (Int32.toNatClampNeg v3) (0 : Int32)))).bind fun s1 => (fX7_isIn v3 v1).bind fun x2 => if (bi x2) = 0 then (kb s1 v2 (v3 + (1 : Int32)))
  else ((fX7_hasCue s1 ((16 : Int32) * v3)).bind fun x3 => if (bi x3) = 0 then ((some ((v2 ||| ((1 : Int32) <<< (v3 &&& 31))))).bind fun x4 => kb s1 x4 (v3 + (1 : Int32)))
  else (kb s1 v2 (v3 + (1 : Int32))))))
def fX8_rehearseAll_P4 (v1 : Int32) (k1 : St → Int32 → Option St) (σ : St) (v2 : Int32) (v3 : Int32) : Option St := it (fun (kb : (St × Int32 × Int32) → Option St) (t : St × Int32 × Int32) => fX8_rehearseAll_L4 v1 k1 (fun σ v2 v3 => kb (σ, v2, v3)) t.1 t.2.1 t.2.2) FU (σ, v2, v3)
def fX8_rehearseAll_L61 (v1 : Int32) (kb : St → Int32 → Int32 → Option St) (σ : St) (v2 : Int32) (v3 : Int32) : Option St :=
  if (96 : Int32) ≤ v3 then (some σ)
  else (if v2 = 0 then (some σ)
  else ((fX8_lowest v2).bind fun x8 => (rd (zA σ 49) 8 x8).bind fun x9 => wr 96 v3 ((some (uA σ 48 (upd (zA σ 48) (Int32.toNatClampNeg v3) (((16 : Int32) * x8) + x9)))).bind fun s10 => (some (uI s10 27 ((zI s10 27) + (1 : Int32)))).bind fun s11 => (rd (zA s11 49) 8 x8).bind fun x12 => wr 8 x8 ((some (uA s11 49 (upd (zA s11 49) (Int32.toNatClampNeg x8) (x12 + (1 : Int32))))).bind fun s13 => (rd (zA s13 48) 96 v3).bind fun x14 => (fX8_readyBehind s13 x14 (v1 &&& (((1 : Int32) <<< (x8 &&& 31)) ^^^ (-1 : Int32)))).bind fun x15 => (some (((v2 &&& (((1 : Int32) <<< (x8 &&& 31)) ^^^ (-1 : Int32))) ||| x15))).bind fun x16 => kb s13 x16 (v3 + (1 : Int32))))))
def fX8_rehearseAll_P61 (v1 : Int32) (σ : St) (v2 : Int32) (v3 : Int32) : Option St := it (fun (kb : (St × Int32 × Int32) → Option St) (t : St × Int32 × Int32) => fX8_rehearseAll_L61 v1 (fun σ v2 v3 => kb (σ, v2, v3)) t.1 t.2.1 t.2.2) FU (σ, v2, v3)
def fX8_rehearseAll (σ : St) (p0 : Int32) : Option St :=
  fX8_rehearseAll_P4 p0 (fun s5 x6 => (some (uI s5 27 (0 : Int32))).bind fun s7 => fX8_rehearseAll_P61 p0 s7 x6 (0 : Int32)) σ (0 : Int32) (0 : Int32)
def fX8_saidAt (σ : St) (p0 : Int32) : Option Int32 :=
  if p0 < 0 then (some (-1 : Int32))
  else (if (zI σ 27) ≤ p0 then (some (-1 : Int32))
  else (if (96 : Int32) ≤ p0 then (some (-1 : Int32))
  else ((rd (zA σ 48) 96 p0).bind fun x1 => some x1)))
def fX8_said (σ : St) : Option Int32 :=
  some (zI σ 27)
def fX11_rehearse (σ : St) (p0 : Int32) (p1 : Int32) : Option (Int32 × St) :=
  (fX7_haveAll σ p0).bind fun x1 => if (bi x1) = 0 then (some ((-1 : Int32), σ))
  else ((fX8_rehearseAll σ p0).bind fun s2 => if p1 = (-1 : Int32) then ((fX8_said s2).bind fun x4 => some (x4, s2))
  else ((fX8_saidAt s2 p1).bind fun x3 => some (x3, s2)))
def fX11_settles (σ : St) (p0 : Int32) (p1 : Int32) : Option Int32 :=
  (fX7_hasRoll σ p0).bind fun x1 => if (bi x1) = 0 then (some (-1 : Int32))
  else ((fX7_haveAll σ p1).bind fun x2 => if (bi x2) = 0 then (some (-1 : Int32))
  else ((fX7_isIn p0 p1).bind fun x3 => if (bi x3) = 0 then ((fX0_settledBy σ p0 p1).bind fun x4 => some x4)
  else (some (-1 : Int32))))
def fX8_saidOtherwise_L4 (kb : Int32 → Int32 → Option Int32) (σ : St) (v1 : Int32) (v2 : Int32) : Option Int32 :=
  if (zI σ 26) ≤ v2 then (some v1)
  else ((fX8_saidAt σ v2).bind fun x1 => (fX8_playedAt σ v2).bind fun x2 => if x1 = x2 then (kb v1 (v2 + (1 : Int32)))
  else (kb (v1 + (1 : Int32)) (v2 + (1 : Int32))))
def fX8_saidOtherwise_P4 (σ : St) (v1 : Int32) (v2 : Int32) : Option Int32 := it (fun (kb : (Int32 × Int32) → Option Int32) (t : Int32 × Int32) => fX8_saidOtherwise_L4 (fun v1 v2 => kb (v1, v2)) σ t.1 t.2) FU (v1, v2)
def fX8_saidOtherwise (σ : St) : Option Int32 :=
  fX8_saidOtherwise_P4 σ (0 : Int32) (0 : Int32)
def fX11_soon (σ : St) (p0 : Int32) : Option (Int32 × St) :=
  (fX7_haveAll σ p0).bind fun x1 => if (bi x1) = 0 then (some ((-1 : Int32), σ))
  else ((fX8_rehearseAll σ p0).bind fun s2 => (fX8_saidOtherwise s2).bind fun x3 => some (x3, s2))
def fX6_items (σ : St) : Option Int32 :=
  some (zI σ 5)
def fX6_cueWordsOf (σ : St) (p0 : Int32) : Option Int32 :=
  if p0 < 0 then (some (0 : Int32))
  else (if (12 : Int32) ≤ p0 then (some (0 : Int32))
  else ((rd (zA σ 14) 12 p0).bind fun x1 => some x1))
def fX6_cueWord (σ : St) (p0 : Int32) (p1 : Int32) : Option Int64 :=
  (some ((((2 : Int32) * p0) + p1))).bind fun x1 => if x1 < 0 then (some (0 : Int64))
  else (if (24 : Int32) ≤ x1 then (some (0 : Int64))
  else ((rd (zB σ 15) 24 x1).bind fun x2 => some x2))
def fX6_wordsOf (σ : St) (p0 : Int32) : Option Int32 :=
  if p0 < 0 then (some (0 : Int32))
  else (if (12 : Int32) ≤ p0 then (some (0 : Int32))
  else ((rd (zA σ 16) 12 p0).bind fun x1 => some x1))
def fX6_word (σ : St) (p0 : Int32) (p1 : Int32) : Option Int64 :=
  (some ((((12 : Int32) * p0) + p1))).bind fun x1 => if x1 < 0 then (some (0 : Int64))
  else (if (144 : Int32) ≤ x1 then (some (0 : Int64))
  else ((rd (zB σ 17) 144 x1).bind fun x2 => some x2))
def fX7_fill_L26 (v1 : Int32) (v3 : Int32) (k1 : St → Option St) (kb : St → Int32 → Option St) (σ : St) (v4 : Int32) : Option St :=
  if (2 : Int32) ≤ v4 then (k1 σ)
  else ((fX6_cueWord σ v3 v4).bind fun x3 => wr 256 (((2 : Int32) * v1) + v4) ((some (uB σ 26 (vp_updL (zB σ 26) (Int32.toNatClampNeg (((2 : Int32) * v1) + v4)) x3))).bind fun s4 => kb s4 (v4 + (1 : Int32))))
def fX7_fill_P26 (v1 : Int32) (v3 : Int32) (k1 : St → Option St) (σ : St) (v4 : Int32) : Option St := it (fun (kb : (St × Int32) → Option St) (t : St × Int32) => fX7_fill_L26 v1 v3 k1 (fun σ v4 => kb (σ, v4)) t.1 t.2) FU (σ, v4)
def fX7_fill_L70 (v1 : Int32) (v3 : Int32) (kb : St → Int32 → Option St) (σ : St) (v4 : Int32) : Option St :=
  if (12 : Int32) ≤ v4 then (some σ)
  else ((fX6_word σ v3 v4).bind fun x8 => wr 1536 (((12 : Int32) * v1) + v4) ((some (uB σ 28 (vp_updL (zB σ 28) (Int32.toNatClampNeg (((12 : Int32) * v1) + v4)) x8))).bind fun s9 => kb s9 (v4 + (1 : Int32))))
def fX7_fill_P70 (v1 : Int32) (v3 : Int32) (σ : St) (v4 : Int32) : Option St := it (fun (kb : (St × Int32) → Option St) (t : St × Int32) => fX7_fill_L70 v1 v3 (fun σ v4 => kb (σ, v4)) t.1 t.2) FU (σ, v4)
def fX7_fill (σ : St) (p0 : Int32) (p2 : Int32) : Option St :=
  if p0 < 0 then (some σ)
  else (if p0 < (128 : Int32) then ((fX6_cueWordsOf σ p2).bind fun x1 => wr 128 p0 ((some (uA σ 25 (upd (zA σ 25) (Int32.toNatClampNeg p0) x1))).bind fun s2 => fX7_fill_P26 p0 p2 (fun s5 => (fX6_wordsOf s5 p2).bind fun x6 => wr 128 p0 ((some (uA s5 27 (upd (zA s5 27) (Int32.toNatClampNeg p0) x6))).bind fun s7 => fX7_fill_P70 p0 p2 s7 (0 : Int32))) s2 (0 : Int32)))
  else (some σ))
def fX7_add_L24 (k1 : St → Option (Int32 × St)) (kb : St → Int32 → Option (Int32 × St)) (σ : St) (v2 : Int32) : Option (Int32 × St) :=
  (fX6_items σ).bind fun x1 => if x1 ≤ v2 then (k1 σ)
  else (if (12 : Int32) ≤ v2 then (k1 σ)
  else ((fX7_fill σ (((16 : Int32) * (zI σ 18)) + v2) v2).bind fun s2 => if (zI s2 17) < 0 then (kb s2 (v2 + (1 : Int32)))
  else (if (96 : Int32) ≤ (zI s2 17) then (kb s2 (v2 + (1 : Int32)))
  else (wr 96 (zI s2 17) ((some (uA s2 29 (upd (zA s2 29) (Int32.toNatClampNeg (zI s2 17)) (((16 : Int32) * (zI s2 18)) + v2)))).bind fun s3 => (some (uI s3 17 ((zI s3 17) + (1 : Int32)))).bind fun s4 => kb s4 (v2 + (1 : Int32)))))))
def fX7_add_P24 (k1 : St → Option (Int32 × St)) (σ : St) (v2 : Int32) : Option (Int32 × St) := it (fun (kb : (St × Int32) → Option (Int32 × St)) (t : St × Int32) => fX7_add_L24 k1 (fun σ v2 => kb (σ, v2)) t.1 t.2) FU (σ, v2)
def fX7_add (σ : St) : Option (Int32 × St) :=
  if (zI σ 18) < 0 then (some ((-1 : Int32), σ))
  else (if (zI σ 18) < (8 : Int32) then (fX7_add_P24 (fun s5 => (fX6_items s5).bind fun x6 => wr 8 (zI s5 18) ((some (uA s5 23 (upd (zA s5 23) (Int32.toNatClampNeg (zI s5 18)) x6))).bind fun s7 => wr 8 (zI s7 18) ((some (uA s7 24 (upd (zA s7 24) (Int32.toNatClampNeg (zI s7 18)) (-1 : Int32)))).bind fun s8 => (some (uI s8 18 ((zI s8 18) + (1 : Int32)))).bind fun s9 => (some (uI s9 19 ((zI s9 19) + (1 : Int32)))).bind fun s10 => some (((zI s10 18) - (1 : Int32)), s10)))) σ (0 : Int32))
  else (some ((-1 : Int32), σ)))
def fX3_scenes (σ : St) : Option Int32 :=
  some (zI σ 8)
def fX3_partsIn (σ : St) (p0 : Int32) : Option Int32 :=
  if p0 < 0 then (some (0 : Int32))
  else (if (20 : Int32) ≤ p0 then (some (0 : Int32))
  else ((rd (zA σ 20) 20 p0).bind fun x1 => some x1))
def fX4_add_L23 (k1 : St → Option (Int32 × St)) (kb : St → Int32 → Option (Int32 × St)) (σ : St) (v2 : Int32) : Option (Int32 × St) :=
  (fX3_scenes σ).bind fun x1 => if x1 ≤ v2 then (k1 σ)
  else (if (20 : Int32) ≤ v2 then (k1 σ)
  else ((fX3_partsIn σ v2).bind fun x2 => wr 80 (((20 : Int32) * (zI σ 28)) + v2) ((some (uA σ 50 (upd (zA σ 50) (Int32.toNatClampNeg (((20 : Int32) * (zI σ 28)) + v2)) x2))).bind fun s3 => kb s3 (v2 + (1 : Int32)))))
def fX4_add_P23 (k1 : St → Option (Int32 × St)) (σ : St) (v2 : Int32) : Option (Int32 × St) := it (fun (kb : (St × Int32) → Option (Int32 × St)) (t : St × Int32) => fX4_add_L23 k1 (fun σ v2 => kb (σ, v2)) t.1 t.2) FU (σ, v2)
def fX4_add (σ : St) : Option (Int32 × St) :=
  if (zI σ 28) < 0 then (some ((-1 : Int32), σ))
  else (if (zI σ 28) < (4 : Int32) then (fX4_add_P23 (fun s4 => (fX3_scenes s4).bind fun x5 => wr 4 (zI s4 28) ((some (uA s4 51 (upd (zA s4 51) (Int32.toNatClampNeg (zI s4 28)) x5))).bind fun s6 => (some (uI s6 28 ((zI s6 28) + (1 : Int32)))).bind fun s7 => some (((zI s7 28) - (1 : Int32)), s7))) σ (0 : Int32))
  else (some ((-1 : Int32), σ)))
def fX5_copyTo_h_L2 (v1 : Nat) (kb : St → Int32 → Option St) (σ : St) (v2 : Int32) : Option St :=
  isl (lenB σ v1) (if (Int32.ofNat (lenB σ v1)) ≤ v2 then (some σ)
  else (if (201 : Int32) ≤ v2 then (some σ)
  else ((rd (zB σ 21) 201 v2).bind fun x1 => wr (lenB σ v1) v2 ((some (uB σ v1 (vp_updL (zB σ v1) (Int32.toNatClampNeg v2) x1))).bind fun s2 => kb s2 (v2 + (1 : Int32))))))
def fX5_copyTo_h_P2 (v1 : Nat) (σ : St) (v2 : Int32) : Option St := it (fun (kb : (St × Int32) → Option St) (t : St × Int32) => fX5_copyTo_h_L2 v1 (fun σ v2 => kb (σ, v2)) t.1 t.2) FU (σ, v2)
def fX5_copyTo_h (σ : St) (p0 : Nat) : Option St :=
  fX5_copyTo_h_P2 p0 σ (0 : Int32)
def fX1_add (σ : St) : Option (Int32 × St) :=
  if (zI σ 11) < 0 then (some ((-1 : Int32), σ))
  else (if (zI σ 11) < (4 : Int32) then ((rd (fun j => 83 + j) 4 (zI σ 11)).bind fun x1 => (fX5_copyTo_h σ x1).bind fun s2 => (some (uI s2 11 ((zI s2 11) + (1 : Int32)))).bind fun s3 => some (((zI s3 11) - (1 : Int32)), s3))
  else (some ((-1 : Int32), σ)))
def fX11_stored (σ : St) (p0 : Int32) : Option (Int32 × St) :=
  if p0 = 0 then ((fX7_add σ).bind fun r1 => some (r1.1, r1.2))
  else (if p0 = 1 then ((fX4_add σ).bind fun r2 => some (r2.1, r2.2))
  else ((fX1_add σ).bind fun r3 => some (r3.1, r3.2)))
def fX2_numberOf_L2 (v1 : Int32) (kb : Int32 → Option Int32) (σ : St) (v2 : Int32) : Option Int32 :=
  if (zI σ 21) ≤ v2 then (some (0 : Int32))
  else ((rd (zA σ 35) 8 v2).bind fun x1 => (fX7_rollOf v1).bind fun x2 => if x1 = x2 then ((rd (zA σ 38) 8 v2).bind fun x3 => nz (16 : Int32) (some (x3 + (v1 - v1 / (16 : Int32) * (16 : Int32)))))
  else (kb (v2 + (1 : Int32))))
def fX2_numberOf_P2 (v1 : Int32) (σ : St) (v2 : Int32) : Option Int32 := it (fun (kb : Int32 → Option Int32) (t : Int32) => fX2_numberOf_L2 v1 (fun v2 => kb v2) σ t) FU v2
def fX2_numberOf (σ : St) (p0 : Int32) : Option Int32 :=
  fX2_numberOf_P2 p0 σ (0 : Int32)
def fX2_clearPairs_L26 (k1 : St → Option St) (kb : St → Int32 → Option St) (σ : St) (v1 : Int32) : Option St :=
  if (Int32.ofNat (zN σ 46)) ≤ v1 then (k1 σ)
  else (wr (zN σ 46) v1 ((some (uB σ 46 (vp_updL (zB σ 46) (Int32.toNatClampNeg v1) (0 : Int64)))).bind fun s1 => kb s1 (v1 + (1 : Int32))))
def fX2_clearPairs_P26 (k1 : St → Option St) (σ : St) (v1 : Int32) : Option St := it (fun (kb : (St × Int32) → Option St) (t : St × Int32) => fX2_clearPairs_L26 k1 (fun σ v1 => kb (σ, v1)) t.1 t.2) FU (σ, v1)
def fX2_clearPairs_L50 (kb : St → Int32 → Option St) (σ : St) (v1 : Int32) : Option St :=
  if (420 : Int32) ≤ v1 then (some σ)
  else (wr 420 v1 ((some (uB σ 44 (vp_updL (zB σ 44) (Int32.toNatClampNeg v1) (0 : Int64)))).bind fun s3 => kb s3 (v1 + (1 : Int32))))
def fX2_clearPairs_P50 (σ : St) (v1 : Int32) : Option St := it (fun (kb : (St × Int32) → Option St) (t : St × Int32) => fX2_clearPairs_L50 (fun σ v1 => kb (σ, v1)) t.1 t.2) FU (σ, v1)
def fX2_clearPairs (σ : St) : Option St :=
  if (Int32.ofNat (zN σ 45)) ≤ (Int32.ofNat (zN σ 46)) then (fX2_clearPairs_P26 (fun s2 => fX2_clearPairs_P50 s2 (0 : Int32)) σ (0 : Int32))
  else (nb σ 46 (Int32.ofNat (zN σ 45)) ((some (uNew σ 46 (Int32.ofNat (zN σ 45)))).bind fun s4 => fX2_clearPairs_P26 (fun s5 => fX2_clearPairs_P50 s5 (0 : Int32)) s4 (0 : Int32)))
def fX2_spread_L3 (v1 : Int32) (v2 : Int32) (v3 : Int32) (v4 : Int64) (kb : St → Int32 → Option St) (σ : St) (v6 : Int32) : Option St :=
  if (zI σ 21) ≤ v6 then (some σ)
  else ((fX2_gapsIfNext σ v6 v2).bind fun x1 => (fX2_gapsAt σ v3).bind fun x2 => if x1 = x2 then ((fX2_slotBehind σ v1 v6).bind fun x3 => (rd (zA σ 38) 8 v6).bind fun x4 => (rd (zA σ 40) 8 v6).bind fun x5 => (some (((((20 : Int32) * v2) + x4) + x5))).bind fun x6 => if (Int32.ofNat (zN σ 46)) ≤ x3 then (kb σ (v6 + (1 : Int32)))
  else (if (420 : Int32) ≤ x6 then (kb σ (v6 + (1 : Int32)))
  else ((rd (zB σ 46) (zN σ 46) x3).bind fun x7 => wr (zN σ 46) x3 ((some (uB σ 46 (vp_updL (zB σ 46) (Int32.toNatClampNeg x3) (x7 + v4)))).bind fun s8 => (rd (zB s8 44) 420 x6).bind fun x9 => (rd (zB s8 43) 8 v6).bind fun x10 => wr 420 x6 ((some (uB s8 44 (vp_updL (zB s8 44) (Int32.toNatClampNeg x6) (x9 + (v4 * x10))))).bind fun s11 => kb s11 (v6 + (1 : Int32)))))))
  else (kb σ (v6 + (1 : Int32))))
def fX2_spread_P3 (v1 : Int32) (v2 : Int32) (v3 : Int32) (v4 : Int64) (σ : St) (v6 : Int32) : Option St := it (fun (kb : (St × Int32) → Option St) (t : St × Int32) => fX2_spread_L3 v1 v2 v3 v4 (fun σ v6 => kb (σ, v6)) t.1 t.2) FU (σ, v6)
def fX2_spread (σ : St) (p0 : Int32) (p1 : Int32) (p2 : Int32) (p3 : Int64) : Option St :=
  fX2_spread_P3 p0 p1 p2 p3 σ (0 : Int32)
def fX2_stepOn_L2 (k1 : St → Int32 → Option St) (kb : St → Int32 → Option St) (σ : St) (v1 : Int32) : Option St :=
  if (zI σ 21) ≤ v1 then (some σ)
  else ((rd (zA σ 40) 8 v1).bind fun x1 => (rd (zA σ 36) 8 v1).bind fun x2 => if x2 ≤ x1 then (wr 8 v1 ((some (uA σ 40 (upd (zA σ 40) (Int32.toNatClampNeg v1) (0 : Int32)))).bind fun s3 => kb s3 (v1 + (1 : Int32))))
  else (k1 σ v1))
def fX2_stepOn_P2 (k1 : St → Int32 → Option St) (σ : St) (v1 : Int32) : Option St := it (fun (kb : (St × Int32) → Option St) (t : St × Int32) => fX2_stepOn_L2 k1 (fun σ v1 => kb (σ, v1)) t.1 t.2) FU (σ, v1)
def fX2_stepOn (σ : St) : Option St :=
  fX2_stepOn_P2 (fun s4 x5 => (rd (zA s4 40) 8 x5).bind fun x6 => wr 8 x5 ((some (uA s4 40 (upd (zA s4 40) (Int32.toNatClampNeg x5) (x6 + (1 : Int32))))).bind fun s7 => some s7)) σ (0 : Int32)
def fX2_countPairs_L46 (v1 : Int32) (k1 : St → Option St) (kb : St → Int32 → Option St) (σ : St) (v2 : Int32) : Option St :=
  if (zI σ 21) ≤ v2 then (k1 σ)
  else ((some (((v1 * (zI σ 21)) + v2))).bind fun x8 => (rd (zA σ 40) 8 v2).bind fun x9 => if x9 ≤ 0 then (kb σ (v2 + (1 : Int32)))
  else (if (Int32.ofNat (zN σ 46)) ≤ x8 then (kb σ (v2 + (1 : Int32)))
  else ((rd (zB σ 46) (zN σ 46) x8).bind fun x10 => if (lg_cmp x10 (0 : Int64)) ≤ 0 then (kb σ (v2 + (1 : Int32)))
  else ((rd (zA σ 38) 8 v2).bind fun x11 => (rd (zA σ 40) 8 v2).bind fun x12 => (rd (zB σ 46) (zN σ 46) x8).bind fun x13 => (fX2_spread σ v1 ((x11 + x12) - (1 : Int32)) x8 x13).bind fun s14 => kb s14 (v2 + (1 : Int32))))))
def fX2_countPairs_P46 (v1 : Int32) (k1 : St → Option St) (σ : St) (v2 : Int32) : Option St := it (fun (kb : (St × Int32) → Option St) (t : St × Int32) => fX2_countPairs_L46 v1 k1 (fun σ v2 => kb (σ, v2)) t.1 t.2) FU (σ, v2)
def fX2_countPairs_L27 (kb : St → Int32 → Option St) (σ : St) (v1 : Int32) : Option St :=
  if (zI σ 22) ≤ v1 then (some σ)
  else ((fX2_stepOn σ).bind fun s6 => (fX2_lookAhead s6 v1).bind fun s7 => fX2_countPairs_P46 v1 (fun s15 => kb s15 (v1 + (1 : Int32))) s7 (0 : Int32))
def fX2_countPairs_P27 (σ : St) (v1 : Int32) : Option St := it (fun (kb : (St × Int32) → Option St) (t : St × Int32) => fX2_countPairs_L27 (fun σ v1 => kb (σ, v1)) t.1 t.2) FU (σ, v1)
def fX2_countPairs (σ : St) : Option St :=
  (fX2_clearPairs σ).bind fun s1 => (fX2_clearSaid s1).bind fun s2 => (fX2_lookAhead s2 (0 : Int32)).bind fun s3 => (fX2_startSlot s3).bind fun x4 => (fX2_spread s3 (0 : Int32) (20 : Int32) x4 (1 : Int64)).bind fun s5 => fX2_countPairs_P27 s5 (1 : Int32)
def fX2_certain_J16 (σ : St) (v1 : Int32) (v2 : Int32) : Option (Int32 × St) :=
  (fX2_numberOf σ v1).bind fun x1 => (fX2_numberOf σ v2).bind fun x2 => (some ((((20 : Int32) * x1) + x2))).bind fun x3 => if x3 < 0 then (if (lg_cmp (0 : Int64) (0 : Int64)) = 0 then (some ((0 : Int32), σ))
  else ((fX2_howManyBest σ).bind fun x4 => if (lg_cmp (0 : Int64) x4) = 0 then (some ((1 : Int32), σ))
  else (some ((-1 : Int32), σ))))
  else (if (420 : Int32) ≤ x3 then (if (lg_cmp (0 : Int64) (0 : Int64)) = 0 then (some ((0 : Int32), σ))
  else ((fX2_howManyBest σ).bind fun x5 => if (lg_cmp (0 : Int64) x5) = 0 then (some ((1 : Int32), σ))
  else (some ((-1 : Int32), σ))))
  else ((rd (zB σ 44) 420 x3).bind fun x6 => if (lg_cmp x6 (0 : Int64)) = 0 then (some ((0 : Int32), σ))
  else ((fX2_howManyBest σ).bind fun x7 => if (lg_cmp x6 x7) = 0 then (some ((1 : Int32), σ))
  else (some ((-1 : Int32), σ)))))
def fX2_certain (σ : St) (p0 : Int32) (p1 : Int32) : Option (Int32 × St) :=
  if (zI σ 25) = 0 then ((fX2_countPairs σ).bind fun s8 => (some (uI s8 25 (1 : Int32))).bind fun s9 => fX2_certain_J16 s9 p0 p1)
  else (fX2_certain_J16 σ p0 p1)
def fX11_sure (σ : St) (p0 : Int32) (p1 : Int32) (p2 : Int32) : Option (Int32 × St) :=
  if p1 = p2 then (some ((-2 : Int32), σ))
  else ((fX7_has σ p1).bind fun x1 => if (bi x1) = 0 then (some ((-2 : Int32), σ))
  else ((fX7_has σ p2).bind fun x2 => if (bi x2) = 0 then (some ((-2 : Int32), σ))
  else ((fX7_isOf p1 p0).bind fun x3 => if (bi x3) = 0 then (some ((-2 : Int32), σ))
  else ((fX7_isOf p2 p0).bind fun x4 => if (bi x4) = 0 then (some ((-2 : Int32), σ))
  else ((fX2_areTold σ p0).bind fun r5 => if (bi r5.1) = 0 then (some ((-2 : Int32), r5.2))
  else ((fX2_certain r5.2 p1 p2).bind fun r6 => some (r6.1, r6.2)))))))
def fX11_tempted (σ : St) (p0 : Int32) : Option Int32 :=
  (fX7_haveAll σ p0).bind fun x1 => if (bi x1) = 0 then (some (-1 : Int32))
  else ((fX0_temptations σ p0).bind fun x2 => some x2)
def fX11_text (σ : St) (p0 : Int32) : Option (Int32 × St) :=
  if p0 = 0 then ((fX5_faultOf_r σ).bind fun r7 => if r7.1 = (-1 : Int32) then ((fX11_stored r7.2 p0).bind fun r8 => if r8.1 = (-1 : Int32) then (some (r8.1, r8.2))
  else ((fX9_cut r8.2 (0 : Int32)).bind fun r9 => some (r8.1, r9.2)))
  else (some ((-1 : Int32), r7.2)))
  else (if p0 = 1 then ((fX5_faultOf_p σ).bind fun r4 => if r4.1 = (-1 : Int32) then ((fX11_stored r4.2 p0).bind fun r5 => if r5.1 = (-1 : Int32) then (some (r5.1, r5.2))
  else ((fX9_cut r5.2 (0 : Int32)).bind fun r6 => some (r5.1, r6.2)))
  else (some ((-1 : Int32), r4.2)))
  else (if p0 = 2 then ((fX5_faultOf_h σ).bind fun r1 => if r1.1 = (-1 : Int32) then ((fX11_stored r1.2 p0).bind fun r2 => if r2.1 = (-1 : Int32) then (some (r2.1, r2.2))
  else ((fX9_cut r2.2 (0 : Int32)).bind fun r3 => some (r2.1, r3.2)))
  else (some ((-1 : Int32), r1.2)))
  else (some ((-1 : Int32), σ))))
def fX7_lastWord (σ : St) (p0 : Int32) : Option Int64 :=
  (fX7_wordsOf σ p0).bind fun x1 => (fX7_word σ p0 (x1 - (1 : Int32))).bind fun x2 => some x2
def fX7_lastButOne (σ : St) (p0 : Int32) : Option Int64 :=
  (fX7_wordsOf σ p0).bind fun x1 => (fX7_word σ p0 (x1 - (2 : Int32))).bind fun x2 => some x2
def fX11_worth_L29 (v1 : Int32) (v2 : Int32) (kb : St → Int32 → Int32 → Option (Int32 × St)) (σ : St) (v3 : Int32) (v4 : Int32) : Option (Int32 × St) :=
  (fX7_sizeOf σ v1).bind fun x3 => if x3 ≤ v4 then (some (v3, σ))
  else ((some ((((16 : Int32) * v1) + v4))).bind fun x4 => (fX7_lastWord σ x4).bind fun x5 => (fX7_lastButOne σ x4).bind fun x6 => (fX1_worthOf σ v2 x5 x6).bind fun r7 => (some ((v3 + r7.1))).bind fun x8 => kb r7.2 x8 (v4 + (1 : Int32)))
def fX11_worth_P29 (v1 : Int32) (v2 : Int32) (σ : St) (v3 : Int32) (v4 : Int32) : Option (Int32 × St) := it (fun (kb : (St × Int32 × Int32) → Option (Int32 × St)) (t : St × Int32 × Int32) => fX11_worth_L29 v1 v2 (fun σ v3 v4 => kb (σ, v3, v4)) t.1 t.2.1 t.2.2) FU (σ, v3, v4)
def fX11_worth (σ : St) (p0 : Int32) (p1 : Int32) : Option (Int32 × St) :=
  (fX7_hasRoll σ p0).bind fun x1 => if (bi x1) = 0 then (some ((-1 : Int32), σ))
  else ((fX1_has σ p1).bind fun x2 => if (bi x2) = 0 then (some ((-1 : Int32), σ))
  else (fX11_worth_P29 p0 p1 σ (0 : Int32) (0 : Int32)))
def fX8_hasGapAhead (σ : St) (p0 : Int32) : Option Bool :=
  (fX8_playedAt σ p0).bind fun x1 => if p0 = 0 then ((fX7_hasCue σ x1).bind fun x6 => some x6)
  else ((fX8_playedAt σ (p0 - (1 : Int32))).bind fun x2 => (fX7_rollOf x2).bind fun x3 => (fX7_rollOf x1).bind fun x4 => if x3 = x4 then (some true)
  else ((fX0_closes σ x1 x2).bind fun x5 => if (bi x5) = 0 then (some true)
  else (some false)))
def fX8_gapOfPlay_L4 (v1 : Int32) (k1 : Int32 → Option Int32) (kb : Int32 → Int32 → Option Int32) (σ : St) (v2 : Int32) (v3 : Int32) : Option Int32 :=
  if (zI σ 26) ≤ v3 then (k1 v2)
  else ((fX8_hasGapAhead σ v3).bind fun x1 => if (bi x1) = 0 then (kb v2 (v3 + (1 : Int32)))
  else (if v2 = v1 then (some v3)
  else (kb (v2 + (1 : Int32)) (v3 + (1 : Int32)))))
def fX8_gapOfPlay_P4 (v1 : Int32) (k1 : Int32 → Option Int32) (σ : St) (v2 : Int32) (v3 : Int32) : Option Int32 := it (fun (kb : (Int32 × Int32) → Option Int32) (t : Int32 × Int32) => fX8_gapOfPlay_L4 v1 k1 (fun v2 v3 => kb (v2, v3)) σ t.1 t.2) FU (v2, v3)
def fX8_gapOfPlay (σ : St) (p0 : Int32) : Option Int32 :=
  fX8_gapOfPlay_P4 p0 (fun x2 => if p0 = (-1 : Int32) then (some x2)
  else (some (-1 : Int32))) σ (0 : Int32) (0 : Int32)
def fX11_wrong (σ : St) (p0 : Int32) : Option Int32 :=
  (fX8_gapOfPlay σ p0).bind fun x1 => some x1
def fX12_isRoll (σ : St) (p0 : Int32) : Option Bool :=
  if p0 < 0 then (some false)
  else (if (zI σ 32) ≤ p0 then (some false)
  else (some true))
def fX12_act_L19 (v1 : Int32) (k1 : Int32 → Option (Int32 × St)) (kb : Int32 → Int32 → Option (Int32 × St)) (σ : St) (v2 : Int32) (v3 : Int32) : Option (Int32 × St) :=
  if (zI σ 48) ≤ v3 then (k1 v2)
  else ((rd (zA σ 78) 96 v3).bind fun x3 => nz (16 : Int32) (if (x3 / (16 : Int32)) = v1 then ((some ((v2 + (1 : Int32)))).bind fun x5 => kb x5 (v3 + (1 : Int32)))
  else ((some ((v2 + (0 : Int32)))).bind fun x4 => kb x4 (v3 + (1 : Int32)))))
def fX12_act_P19 (v1 : Int32) (k1 : Int32 → Option (Int32 × St)) (σ : St) (v2 : Int32) (v3 : Int32) : Option (Int32 × St) := it (fun (kb : (Int32 × Int32) → Option (Int32 × St)) (t : Int32 × Int32) => fX12_act_L19 v1 k1 (fun v2 v3 => kb (v2, v3)) σ t.1 t.2) FU (v2, v3)
def fX12_act (σ : St) (p0 : Int32) : Option (Int32 × St) :=
  (some (uI σ 30 (0 : Int32))).bind fun s1 => (fX12_isRoll s1 p0).bind fun x2 => if (bi x2) = 0 then (some ((-1 : Int32), s1))
  else (fX12_act_P19 p0 (fun x6 => (rd (zA s1 60) 9 p0).bind fun x7 => if x6 = x7 then (some ((-1 : Int32), s1))
  else (wr 96 (zI s1 48) ((some (uA s1 78 (upd (zA s1 78) (Int32.toNatClampNeg (zI s1 48)) (((16 : Int32) * p0) + x6)))).bind fun s8 => (some (uI s8 48 ((zI s8 48) + (1 : Int32)))).bind fun s9 => some ((((16 : Int32) * p0) + x6), s9)))) s1 (0 : Int32) (0 : Int32))
def fX12_addOne (σ : St) (p0 : Int32) : Option St :=
  wr 20 (zI σ 43) ((some (uA σ 70 (upd (zA σ 70) (Int32.toNatClampNeg (zI σ 43)) p0))).bind fun s1 => (some (uI s1 43 ((zI s1 43) + (1 : Int32)))).bind fun s2 => some s2)
def fX12_addOther (σ : St) (p0 : Int32) : Option St :=
  wr 20 (zI σ 44) ((some (uA σ 71 (upd (zA σ 71) (Int32.toNatClampNeg (zI σ 44)) p0))).bind fun s1 => (some (uI s1 44 ((zI s1 44) + (1 : Int32)))).bind fun s2 => some s2)
def fX12_areRolls (σ : St) (p0 : Int32) : Option Bool :=
  if p0 ≤ 0 then (some false)
  else (if ((1 : Int32) <<< ((zI σ 32) &&& 31)) ≤ p0 then (some false)
  else (some true))
def fX12_look_L0 (k1 : St → Option (Int32 × St)) (kb : St → Option (Int32 × St)) (σ : St) : Option (Int32 × St) :=
  if (zI σ 36) ≤ (zI σ 37) then (k1 σ)
  else ((rd (zA σ (zR σ 3)) (lenY (zR σ 3)) ((zI σ 35) + (zI σ 37))).bind fun x1 => if x1 = (32 : Int32) then ((some (uI σ 37 ((zI σ 37) + (1 : Int32)))).bind fun s2 => kb s2)
  else (k1 σ))
def fX12_look_P0 (k1 : St → Option (Int32 × St)) (σ : St) : Option (Int32 × St) := it (fun (kb : St → Option (Int32 × St)) (t : St) => fX12_look_L0 k1 (fun σ => kb σ) t) FU σ
def fX12_look (σ : St) : Option (Int32 × St) :=
  fX12_look_P0 (fun s3 => if (zI s3 36) ≤ (zI s3 37) then (some ((-1 : Int32), s3))
  else ((rd (zA s3 (zR s3 3)) (lenY (zR s3 3)) ((zI s3 35) + (zI s3 37))).bind fun x4 => some ((x4 &&& (255 : Int32)), s3))) σ
def fJ0_coder_7d493_201 : Option Int32 :=
  if (1 : Int32) = 0 then (some (1 : Int32))
  else (some (0 : Int32))
def fJ0_length_8abf5_201 : Option Int32 :=
  (fJ0_coder_7d493_201).bind fun x1 => some ((5 : Int32) >>> (x1 &&& 31))
def fJ0_isLatin1_aae02_201 : Option Bool :=
  if (1 : Int32) = 0 then (some false)
  else (if (0 : Int32) = 0 then (some true)
  else (some false))
def fJ3_checkIndex_8e157_n (p0 : Int32) (p1 : Int32) : Option Int32 :=
  if p0 < 0 then (none)
  else (if p0 < p1 then (some p0)
  else (none))
def fJ3_checkIndex_8e157_220 (p0 : Int32) (p1 : Int32) : Option Int32 :=
  if p0 < 0 then (none)
  else (if p0 < p1 then (some p0)
  else (none))
def fJ0_checkIndex_df160 (p0 : Int32) (p1 : Int32) : Option Unit :=
  (fJ3_checkIndex_8e157_n p0 p1).bind fun x1 => some ()
def fJ1_charAt_3b067_211 (p1 : Int32) : Option Int32 :=
  (fJ0_checkIndex_df160 p1 (5 : Int32)).bind fun u1 => (rd (fun z => (strB.getD 1 []).getD z 0) (strL.getD 1 0) p1).bind fun x2 => some ((Int32.toUInt32 (x2 &&& (255 : Int32)) % 65536).toInt32)
def fJ0_charAt_5068e_201 (p0 : Int32) : Option Int32 :=
  (fJ0_isLatin1_aae02_201).bind fun x1 => if (bi x1) = 0 then (none)
  else ((fJ1_charAt_3b067_211 p0).bind fun x2 => chx x2)
def fX12_isAmong_201_L2 (v1 : Int32) (kb : Int32 → Option Bool) (v2 : Int32) : Option Bool :=
  (fJ0_length_8abf5_201).bind fun x1 => if x1 ≤ v2 then (some false)
  else ((fJ0_charAt_5068e_201 v2).bind fun x2 => if x2 = v1 then (some true)
  else (kb (v2 + (1 : Int32))))
def fX12_isAmong_201_P2 (v1 : Int32) (v2 : Int32) : Option Bool := it (fun (kb : Int32 → Option Bool) (t : Int32) => fX12_isAmong_201_L2 v1 (fun v2 => kb v2) t) FU v2
def fX12_isAmong_201 (p1 : Int32) : Option Bool :=
  fX12_isAmong_201_P2 p1 (0 : Int32)
def fX12_isDigit (σ : St) : Option Bool :=
  if (zI σ 36) ≤ (zI σ 37) then (some false)
  else ((rd (zA σ (zR σ 3)) (lenY (zR σ 3)) ((zI σ 35) + (zI σ 37))).bind fun x1 => if x1 < (48 : Int32) then (some false)
  else ((rd (zA σ (zR σ 3)) (lenY (zR σ 3)) ((zI σ 35) + (zI σ 37))).bind fun x2 => if (57 : Int32) < x2 then (some false)
  else (some true)))
def fX12_fails (σ : St) : Option (Bool × St) :=
  if (zI σ 38) = (-1 : Int32) then ((some (uI σ 38 (zI σ 37))).bind fun s1 => some (false, s1))
  else (some (false, σ))
def fX12_goesIn (σ : St) : Option (Bool × St) :=
  if (zI σ 39) = (6 : Int32) then ((fX12_fails σ).bind fun r3 => some (r3.1, r3.2))
  else ((some (uI σ 39 ((zI σ 39) + (1 : Int32)))).bind fun s1 => (some (uI s1 37 ((zI s1 37) + (1 : Int32)))).bind fun s2 => some (true, s2))
def fX12_within (p0 : Int64) : Option Int32 :=
  (fJ9_min_f86c9 (1000000 : Int64) p0).bind fun x1 => (fJ9_max_f86c9 (-1000000 : Int64) x1).bind fun x2 => some (Int64.toInt32 x2)
def fX12_takes (σ : St) (p0 : Int32) : Option (Bool × St) :=
  if (zI σ 38) = (-1 : Int32) then ((fX12_look σ).bind fun r2 => if r2.1 = p0 then ((some (uI r2.2 37 ((zI r2.2 37) + (1 : Int32)))).bind fun s3 => some (true, s3))
  else ((fX12_fails r2.2).bind fun r4 => some (r4.1, r4.2)))
  else ((fX12_fails σ).bind fun r1 => some (r1.1, r1.2))
def fX12_term_J31 (rec : St → Option (Int32 × St)) (kb : St → Int32 → Option (Int32 × St)) (σ : St) (v1 : Int32) : Option (Int32 × St) :=
  (fX12_look σ).bind fun r3 => if r3.1 = (42 : Int32) then ((some (uI r3.2 37 ((zI r3.2 37) + (1 : Int32)))).bind fun s10 => (rec s10).bind fun r11 => (some ((Int32.toInt64 r11.1))).bind fun x12 => if (1 : Int32) = 0 then (if (lg_cmp x12 (0 : Int64)) = 0 then ((fX12_within (0 : Int64)).bind fun x14 => kb r11.2 x14)
  else (nzl x12 ((fX12_within ((Int32.toInt64 v1) / x12)).bind fun x13 => kb r11.2 x13)))
  else ((fX12_within ((Int32.toInt64 v1) * x12)).bind fun x15 => kb r11.2 x15))
  else ((some (uI r3.2 37 ((zI r3.2 37) + (1 : Int32)))).bind fun s4 => (rec s4).bind fun r5 => (some ((Int32.toInt64 r5.1))).bind fun x6 => if (0 : Int32) = 0 then (if (lg_cmp x6 (0 : Int64)) = 0 then ((fX12_within (0 : Int64)).bind fun x8 => kb r5.2 x8)
  else (nzl x6 ((fX12_within ((Int32.toInt64 v1) / x6)).bind fun x7 => kb r5.2 x7)))
  else ((fX12_within ((Int32.toInt64 v1) * x6)).bind fun x9 => kb r5.2 x9))
def fX12_term_L5 (rec : St → Option (Int32 × St)) (kb : St → Int32 → Option (Int32 × St)) (σ : St) (v1 : Int32) : Option (Int32 × St) :=
  if (zI σ 38) = (-1 : Int32) then ((fX12_look σ).bind fun r2 => if r2.1 = (42 : Int32) then (fX12_term_J31 rec kb r2.2 v1)
  else ((fX12_look r2.2).bind fun r16 => if r16.1 = (47 : Int32) then (fX12_term_J31 rec kb r16.2 v1)
  else (some (v1, r16.2))))
  else (some (v1, σ))
def fX12_term_P5 (rec : St → Option (Int32 × St)) (σ : St) (v1 : Int32) : Option (Int32 × St) := it (fun (kb : (St × Int32) → Option (Int32 × St)) (t : St × Int32) => fX12_term_L5 rec (fun σ v1 => kb (σ, v1)) t.1 t.2) FU (σ, v1)
def fX12_term_B (rec : St → Option (Int32 × St)) (σ : St) : Option (Int32 × St) :=
  (rec σ).bind fun r1 => fX12_term_P5 rec r1.2 r1.1
def fX12_sum_J31 (rec : St → Option (Int32 × St)) (kb : St → Int32 → Option (Int32 × St)) (σ : St) (v1 : Int32) : Option (Int32 × St) :=
  (fX12_look σ).bind fun r3 => if r3.1 = (43 : Int32) then ((some (uI r3.2 37 ((zI r3.2 37) + (1 : Int32)))).bind fun s9 => (fX12_term_B rec s9).bind fun r10 => (some ((Int32.toInt64 r10.1))).bind fun x11 => if (1 : Int32) = 0 then ((fX12_within ((Int32.toInt64 v1) - x11)).bind fun x12 => kb r10.2 x12)
  else ((fX12_within ((Int32.toInt64 v1) + x11)).bind fun x13 => kb r10.2 x13))
  else ((some (uI r3.2 37 ((zI r3.2 37) + (1 : Int32)))).bind fun s4 => (fX12_term_B rec s4).bind fun r5 => (some ((Int32.toInt64 r5.1))).bind fun x6 => if (0 : Int32) = 0 then ((fX12_within ((Int32.toInt64 v1) - x6)).bind fun x7 => kb r5.2 x7)
  else ((fX12_within ((Int32.toInt64 v1) + x6)).bind fun x8 => kb r5.2 x8))
def fX12_sum_L5 (rec : St → Option (Int32 × St)) (kb : St → Int32 → Option (Int32 × St)) (σ : St) (v1 : Int32) : Option (Int32 × St) :=
  if (zI σ 38) = (-1 : Int32) then ((fX12_look σ).bind fun r2 => if r2.1 = (43 : Int32) then (fX12_sum_J31 rec kb r2.2 v1)
  else ((fX12_look r2.2).bind fun r14 => if r14.1 = (45 : Int32) then (fX12_sum_J31 rec kb r14.2 v1)
  else (some (v1, r14.2))))
  else (some (v1, σ))
def fX12_sum_P5 (rec : St → Option (Int32 × St)) (σ : St) (v1 : Int32) : Option (Int32 × St) := it (fun (kb : (St × Int32) → Option (Int32 × St)) (t : St × Int32) => fX12_sum_L5 rec (fun σ v1 => kb (σ, v1)) t.1 t.2) FU (σ, v1)
def fX12_sum_B (rec : St → Option (Int32 × St)) (σ : St) : Option (Int32 × St) :=
  (fX12_term_B rec σ).bind fun r1 => fX12_sum_P5 rec r1.2 r1.1
def fX12_atom_L90 (rec : St → Option (Int32 × St)) (k1 : St → Option (Int32 × St)) (kb : St → Int32 → Int32 → Option (Int32 × St)) (σ : St) (v2 : Int32) (v3 : Int32) : Option (Int32 × St) :=
  (fX12_isDigit σ).bind fun x4 => if (bi x4) = 0 then (some (v2, σ))
  else (if (zI σ 38) = (-1 : Int32) then (if v3 = (4 : Int32) then (k1 σ)
  else ((rd (zA σ (zR σ 3)) (lenY (zR σ 3)) ((zI σ 35) + (zI σ 37))).bind fun x5 => (some (((((10 : Int32) * v2) + x5) - (48 : Int32)))).bind fun x6 => (some (uI σ 37 ((zI σ 37) + (1 : Int32)))).bind fun s7 => kb s7 x6 (v3 + (1 : Int32))))
  else (some (v2, σ)))
def fX12_atom_P90 (rec : St → Option (Int32 × St)) (k1 : St → Option (Int32 × St)) (σ : St) (v2 : Int32) (v3 : Int32) : Option (Int32 × St) := it (fun (kb : (St × Int32 × Int32) → Option (Int32 × St)) (t : St × Int32 × Int32) => fX12_atom_L90 rec k1 (fun σ v2 v3 => kb (σ, v2, v3)) t.1 t.2.1 t.2.2) FU (σ, v2, v3)
def fX12_atom_J86 (rec : St → Option (Int32 × St)) (σ : St) : Option (Int32 × St) :=
  fX12_atom_P90 rec (fun s8 => (fX12_fails s8).bind fun r9 => some ((0 : Int32), r9.2)) σ (0 : Int32) (0 : Int32)
def fX12_atom_B (rec : St → Option (Int32 × St)) (σ : St) : Option (Int32 × St) :=
  (fX12_look σ).bind fun r1 => (fX12_isAmong_201 r1.1).bind fun x2 => if (bi x2) = 0 then (if r1.1 = (91 : Int32) then ((fX12_goesIn r1.2).bind fun r11 => if (bi r11.1) = 0 then (some ((0 : Int32), r11.2))
  else ((fX12_sum_B rec r11.2).bind fun r12 => (fX12_takes r12.2 (93 : Int32)).bind fun r13 => if (bi r13.1) = 0 then (some ((0 : Int32), r13.2))
  else ((some (uI r13.2 39 ((zI r13.2 39) - (1 : Int32)))).bind fun s14 => some (r12.1, s14))))
  else ((fX12_isDigit r1.2).bind fun x3 => if (bi x3) = 0 then ((fX12_fails r1.2).bind fun r10 => fX12_atom_J86 rec r10.2)
  else (fX12_atom_J86 rec r1.2)))
  else ((some (uI r1.2 37 ((zI r1.2 37) + (1 : Int32)))).bind fun s15 => (rd (zA s15 59) 128 r1.1).bind fun x16 => some (x16, s15))
def fX12_atom : Nat → St → Option (Int32 × St)
  | 0 => fun _ => none
  | d + 1 => fX12_atom_B (fX12_atom d)
def fX12_term (d : Nat) (σ : St) : Option (Int32 × St) := fX12_term_B (fX12_atom d) σ
def fX12_sum (d : Nat) (σ : St) : Option (Int32 × St) := fX12_sum_B (fX12_atom d) σ
def fX12_back_L37 (kb : St → Int32 → Option (Int32 × St)) (σ : St) (v1 : Int32) : Option (Int32 × St) :=
  if (zI σ 48) ≤ v1 then (some (((zI σ 32) + (zI σ 48)), σ))
  else ((rd (zA σ 78) 96 v1).bind fun x6 => nz (16 : Int32) (if (x6 / (16 : Int32)) < (zI σ 32) then (kb σ (v1 + (1 : Int32)))
  else ((some (uI σ 48 v1)).bind fun s7 => kb s7 (v1 + (1 : Int32)))))
def fX12_back_P37 (σ : St) (v1 : Int32) : Option (Int32 × St) := it (fun (kb : (St × Int32) → Option (Int32 × St)) (t : St × Int32) => fX12_back_L37 (fun σ v1 => kb (σ, v1)) t.1 t.2) FU (σ, v1)
def fX12_back (σ : St) : Option (Int32 × St) :=
  (some (uI σ 30 (0 : Int32))).bind fun s1 => (fJ9_min_7cf53 (zI s1 32) (zI s1 51)).bind fun x2 => (some (uI s1 32 x2)).bind fun s3 => (fJ9_min_7cf53 (zI s3 48) (zI s3 52)).bind fun x4 => (some (uI s3 48 x4)).bind fun s5 => fX12_back_P37 s5 (0 : Int32)
def fX12_isPlot (σ : St) (p0 : Int32) : Option Bool :=
  if p0 < 0 then (some false)
  else (if (zI σ 33) ≤ p0 then (some false)
  else (some true))
def fX12_isIn (p0 : Int32) (p1 : Int32) (p2 : Int32) : Option Bool :=
  if p0 < p1 then (some false)
  else (if p2 < p0 then (some false)
  else (some true))
def fX12_partsOf_L4 (v1 : Int32) (kb : Int32 → Int32 → Option Int32) (σ : St) (v2 : Int32) (v3 : Int32) : Option Int32 :=
  (rd (zA σ 67) 5 v1).bind fun x1 => if x1 ≤ v3 then (some v2)
  else ((rd (zA σ 68) 100 (((20 : Int32) * v1) + v3)).bind fun x2 => (some ((v2 ||| x2))).bind fun x3 => kb x3 (v3 + (1 : Int32)))
def fX12_partsOf_P4 (v1 : Int32) (σ : St) (v2 : Int32) (v3 : Int32) : Option Int32 := it (fun (kb : (Int32 × Int32) → Option Int32) (t : Int32 × Int32) => fX12_partsOf_L4 v1 (fun v2 v3 => kb (v2, v3)) σ t.1 t.2) FU (v2, v3)
def fX12_partsOf (σ : St) (p0 : Int32) : Option Int32 :=
  fX12_partsOf_P4 p0 σ (0 : Int32) (0 : Int32)
def fX12_has (p0 : Int32) (p1 : Int32) : Option Bool :=
  if ((p0 >>> (p1 &&& 31)) &&& (1 : Int32)) = (1 : Int32) then (some true)
  else (some false)
def fX12_isPart (σ : St) (p0 : Int32) (p1 : Int32) : Option Bool :=
  (fX12_isPlot σ p0).bind fun x1 => if (bi x1) = 0 then (some false)
  else ((fX12_isIn p1 (0 : Int32) (9 : Int32)).bind fun x2 => if (bi x2) = 0 then (some false)
  else ((fX12_partsOf σ p0).bind fun x3 => (fX12_has x3 p1).bind fun x4 => if (bi x4) = 0 then (some false)
  else (some true)))
def fJ9_abs_0f7a4 (p0 : Int32) : Option Int32 :=
  if 0 ≤ p0 then (some p0)
  else (some (-p0))
def fX12_barsIt_L38 (v1 : Int32) (v2 : Int32) (v3 : Int32) (v4 : Int32) (v5 : Int32) (k1 : Unit → Option Bool) (kb : Int32 → Option Bool) (σ : St) (v6 : Int32) : Option Bool :=
  (rd (zA σ 67) 5 v1).bind fun x4 => if x4 ≤ v6 then (k1 ())
  else ((fJ9_abs_0f7a4 (v5 - v6)).bind fun x5 => if v4 < x5 then (kb (v6 + (1 : Int32)))
  else ((rd (zA σ 68) 100 (((20 : Int32) * v1) + v5)).bind fun x6 => (fX12_has x6 v2).bind fun x7 => if (bi x7) = 0 then (kb (v6 + (1 : Int32)))
  else ((rd (zA σ 68) 100 (((20 : Int32) * v1) + v6)).bind fun x8 => (fX12_has x8 v3).bind fun x9 => if (bi x9) = 0 then (kb (v6 + (1 : Int32)))
  else (some true))))
def fX12_barsIt_P38 (v1 : Int32) (v2 : Int32) (v3 : Int32) (v4 : Int32) (v5 : Int32) (k1 : Unit → Option Bool) (σ : St) (v6 : Int32) : Option Bool := it (fun (kb : Int32 → Option Bool) (t : Int32) => fX12_barsIt_L38 v1 v2 v3 v4 v5 k1 (fun v6 => kb v6) σ t) FU v6
def fX12_barsIt_L24 (v1 : Int32) (v2 : Int32) (v3 : Int32) (v4 : Int32) (kb : Int32 → Option Bool) (σ : St) (v5 : Int32) : Option Bool :=
  (rd (zA σ 67) 5 v1).bind fun x3 => if x3 ≤ v5 then (some false)
  else (fX12_barsIt_P38 v1 v2 v3 v4 v5 (fun _u => kb (v5 + (1 : Int32))) σ (0 : Int32))
def fX12_barsIt_P24 (v1 : Int32) (v2 : Int32) (v3 : Int32) (v4 : Int32) (σ : St) (v5 : Int32) : Option Bool := it (fun (kb : Int32 → Option Bool) (t : Int32) => fX12_barsIt_L24 v1 v2 v3 v4 (fun v5 => kb v5) σ t) FU v5
def fX12_barsIt (σ : St) (p0 : Int32) (p1 : Int32) (p2 : Int32) (p3 : Int32) : Option Bool :=
  (fX12_has (zI σ 50) p1).bind fun x1 => (fX12_has (zI σ 50) p2).bind fun x2 => if (bi x1) = (bi x2) then (fX12_barsIt_P24 p0 p1 p2 p3 σ (0 : Int32))
  else (some false)
def fX12_bars (σ : St) (p0 : Int32) (p1 : Int32) (p2 : Int32) (p3 : Int32) : Option (Int32 × St) :=
  (some (uI σ 30 (0 : Int32))).bind fun s1 => (fX12_isPart s1 p0 p1).bind fun x2 => if (bi x2) = 0 then (some ((-1 : Int32), s1))
  else ((fX12_isPart s1 p0 p2).bind fun x3 => if (bi x3) = 0 then (some ((-1 : Int32), s1))
  else (if p1 = p2 then (some ((-1 : Int32), s1))
  else ((fX12_isIn p3 (0 : Int32) (3 : Int32)).bind fun x4 => if (bi x4) = 0 then (some ((-1 : Int32), s1))
  else ((fX12_barsIt s1 p0 p1 p2 p3).bind fun x5 => if (bi x5) = 0 then (some ((0 : Int32), s1))
  else (some ((1 : Int32), s1))))))
def fX12_boys (σ : St) (p0 : Int32) : Option (Bool × St) :=
  (some (uI σ 30 (0 : Int32))).bind fun s1 => (fX12_isIn p0 (0 : Int32) (1023 : Int32)).bind fun x2 => if (bi x2) = 0 then (some (false, s1))
  else ((some (uI s1 50 p0)).bind fun s3 => some (true, s3))
def fX12_bytesIn_L5 (v0 : Int32) (kb : Int32 → Int32 → Option Int32) (v1 : Int32) (v2 : Int32) : Option Int32 :=
  if v2 < 0 then (some v1)
  else (if ((v0 >>> (v2 &&& 31)) &&& (255 : Int32)) = 0 then ((some ((v1 + (0 : Int32)))).bind fun x1 => kb x1 (v2 + (-8 : Int32)))
  else ((some ((v1 + (1 : Int32)))).bind fun x2 => kb x2 (v2 + (-8 : Int32))))
def fX12_bytesIn_P5 (v0 : Int32) (v1 : Int32) (v2 : Int32) : Option Int32 := it (fun (kb : (Int32 × Int32) → Option Int32) (t : Int32 × Int32) => fX12_bytesIn_L5 v0 (fun v1 v2 => kb (v1, v2)) t.1 t.2) FU (v1, v2)
def fX12_bytesIn (p0 : Int32) : Option Int32 :=
  fX12_bytesIn_P5 p0 (0 : Int32) (24 : Int32)
def fX12_dress_L46 (rec : St → Int32 → Int32 → Int32 → Int32 → Int32 → Option (Bool × St)) (v1 : Int32) (v2 : Int32) (v3 : Int32) (v4 : Int32) (v5 : Int32) (v6 : Int32) (k1 : Int32 → Option (Bool × St)) (kb : Int32 → Int32 → Option (Bool × St)) (σ : St) (v7 : Int32) (v8 : Int32) : Option (Bool × St) :=
  if v3 ≤ v8 then (k1 v7)
  else (if v7 = 0 then (kb (0 : Int32) (v8 + (1 : Int32)))
  else ((fX12_has v2 v8).bind fun x2 => if (bi x2) = 0 then (kb (1 : Int32) (v8 + (1 : Int32)))
  else ((rd (zA σ 82) 10 v8).bind fun x3 => if x3 = v6 then ((fX12_has (zI σ 50) v8).bind fun x4 => (fX12_has (zI σ 50) v3).bind fun x5 => if (bi x4) = (bi x5) then ((fX12_barsIt σ v1 v8 v3 v5).bind fun x6 => if (bi x6) = 0 then (kb (1 : Int32) (v8 + (1 : Int32)))
  else (kb (0 : Int32) (v8 + (1 : Int32))))
  else (kb (0 : Int32) (v8 + (1 : Int32))))
  else (kb (1 : Int32) (v8 + (1 : Int32))))))
def fX12_dress_P46 (rec : St → Int32 → Int32 → Int32 → Int32 → Int32 → Option (Bool × St)) (v1 : Int32) (v2 : Int32) (v3 : Int32) (v4 : Int32) (v5 : Int32) (v6 : Int32) (k1 : Int32 → Option (Bool × St)) (σ : St) (v7 : Int32) (v8 : Int32) : Option (Bool × St) := it (fun (kb : (Int32 × Int32) → Option (Bool × St)) (t : Int32 × Int32) => fX12_dress_L46 rec v1 v2 v3 v4 v5 v6 k1 (fun v7 v8 => kb (v7, v8)) σ t.1 t.2) FU (v7, v8)
def fX12_dress_L33 (rec : St → Int32 → Int32 → Int32 → Int32 → Int32 → Option (Bool × St)) (v1 : Int32) (v2 : Int32) (v3 : Int32) (v4 : Int32) (v5 : Int32) (kb : St → Int32 → Option (Bool × St)) (σ : St) (v6 : Int32) : Option (Bool × St) :=
  if v4 ≤ v6 then (some (false, σ))
  else (fX12_dress_P46 rec v1 v2 v3 v4 v5 v6 (fun x7 => if x7 = 0 then (kb σ (v6 + (1 : Int32)))
  else (wr 10 v3 ((some (uA σ 82 (upd (zA σ 82) (Int32.toNatClampNeg v3) v6))).bind fun s8 => (rec s8 v1 v2 (v3 + (1 : Int32)) v4 v5).bind fun r9 => if (bi r9.1) = 0 then (kb r9.2 (v6 + (1 : Int32)))
  else (some (true, r9.2))))) σ (1 : Int32) (0 : Int32))
def fX12_dress_P33 (rec : St → Int32 → Int32 → Int32 → Int32 → Int32 → Option (Bool × St)) (v1 : Int32) (v2 : Int32) (v3 : Int32) (v4 : Int32) (v5 : Int32) (σ : St) (v6 : Int32) : Option (Bool × St) := it (fun (kb : (St × Int32) → Option (Bool × St)) (t : St × Int32) => fX12_dress_L33 rec v1 v2 v3 v4 v5 (fun σ v6 => kb (σ, v6)) t.1 t.2) FU (σ, v6)
def fX12_dress_B (rec : St → Int32 → Int32 → Int32 → Int32 → Int32 → Option (Bool × St)) (σ : St) (p0 : Int32) (p1 : Int32) (p2 : Int32) (p3 : Int32) (p4 : Int32) : Option (Bool × St) :=
  if p2 = (10 : Int32) then (some (true, σ))
  else ((fX12_has p1 p2).bind fun x1 => if (bi x1) = 0 then ((rec σ p0 p1 (p2 + (1 : Int32)) p3 p4).bind fun r10 => some (r10.1, r10.2))
  else (fX12_dress_P33 rec p0 p1 p2 p3 p4 σ (0 : Int32)))
def fX12_dress : Nat → St → Int32 → Int32 → Int32 → Int32 → Int32 → Option (Bool × St)
  | 0 => fun _ _ _ _ _ _ => none
  | d + 1 => fX12_dress_B (fX12_dress d)
def fX12_need_L3 (v1 : Int32) (v2 : Int32) (v3 : Int32) (kb : St → Int32 → Option (Int32 × St)) (σ : St) (v4 : Int32) : Option (Int32 × St) :=
  (fX12_dress 12 σ v1 v2 (0 : Int32) v4 v3).bind fun r1 => if (bi r1.1) = 0 then (kb r1.2 (v4 + (1 : Int32)))
  else (some (v4, r1.2))
def fX12_need_P3 (v1 : Int32) (v2 : Int32) (v3 : Int32) (σ : St) (v4 : Int32) : Option (Int32 × St) := it (fun (kb : (St × Int32) → Option (Int32 × St)) (t : St × Int32) => fX12_need_L3 v1 v2 v3 (fun σ v4 => kb (σ, v4)) t.1 t.2) FU (σ, v4)
def fX12_need (σ : St) (p0 : Int32) (p1 : Int32) (p2 : Int32) : Option (Int32 × St) :=
  fX12_need_P3 p0 p1 p2 σ (0 : Int32)
def fX12_cast (σ : St) (p0 : Int32) (p1 : Int32) (p2 : Int32) : Option (Int32 × St) :=
  (some (uI σ 30 (0 : Int32))).bind fun s1 => (fX12_isPlot s1 p0).bind fun x2 => if (bi x2) = 0 then (some ((-1 : Int32), s1))
  else ((fX12_isIn p2 (0 : Int32) (3 : Int32)).bind fun x3 => if (bi x3) = 0 then (some ((-1 : Int32), s1))
  else (if p1 = (-1 : Int32) then ((fX12_partsOf s1 p0).bind fun x4 => (fX12_need s1 p0 x4 p2).bind fun r5 => if p1 = (-1 : Int32) then (some (r5.1, r5.2))
  else ((rd (zA r5.2 82) 10 p1).bind fun x6 => some (x6, r5.2)))
  else ((fX12_isPart s1 p0 p1).bind fun x7 => if (bi x7) = 0 then (some ((-1 : Int32), s1))
  else ((fX12_partsOf s1 p0).bind fun x8 => (fX12_need s1 p0 x8 p2).bind fun r9 => if p1 = (-1 : Int32) then (some (r9.1, r9.2))
  else ((rd (zA r9.2 82) 10 p1).bind fun x10 => some (x10, r9.2))))))
def fJ0_coder_7d493_200 : Option Int32 :=
  if (1 : Int32) = 0 then (some (1 : Int32))
  else (some (0 : Int32))
def fJ0_length_8abf5_200 : Option Int32 :=
  (fJ0_coder_7d493_200).bind fun x1 => some ((1 : Int32) >>> (x1 &&& 31))
def fJ0_isLatin1_aae02_200 : Option Bool :=
  if (1 : Int32) = 0 then (some false)
  else (if (0 : Int32) = 0 then (some true)
  else (some false))
def fJ1_charAt_3b067_210 (p1 : Int32) : Option Int32 :=
  (fJ0_checkIndex_df160 p1 (1 : Int32)).bind fun u1 => (rd (fun z => (strB.getD 0 []).getD z 0) (strL.getD 0 0) p1).bind fun x2 => some ((Int32.toUInt32 (x2 &&& (255 : Int32)) % 65536).toInt32)
def fJ0_charAt_5068e_200 (p0 : Int32) : Option Int32 :=
  (fJ0_isLatin1_aae02_200).bind fun x1 => if (bi x1) = 0 then (none)
  else ((fJ1_charAt_3b067_210 p0).bind fun x2 => chx x2)
def fX12_isAmong_200_L2 (v1 : Int32) (kb : Int32 → Option Bool) (v2 : Int32) : Option Bool :=
  (fJ0_length_8abf5_200).bind fun x1 => if x1 ≤ v2 then (some false)
  else ((fJ0_charAt_5068e_200 v2).bind fun x2 => if x2 = v1 then (some true)
  else (kb (v2 + (1 : Int32))))
def fX12_isAmong_200_P2 (v1 : Int32) (v2 : Int32) : Option Bool := it (fun (kb : Int32 → Option Bool) (t : Int32) => fX12_isAmong_200_L2 v1 (fun v2 => kb v2) t) FU v2
def fX12_isAmong_200 (p1 : Int32) : Option Bool :=
  fX12_isAmong_200_P2 p1 (0 : Int32)
def fX12_isSign (p0 : Int32) : Option Bool :=
  if p0 = (61 : Int32) then (some true)
  else (if p0 = (60 : Int32) then (some true)
  else (if p0 = (62 : Int32) then (some true)
  else (some false)))
def fX12_compares_J12 (σ : St) (t0 : Int32) : Option (Bool × St) :=
  if (zI σ 38) = (-1 : Int32) then ((fX12_look σ).bind fun r2 => (fX12_isSign r2.1).bind fun x3 => if (bi x3) = 0 then ((fX12_fails r2.2).bind fun r6 => some (r6.1, r6.2))
  else ((some (uI r2.2 37 ((zI r2.2 37) + (1 : Int32)))).bind fun s4 => (fX12_sum 8 s4).bind fun r5 => if r2.1 = (61 : Int32) then (if t0 = r5.1 then (some (true, r5.2))
  else (some (false, r5.2)))
  else (if r2.1 = (60 : Int32) then (if r5.1 ≤ t0 then (some (false, r5.2))
  else (some (true, r5.2)))
  else (if t0 ≤ r5.1 then (some (false, r5.2))
  else (some (true, r5.2))))))
  else (some (false, σ))
def fX12_compares (σ : St) (p0 : Int32) (p1 : Int32) : Option (Bool × St) :=
  if p0 = 0 then ((fX12_sum 8 σ).bind fun r1 => fX12_compares_J12 r1.2 r1.1)
  else (fX12_compares_J12 σ p1)
def fX12_part_L18 (rec : St → Option (Bool × St)) (kb : St → Int32 → Option (Bool × St)) (σ : St) (v3 : Int32) : Option (Bool × St) :=
  if (zI σ 38) = (-1 : Int32) then ((fX12_look σ).bind fun r2 => if r2.1 = (38 : Int32) then ((some (uI r2.2 37 ((zI r2.2 37) + (1 : Int32)))).bind fun s3 => (rec s3).bind fun r4 => if v3 = 0 then (kb r4.2 (0 : Int32))
  else (if (bi r4.1) = 0 then (kb r4.2 (0 : Int32))
  else (kb r4.2 (1 : Int32))))
  else ((zb v3).bind fun b => some (b, r2.2)))
  else ((zb v3).bind fun b => some (b, σ))
def fX12_part_P18 (rec : St → Option (Bool × St)) (σ : St) (v3 : Int32) : Option (Bool × St) := it (fun (kb : (St × Int32) → Option (Bool × St)) (t : St × Int32) => fX12_part_L18 rec (fun σ v3 => kb (σ, v3)) t.1 t.2) FU (σ, v3)
def fX12_part_B (rec : St → Option (Bool × St)) (σ : St) (p0 : Int32) (p1 : Int32) : Option (Bool × St) :=
  if p0 = 0 then ((rec σ).bind fun r1 => fX12_part_P18 rec r1.2 (bi r1.1))
  else ((fX12_compares σ (1 : Int32) p1).bind fun r5 => fX12_part_P18 rec r5.2 (bi r5.1))
def fX12_condition_L7 (rec : St → Option (Bool × St)) (kb : St → Int32 → Option (Bool × St)) (σ : St) (v3 : Int32) : Option (Bool × St) :=
  if (zI σ 38) = (-1 : Int32) then ((fX12_look σ).bind fun r2 => if r2.1 = (124 : Int32) then ((some (uI r2.2 37 ((zI r2.2 37) + (1 : Int32)))).bind fun s3 => (fX12_part_B rec s3 (0 : Int32) (0 : Int32)).bind fun r4 => if v3 = 0 then (if (bi r4.1) = 0 then (kb r4.2 (0 : Int32))
  else (kb r4.2 (1 : Int32)))
  else (kb r4.2 (1 : Int32)))
  else ((zb v3).bind fun b => some (b, r2.2)))
  else ((zb v3).bind fun b => some (b, σ))
def fX12_condition_P7 (rec : St → Option (Bool × St)) (σ : St) (v3 : Int32) : Option (Bool × St) := it (fun (kb : (St × Int32) → Option (Bool × St)) (t : St × Int32) => fX12_condition_L7 rec (fun σ v3 => kb (σ, v3)) t.1 t.2) FU (σ, v3)
def fX12_condition_B (rec : St → Option (Bool × St)) (σ : St) (p0 : Int32) (p1 : Int32) : Option (Bool × St) :=
  (fX12_part_B rec σ p0 p1).bind fun r1 => fX12_condition_P7 rec r1.2 (bi r1.1)
def fX12_unit_B (rec : St → Option (Bool × St)) (σ : St) : Option (Bool × St) :=
  (fX12_look σ).bind fun r1 => if r1.1 = (33 : Int32) then ((fX12_goesIn r1.2).bind fun r7 => if (bi r7.1) = 0 then (some (false, r7.2))
  else ((rec r7.2).bind fun r8 => (some (uI r8.2 39 ((zI r8.2 39) - (1 : Int32)))).bind fun s9 => if (bi r8.1) = 0 then (some (true, s9))
  else (some (false, s9))))
  else (if r1.1 = (40 : Int32) then ((fX12_goesIn r1.2).bind fun r3 => if (bi r3.1) = 0 then (some (false, r3.2))
  else ((fX12_condition_B rec r3.2 (0 : Int32) (0 : Int32)).bind fun r4 => (fX12_takes r4.2 (41 : Int32)).bind fun r5 => if (bi r5.1) = 0 then (some (false, r5.2))
  else ((some (uI r5.2 39 ((zI r5.2 39) - (1 : Int32)))).bind fun s6 => some (r4.1, s6))))
  else ((fX12_compares r1.2 (0 : Int32) (0 : Int32)).bind fun r2 => some (r2.1, r2.2)))
def fX12_unit : Nat → St → Option (Bool × St)
  | 0 => fun _ => none
  | d + 1 => fX12_unit_B (fX12_unit d)
def fX12_part (d : Nat) (σ : St) (p0 : Int32) (p1 : Int32) : Option (Bool × St) := fX12_part_B (fX12_unit d) σ p0 p1
def fX12_condition (d : Nat) (σ : St) (p0 : Int32) (p1 : Int32) : Option (Bool × St) := fX12_condition_B (fX12_unit d) σ p0 p1
def fX12_clause_J134 (σ : St) (v1 : Int32) (v2 : Int32) (v3 : Int32) : Option St :=
  if (zI σ 38) = (-1 : Int32) then (if (zI σ 42) = 0 then (if v1 = (zI σ 40) then (if v2 = 0 then (some σ)
  else ((some (uI σ 42 (1 : Int32))).bind fun s9 => (some (uI s9 41 v3)).bind fun s10 => some s10))
  else (some σ))
  else (some σ))
  else (some σ)
def fX12_clause (σ : St) : Option St :=
  (fX12_look σ).bind fun r1 => (fX12_isAmong_200 r1.1).bind fun x2 => if (bi x2) = 0 then ((fX12_fails r1.2).bind fun r20 => some r20.2)
  else ((some (uI r1.2 37 ((zI r1.2 37) + (1 : Int32)))).bind fun s3 => (fX12_takes s3 (58 : Int32)).bind fun r4 => if (bi r4.1) = 0 then (some r4.2)
  else ((fX12_look r4.2).bind fun r5 => if r5.1 = (33 : Int32) then ((fX12_condition 8 r5.2 (0 : Int32) (0 : Int32)).bind fun r6 => (fX12_takes r6.2 (63 : Int32)).bind fun r7 => if (bi r7.1) = 0 then (some r7.2)
  else ((fX12_sum 8 r7.2).bind fun r8 => fX12_clause_J134 r8.2 r1.1 (bi r6.1) r8.1))
  else (if r5.1 = (40 : Int32) then ((fX12_condition 8 r5.2 (0 : Int32) (0 : Int32)).bind fun r17 => (fX12_takes r17.2 (63 : Int32)).bind fun r18 => if (bi r18.1) = 0 then (some r18.2)
  else ((fX12_sum 8 r18.2).bind fun r19 => fX12_clause_J134 r19.2 r1.1 (bi r17.1) r19.1))
  else ((fX12_sum 8 r5.2).bind fun r11 => if (zI r11.2 38) = (-1 : Int32) then ((fX12_look r11.2).bind fun r12 => (fX12_isSign r12.1).bind fun x13 => if (bi x13) = 0 then (fX12_clause_J134 r12.2 r1.1 (1 : Int32) r11.1)
  else ((fX12_condition 8 r12.2 (1 : Int32) r11.1).bind fun r14 => (fX12_takes r14.2 (63 : Int32)).bind fun r15 => if (bi r15.1) = 0 then (some r15.2)
  else ((fX12_sum 8 r15.2).bind fun r16 => fX12_clause_J134 r16.2 r1.1 (bi r14.1) r16.1)))
  else (fX12_clause_J134 r11.2 r1.1 (1 : Int32) r11.1)))))
def fX12_could (σ : St) (p0 : Int32) (p1 : Int32) (p2 : Int32) (p3 : Int32) : Option (Int32 × St) :=
  (some (uI σ 30 (0 : Int32))).bind fun s1 => (fX12_isPlot s1 p0).bind fun x2 => if (bi x2) = 0 then (some ((-1 : Int32), s1))
  else ((fX12_isIn p1 (0 : Int32) (3 : Int32)).bind fun x3 => if (bi x3) = 0 then (some ((-1 : Int32), s1))
  else ((fX12_isIn p2 (0 : Int32) (10 : Int32)).bind fun x4 => if (bi x4) = 0 then (some ((-1 : Int32), s1))
  else ((fX12_isIn p3 (0 : Int32) (10 : Int32)).bind fun x5 => if (bi x5) = 0 then (some ((-1 : Int32), s1))
  else ((fX12_partsOf s1 p0).bind fun x6 => (fX12_need s1 p0 (x6 &&& ((zI s1 50) ^^^ (-1 : Int32))) p1).bind fun r7 => if p2 < r7.1 then (some ((0 : Int32), r7.2))
  else ((fX12_partsOf r7.2 p0).bind fun x8 => (fX12_need r7.2 p0 (x8 &&& (zI r7.2 50)) p1).bind fun r9 => if p3 < r9.1 then (some ((0 : Int32), r9.2))
  else (some ((1 : Int32), r9.2)))))))
def fX12_count_L69 (kb : Int32 → Int32 → Option (Int32 × St)) (σ : St) (v2 : Int32) (v3 : Int32) : Option (Int32 × St) :=
  if (zI σ 32) ≤ v3 then (some (v2, σ))
  else ((rd (zA σ 60) 9 v3).bind fun x2 => (some ((v2 + x2))).bind fun x3 => kb x3 (v3 + (1 : Int32)))
def fX12_count_P69 (σ : St) (v2 : Int32) (v3 : Int32) : Option (Int32 × St) := it (fun (kb : (Int32 × Int32) → Option (Int32 × St)) (t : Int32 × Int32) => fX12_count_L69 (fun v2 v3 => kb (v2, v3)) σ t.1 t.2) FU (v2, v3)
def fX12_count (σ : St) (p0 : Int32) : Option (Int32 × St) :=
  (some (uI σ 30 (0 : Int32))).bind fun s1 => if p0 = 0 then (some ((zI s1 32), s1))
  else (if p0 = 1 then (some ((zI s1 33), s1))
  else (if p0 = 2 then (some ((zI s1 34), s1))
  else (if p0 = 3 then (fX12_count_P69 s1 (0 : Int32) (0 : Int32))
  else (if p0 = 4 then (some ((zI s1 31), s1))
  else (if p0 = 5 then (some ((zI s1 45), s1))
  else (if p0 = 6 then (some ((zI s1 50), s1))
  else (some ((-1 : Int32), s1))))))))
def fX12_crowd_L29 (v1 : Int32) (v2 : Int32) (k1 : Int32 → Option (Int32 × St)) (kb : Int32 → Int32 → Option (Int32 × St)) (σ : St) (v3 : Int32) (v4 : Int32) : Option (Int32 × St) :=
  (rd (zA σ 67) 5 v1).bind fun x4 => if x4 ≤ v4 then (k1 v3)
  else ((rd (zA σ 68) 100 (((20 : Int32) * v1) + v4)).bind fun x5 => (fJ6_bitCount_0f7a4 x5).bind fun x6 => (rd (zA σ 68) 100 (((20 : Int32) * v1) + v3)).bind fun x7 => (fJ6_bitCount_0f7a4 x7).bind fun x8 => if x6 ≤ x8 then (kb v3 (v4 + (1 : Int32)))
  else (kb v4 (v4 + (1 : Int32))))
def fX12_crowd_P29 (v1 : Int32) (v2 : Int32) (k1 : Int32 → Option (Int32 × St)) (σ : St) (v3 : Int32) (v4 : Int32) : Option (Int32 × St) := it (fun (kb : (Int32 × Int32) → Option (Int32 × St)) (t : Int32 × Int32) => fX12_crowd_L29 v1 v2 k1 (fun v3 v4 => kb (v3, v4)) σ t.1 t.2) FU (v3, v4)
def fX12_crowd (σ : St) (p0 : Int32) (p1 : Int32) : Option (Int32 × St) :=
  (some (uI σ 30 (0 : Int32))).bind fun s1 => (fX12_isPlot s1 p0).bind fun x2 => if (bi x2) = 0 then (some ((-1 : Int32), s1))
  else ((fX12_isIn p1 (0 : Int32) (1 : Int32)).bind fun x3 => if (bi x3) = 0 then (some ((-1 : Int32), s1))
  else (fX12_crowd_P29 p0 p1 (fun x9 => if p1 = 0 then (some (x9, s1))
  else ((rd (zA s1 68) 100 (((20 : Int32) * p0) + x9)).bind fun x10 => (fJ6_bitCount_0f7a4 x10).bind fun x11 => some (x11, s1))) s1 (0 : Int32) (1 : Int32)))
def fX12_end (σ : St) (p0 : Int32) : Option (Bool × St) :=
  (some (uI σ 30 (0 : Int32))).bind fun s1 => if p0 < 0 then (some (false, s1))
  else (if p0 ≤ (zI s1 31) then ((some (uI s1 31 p0)).bind fun s2 => some (true, s2))
  else (some (false, s1)))
def fX12_isSpeech (σ : St) (p0 : Int32) : Option Bool :=
  if p0 < 0 then (some false)
  else (nz (16 : Int32) ((fX12_isRoll σ (p0 / (16 : Int32))).bind fun x1 => if (bi x1) = 0 then (some false)
  else (nz (16 : Int32) (nz (16 : Int32) ((rd (zA σ 60) 9 (p0 / (16 : Int32))).bind fun x2 => if x2 ≤ (p0 - p0 / (16 : Int32) * (16 : Int32)) then (some false)
  else (some true))))))
def fX12_letter (σ : St) (p0 : Int32) (p1 : Int32) : Option Int32 :=
  nz (16 : Int32) ((rd (zA σ 56) 1800 (((200 : Int32) * (p0 / (16 : Int32))) + p1)).bind fun x1 => some x1)
def fX12_isWord_L30 (v1 : Int32) (v2 : Int32) (v3 : Int32) (v4 : Int32) (kb : Int32 → Option Bool) (σ : St) (v5 : Int32) : Option Bool :=
  (rd (zA σ 64) 288 (((2 : Int32) * v1) + v2)).bind fun x3 => if x3 ≤ v5 then (some true)
  else ((rd (zA σ 63) 288 (((2 : Int32) * v1) + v2)).bind fun x4 => (fX12_letter σ v1 (x4 + v5)).bind fun x5 => (rd (zA σ 65) 1728 (((12 : Int32) * v3) + v4)).bind fun x6 => (fX12_letter σ v3 (x6 + v5)).bind fun x7 => if x5 = x7 then (kb (v5 + (1 : Int32)))
  else (some false))
def fX12_isWord_P30 (v1 : Int32) (v2 : Int32) (v3 : Int32) (v4 : Int32) (σ : St) (v5 : Int32) : Option Bool := it (fun (kb : Int32 → Option Bool) (t : Int32) => fX12_isWord_L30 v1 v2 v3 v4 (fun v5 => kb v5) σ t) FU v5
def fX12_isWord (σ : St) (p0 : Int32) (p1 : Int32) (p2 : Int32) (p3 : Int32) : Option Bool :=
  (rd (zA σ 64) 288 (((2 : Int32) * p0) + p1)).bind fun x1 => (rd (zA σ 66) 1728 (((12 : Int32) * p2) + p3)).bind fun x2 => if x1 = x2 then (fX12_isWord_P30 p0 p1 p2 p3 σ (0 : Int32))
  else (some false)
def fX12_endsIt_L26 (v1 : Int32) (v2 : Int32) (v3 : Int32) (kb : Int32 → Option Bool) (σ : St) (v4 : Int32) : Option Bool :=
  if v3 ≤ v4 then (some true)
  else ((rd (zA σ 62) 144 v2).bind fun x3 => (fX12_isWord σ v1 v4 v2 ((x3 - v3) + v4)).bind fun x4 => if (bi x4) = 0 then (some false)
  else (kb (v4 + (1 : Int32))))
def fX12_endsIt_P26 (v1 : Int32) (v2 : Int32) (v3 : Int32) (σ : St) (v4 : Int32) : Option Bool := it (fun (kb : Int32 → Option Bool) (t : Int32) => fX12_endsIt_L26 v1 v2 v3 (fun v4 => kb v4) σ t) FU v4
def fX12_endsIt (σ : St) (p0 : Int32) (p1 : Int32) : Option Bool :=
  (rd (zA σ 61) 144 p0).bind fun x1 => if x1 = 0 then (some false)
  else ((rd (zA σ 62) 144 p1).bind fun x2 => if x1 ≤ x2 then (fX12_endsIt_P26 p0 p1 x1 σ (0 : Int32))
  else (some false))
def fX12_ends (σ : St) (p0 : Int32) (p1 : Int32) : Option (Int32 × St) :=
  (some (uI σ 30 (0 : Int32))).bind fun s1 => (fX12_isSpeech s1 p0).bind fun x2 => if (bi x2) = 0 then (some ((-1 : Int32), s1))
  else ((fX12_isSpeech s1 p1).bind fun x3 => if (bi x3) = 0 then (some ((-1 : Int32), s1))
  else ((fX12_endsIt s1 p0 p1).bind fun x4 => if (bi x4) = 0 then (some ((0 : Int32), s1))
  else (some ((1 : Int32), s1))))
def fX12_layTexts_L30 (v1 : Int32) (v2 : Int32) (v3 : Int32) (k1 : St → Option St) (kb : St → Int32 → Option St) (σ : St) (v4 : Int32) : Option St :=
  (rd (zA σ 64) 288 (((2 : Int32) * v1) + v3)).bind fun x3 => if x3 ≤ v4 then (k1 σ)
  else ((rd (zA σ 63) 288 (((2 : Int32) * v1) + v3)).bind fun x4 => (fX12_letter σ v1 (x4 + v4)).bind fun x5 => (fX12_addOne σ x5).bind fun s6 => kb s6 (v4 + (1 : Int32)))
def fX12_layTexts_P30 (v1 : Int32) (v2 : Int32) (v3 : Int32) (k1 : St → Option St) (σ : St) (v4 : Int32) : Option St := it (fun (kb : (St × Int32) → Option St) (t : St × Int32) => fX12_layTexts_L30 v1 v2 v3 k1 (fun σ v4 => kb (σ, v4)) t.1 t.2) FU (σ, v4)
def fX12_layTexts_L7 (v1 : Int32) (v2 : Int32) (k1 : St → Option St) (kb : St → Int32 → Option St) (σ : St) (v3 : Int32) : Option St :=
  (rd (zA σ 61) 144 v1).bind fun x2 => if x2 ≤ v3 then (k1 σ)
  else (if v3 ≤ 0 then (fX12_layTexts_P30 v1 v2 v3 (fun s7 => kb s7 (v3 + (1 : Int32))) σ (0 : Int32))
  else ((fX12_addOne σ (32 : Int32)).bind fun s8 => fX12_layTexts_P30 v1 v2 v3 (fun s9 => kb s9 (v3 + (1 : Int32))) s8 (0 : Int32)))
def fX12_layTexts_P7 (v1 : Int32) (v2 : Int32) (k1 : St → Option St) (σ : St) (v3 : Int32) : Option St := it (fun (kb : (St × Int32) → Option St) (t : St × Int32) => fX12_layTexts_L7 v1 v2 k1 (fun σ v3 => kb (σ, v3)) t.1 t.2) FU (σ, v3)
def fX12_layTexts_L131 (v2 : Int32) (v3 : Int32) (v4 : Int32) (k1 : St → Option St) (kb : St → Int32 → Option St) (σ : St) (v5 : Int32) : Option St :=
  (rd (zA σ 66) 1728 (((12 : Int32) * v2) + v4)).bind fun x16 => if x16 ≤ v5 then (k1 σ)
  else ((rd (zA σ 65) 1728 (((12 : Int32) * v2) + v4)).bind fun x17 => (fX12_letter σ v2 (x17 + v5)).bind fun x18 => (fX12_addOther σ x18).bind fun s19 => kb s19 (v5 + (1 : Int32)))
def fX12_layTexts_P131 (v2 : Int32) (v3 : Int32) (v4 : Int32) (k1 : St → Option St) (σ : St) (v5 : Int32) : Option St := it (fun (kb : (St × Int32) → Option St) (t : St × Int32) => fX12_layTexts_L131 v2 v3 v4 k1 (fun σ v5 => kb (σ, v5)) t.1 t.2) FU (σ, v5)
def fX12_layTexts_L105 (v2 : Int32) (v3 : Int32) (kb : St → Int32 → Option St) (σ : St) (v4 : Int32) : Option St :=
  (rd (zA σ 62) 144 v2).bind fun x15 => if x15 ≤ v4 then (some σ)
  else (if v4 ≤ v3 then (fX12_layTexts_P131 v2 v3 v4 (fun s20 => kb s20 (v4 + (1 : Int32))) σ (0 : Int32))
  else ((fX12_addOther σ (32 : Int32)).bind fun s21 => fX12_layTexts_P131 v2 v3 v4 (fun s22 => kb s22 (v4 + (1 : Int32))) s21 (0 : Int32)))
def fX12_layTexts_P105 (v2 : Int32) (v3 : Int32) (σ : St) (v4 : Int32) : Option St := it (fun (kb : (St × Int32) → Option St) (t : St × Int32) => fX12_layTexts_L105 v2 v3 (fun σ v4 => kb (σ, v4)) t.1 t.2) FU (σ, v4)
def fX12_layTexts (σ : St) (p0 : Int32) (p1 : Int32) : Option St :=
  (some (uI σ 43 (0 : Int32))).bind fun s1 => fX12_layTexts_P7 p0 p1 (fun s10 => (some (uI s10 44 (0 : Int32))).bind fun s11 => (rd (zA s11 62) 144 p1).bind fun x12 => (rd (zA s11 61) 144 p0).bind fun x13 => (fJ9_max_7cf53 (0 : Int32) (x12 - x13)).bind fun x14 => fX12_layTexts_P105 p1 x14 s11 x14) s1 (0 : Int32)
def fX12_farOf_J38 (kb : St → Int32 → Option (Int32 × St)) (σ : St) (v3 : Int32) (v4 : Int32) (t0 : Int32) : Option (Int32 × St) :=
  if v3 ≤ 0 then (wr 441 (((21 : Int32) * v3) + v4) ((some (uA σ 72 (upd (zA σ 72) (Int32.toNatClampNeg (((21 : Int32) * v3) + v4)) t0))).bind fun s2 => kb s2 (v4 + (1 : Int32))))
  else (if v4 ≤ 0 then (wr 441 (((21 : Int32) * v3) + v4) ((some (uA σ 72 (upd (zA σ 72) (Int32.toNatClampNeg (((21 : Int32) * v3) + v4)) t0))).bind fun s3 => kb s3 (v4 + (1 : Int32))))
  else ((rd (zA σ 72) 441 ((((21 : Int32) * (v3 - (1 : Int32))) + v4) - (1 : Int32))).bind fun x4 => (rd (zA σ 70) 20 (v3 - (1 : Int32))).bind fun x5 => (rd (zA σ 71) 20 (v4 - (1 : Int32))).bind fun x6 => if x5 = x6 then ((some ((x4 + (0 : Int32)))).bind fun x13 => (rd (zA σ 72) 441 (((21 : Int32) * (v3 - (1 : Int32))) + v4)).bind fun x14 => (rd (zA σ 72) 441 ((((21 : Int32) * v3) + v4) - (1 : Int32))).bind fun x15 => (fJ9_min_7cf53 x14 x15).bind fun x16 => (fJ9_min_7cf53 x13 ((1 : Int32) + x16)).bind fun x17 => wr 441 (((21 : Int32) * v3) + v4) ((some (uA σ 72 (upd (zA σ 72) (Int32.toNatClampNeg (((21 : Int32) * v3) + v4)) x17))).bind fun s18 => kb s18 (v4 + (1 : Int32))))
  else ((some ((x4 + (1 : Int32)))).bind fun x7 => (rd (zA σ 72) 441 (((21 : Int32) * (v3 - (1 : Int32))) + v4)).bind fun x8 => (rd (zA σ 72) 441 ((((21 : Int32) * v3) + v4) - (1 : Int32))).bind fun x9 => (fJ9_min_7cf53 x8 x9).bind fun x10 => (fJ9_min_7cf53 x7 ((1 : Int32) + x10)).bind fun x11 => wr 441 (((21 : Int32) * v3) + v4) ((some (uA σ 72 (upd (zA σ 72) (Int32.toNatClampNeg (((21 : Int32) * v3) + v4)) x11))).bind fun s12 => kb s12 (v4 + (1 : Int32))))))
def fX12_farOf_L19 (v3 : Int32) (k1 : St → Option (Int32 × St)) (kb : St → Int32 → Option (Int32 × St)) (σ : St) (v4 : Int32) : Option (Int32 × St) :=
  if (zI σ 44) < v4 then (k1 σ)
  else (if v3 = 0 then (fX12_farOf_J38 kb σ v3 v4 v4)
  else (fX12_farOf_J38 kb σ v3 v4 v3))
def fX12_farOf_P19 (v3 : Int32) (k1 : St → Option (Int32 × St)) (σ : St) (v4 : Int32) : Option (Int32 × St) := it (fun (kb : (St × Int32) → Option (Int32 × St)) (t : St × Int32) => fX12_farOf_L19 v3 k1 (fun σ v4 => kb (σ, v4)) t.1 t.2) FU (σ, v4)
def fX12_farOf_L8 (k1 : St → Option (Int32 × St)) (kb : St → Int32 → Option (Int32 × St)) (σ : St) (v3 : Int32) : Option (Int32 × St) :=
  if (zI σ 43) < v3 then (k1 σ)
  else (fX12_farOf_P19 v3 (fun s19 => kb s19 (v3 + (1 : Int32))) σ (0 : Int32))
def fX12_farOf_P8 (k1 : St → Option (Int32 × St)) (σ : St) (v3 : Int32) : Option (Int32 × St) := it (fun (kb : (St × Int32) → Option (Int32 × St)) (t : St × Int32) => fX12_farOf_L8 k1 (fun σ v3 => kb (σ, v3)) t.1 t.2) FU (σ, v3)
def fX12_farOf (σ : St) (p0 : Int32) (p1 : Int32) : Option (Int32 × St) :=
  (fX12_layTexts σ p0 p1).bind fun s1 => fX12_farOf_P8 (fun s20 => (rd (zA s20 72) 441 (((21 : Int32) * (zI s20 43)) + (zI s20 44))).bind fun x21 => some (x21, s20)) s1 (0 : Int32)
def fX12_far (σ : St) (p0 : Int32) (p1 : Int32) : Option (Int32 × St) :=
  (some (uI σ 30 (0 : Int32))).bind fun s1 => (fX12_isSpeech s1 p0).bind fun x2 => if (bi x2) = 0 then (some ((-1 : Int32), s1))
  else ((fX12_isSpeech s1 p1).bind fun x3 => if (bi x3) = 0 then (some ((-1 : Int32), s1))
  else ((rd (zA s1 61) 144 p0).bind fun x4 => if x4 = 0 then (some ((-1 : Int32), s1))
  else ((fX12_farOf s1 p0 p1).bind fun r5 => some (r5.1, r5.2))))
def fX12_begin_55 (σ : St) (p1 : Int32) (p2 : Int32) : Option St :=
  (some (uR σ 3 55)).bind fun s1 => (some (uI s1 35 p1)).bind fun s2 => (some (uI s2 36 p2)).bind fun s3 => (some (uI s3 37 (0 : Int32))).bind fun s4 => (some (uI s4 38 (-1 : Int32))).bind fun s5 => some s5
def fX12_goThrough_55_L32 (k1 : St → Option St) (kb : St → Option St) (σ : St) : Option St :=
  if (zI σ 38) = (-1 : Int32) then ((fX12_look σ).bind fun r7 => if r7.1 = (59 : Int32) then ((some (uI r7.2 37 ((zI r7.2 37) + (1 : Int32)))).bind fun s8 => (fX12_clause s8).bind fun s9 => kb s9)
  else (k1 r7.2))
  else (k1 σ)
def fX12_goThrough_55_P32 (k1 : St → Option St) (σ : St) : Option St := it (fun (kb : St → Option St) (t : St) => fX12_goThrough_55_L32 k1 (fun σ => kb σ) t) FU σ
def fX12_goThrough_55 (σ : St) (p1 : Int32) (p2 : Int32) : Option St :=
  (fX12_begin_55 σ p1 p2).bind fun s1 => (some (uI s1 40 (121 : Int32))).bind fun s2 => (some (uI s2 39 (0 : Int32))).bind fun s3 => (some (uI s3 42 (0 : Int32))).bind fun s4 => (some (uI s4 41 (0 : Int32))).bind fun s5 => (fX12_clause s5).bind fun s6 => fX12_goThrough_55_P32 (fun s10 => if (zI s10 38) = (-1 : Int32) then ((fX12_look s10).bind fun r11 => if r11.1 = (-1 : Int32) then (some r11.2)
  else ((fX12_fails r11.2).bind fun r12 => some r12.2))
  else (some s10)) s6
def fX12_readPlot_L34 (v1 : Int32) (k1 : St → Option St) (k2 : St → Int32 → Int32 → Option St) (kb : St → Int32 → Int32 → Option St) (σ : St) (v3 : Int32) (v4 : Int32) : Option St :=
  if v4 < (97 : Int32) then (k1 σ)
  else (if (106 : Int32) < v4 then (k1 σ)
  else ((fX12_has v3 (v4 - (97 : Int32))).bind fun x4 => if (bi x4) = 0 then ((some ((v3 ||| ((1 : Int32) <<< ((v4 - (97 : Int32)) &&& 31))))).bind fun x5 => (some (uI σ 37 ((zI σ 37) + (1 : Int32)))).bind fun s6 => (fX12_look s6).bind fun r7 => if r7.1 = (-1 : Int32) then (k2 r7.2 x5 r7.1)
  else (if r7.1 = (47 : Int32) then (k2 r7.2 x5 r7.1)
  else (kb r7.2 x5 r7.1)))
  else (k1 σ)))
def fX12_readPlot_P34 (v1 : Int32) (k1 : St → Option St) (k2 : St → Int32 → Int32 → Option St) (σ : St) (v3 : Int32) (v4 : Int32) : Option St := it (fun (kb : (St × Int32 × Int32) → Option St) (t : St × Int32 × Int32) => fX12_readPlot_L34 v1 k1 k2 (fun σ v3 v4 => kb (σ, v3, v4)) t.1 t.2.1 t.2.2) FU (σ, v3, v4)
def fX12_readPlot_J105 (k2 : St → Option St) (kb : St → Int32 → Option St) (σ : St) (v1 : Int32) (v3 : Int32) (v4 : Int32) : Option St :=
  (rd (zA σ 67) 5 v1).bind fun x12 => wr 100 (((20 : Int32) * v1) + x12) ((some (uA σ 68 (upd (zA σ 68) (Int32.toNatClampNeg (((20 : Int32) * v1) + x12)) v3))).bind fun s13 => (rd (zA s13 67) 5 v1).bind fun x14 => wr 5 v1 ((some (uA s13 67 (upd (zA s13 67) (Int32.toNatClampNeg v1) (x14 + (1 : Int32))))).bind fun s15 => if v4 = (47 : Int32) then (if (1 : Int32) = 0 then (if (1 : Int32) = 0 then (kb s15 (1 : Int32))
  else ((some (uI s15 37 ((zI s15 37) + (1 : Int32)))).bind fun s19 => kb s19 (1 : Int32)))
  else ((rd (zA s15 67) 5 v1).bind fun x20 => if x20 = (20 : Int32) then (k2 s15)
  else (if (1 : Int32) = 0 then (kb s15 (1 : Int32))
  else ((some (uI s15 37 ((zI s15 37) + (1 : Int32)))).bind fun s21 => kb s21 (1 : Int32)))))
  else (if (0 : Int32) = 0 then (if (0 : Int32) = 0 then (kb s15 (0 : Int32))
  else ((some (uI s15 37 ((zI s15 37) + (1 : Int32)))).bind fun s16 => kb s16 (0 : Int32)))
  else ((rd (zA s15 67) 5 v1).bind fun x17 => if x17 = (20 : Int32) then (k2 s15)
  else (if (0 : Int32) = 0 then (kb s15 (0 : Int32))
  else ((some (uI s15 37 ((zI s15 37) + (1 : Int32)))).bind fun s18 => kb s18 (0 : Int32)))))))
def fX12_readPlot_L22 (v1 : Int32) (k1 : St → Option St) (k2 : St → Option St) (kb : St → Int32 → Option St) (σ : St) (v2 : Int32) : Option St :=
  if v2 = 0 then (some σ)
  else ((fX12_look σ).bind fun r3 => fX12_readPlot_P34 v1 (fun s8 => k1 s8) (fun s9 x10 x11 => fX12_readPlot_J105 k2 kb s9 v1 x10 x11) r3.2 (0 : Int32) r3.1)
def fX12_readPlot_P22 (v1 : Int32) (k1 : St → Option St) (k2 : St → Option St) (σ : St) (v2 : Int32) : Option St := it (fun (kb : (St × Int32) → Option St) (t : St × Int32) => fX12_readPlot_L22 v1 k1 k2 (fun σ v2 => kb (σ, v2)) t.1 t.2) FU (σ, v2)
def fX12_readPlot (σ : St) (p0 : Int32) : Option St :=
  (fX12_begin_55 σ (0 : Int32) (zI σ 31)).bind fun s1 => wr 5 p0 ((some (uA s1 67 (upd (zA s1 67) (Int32.toNatClampNeg p0) (0 : Int32)))).bind fun s2 => fX12_readPlot_P22 p0 (fun s22 => (fX12_fails s22).bind fun r23 => some r23.2) (fun s24 => (fX12_fails s24).bind fun r25 => some r25.2) s2 (1 : Int32))
def fX12_isLetter (σ : St) : Option Bool :=
  if (zI σ 36) ≤ (zI σ 37) then (some false)
  else ((rd (zA σ (zR σ 3)) (lenY (zR σ 3)) ((zI σ 35) + (zI σ 37))).bind fun x1 => if x1 < (97 : Int32) then (some false)
  else ((rd (zA σ (zR σ 3)) (lenY (zR σ 3)) ((zI σ 35) + (zI σ 37))).bind fun x2 => if (122 : Int32) < x2 then (some false)
  else (some true)))
def fX12_readWord_L2 (k1 : St → Int32 → Option (Int32 × St)) (k2 : St → Int32 → Option (Int32 × St)) (kb : St → Int32 → Option (Int32 × St)) (σ : St) (v1 : Int32) : Option (Int32 × St) :=
  (fX12_isLetter σ).bind fun x1 => if (bi x1) = 0 then (k2 σ v1)
  else (if v1 = (8 : Int32) then (k1 σ v1)
  else ((some (uI σ 37 ((zI σ 37) + (1 : Int32)))).bind fun s2 => kb s2 (v1 + (1 : Int32))))
def fX12_readWord_P2 (k1 : St → Int32 → Option (Int32 × St)) (k2 : St → Int32 → Option (Int32 × St)) (σ : St) (v1 : Int32) : Option (Int32 × St) := it (fun (kb : (St × Int32) → Option (Int32 × St)) (t : St × Int32) => fX12_readWord_L2 k1 k2 (fun σ v1 => kb (σ, v1)) t.1 t.2) FU (σ, v1)
def fX12_readWord (σ : St) : Option (Int32 × St) :=
  fX12_readWord_P2 (fun s3 x4 => (fX12_fails s3).bind fun r5 => some (x4, r5.2)) (fun s6 x7 => if x7 = 0 then ((fX12_fails s6).bind fun r8 => some (x7, r8.2))
  else (some (x7, s6))) σ (0 : Int32)
def fX12_readCue_L29 (v1 : Int32) (k1 : St → Option St) (kb : St → Option St) (σ : St) : Option St :=
  (rd (zA σ 61) 144 v1).bind fun x3 => if x3 = (2 : Int32) then (k1 σ)
  else ((rd (zA σ 61) 144 v1).bind fun x4 => wr 288 (((2 : Int32) * v1) + x4) ((some (uA σ 63 (upd (zA σ 63) (Int32.toNatClampNeg (((2 : Int32) * v1) + x4)) (zI σ 37)))).bind fun s5 => (rd (zA s5 61) 144 v1).bind fun x6 => (fX12_readWord s5).bind fun r7 => wr 288 (((2 : Int32) * v1) + x6) ((some (uA r7.2 64 (upd (zA r7.2 64) (Int32.toNatClampNeg (((2 : Int32) * v1) + x6)) r7.1))).bind fun s8 => (rd (zA s8 61) 144 v1).bind fun x9 => wr 144 v1 ((some (uA s8 61 (upd (zA s8 61) (Int32.toNatClampNeg v1) (x9 + (1 : Int32))))).bind fun s10 => (fX12_look s10).bind fun r11 => if (zI r11.2 38) = (-1 : Int32) then ((fX12_isLetter r11.2).bind fun x12 => if (bi x12) = 0 then (some r11.2)
  else (kb r11.2))
  else (some r11.2)))))
def fX12_readCue_P29 (v1 : Int32) (k1 : St → Option St) (σ : St) : Option St := it (fun (kb : St → Option St) (t : St) => fX12_readCue_L29 v1 k1 (fun σ => kb σ) t) FU σ
def fX12_readCue (σ : St) (p0 : Int32) : Option St :=
  wr 144 p0 ((some (uA σ 61 (upd (zA σ 61) (Int32.toNatClampNeg p0) (0 : Int32)))).bind fun s1 => (fX12_look s1).bind fun r2 => if r2.1 = (45 : Int32) then ((some (uI r2.2 37 ((zI r2.2 37) + (1 : Int32)))).bind fun s15 => some s15)
  else (fX12_readCue_P29 p0 (fun s13 => (fX12_fails s13).bind fun r14 => some r14.2) r2.2))
def fX12_readSpeech_L12 (v1 : Int32) (k1 : St → Option St) (kb : St → Option St) (σ : St) : Option St :=
  (rd (zA σ 62) 144 v1).bind fun x3 => if x3 = (12 : Int32) then (k1 σ)
  else ((rd (zA σ 62) 144 v1).bind fun x4 => wr 1728 (((12 : Int32) * v1) + x4) ((some (uA σ 65 (upd (zA σ 65) (Int32.toNatClampNeg (((12 : Int32) * v1) + x4)) (zI σ 37)))).bind fun s5 => (rd (zA s5 62) 144 v1).bind fun x6 => (fX12_readWord s5).bind fun r7 => wr 1728 (((12 : Int32) * v1) + x6) ((some (uA r7.2 66 (upd (zA r7.2 66) (Int32.toNatClampNeg (((12 : Int32) * v1) + x6)) r7.1))).bind fun s8 => (rd (zA s8 62) 144 v1).bind fun x9 => wr 144 v1 ((some (uA s8 62 (upd (zA s8 62) (Int32.toNatClampNeg v1) (x9 + (1 : Int32))))).bind fun s10 => (fX12_look s10).bind fun r11 => if (zI r11.2 38) = (-1 : Int32) then ((fX12_isLetter r11.2).bind fun x12 => if (bi x12) = 0 then (some r11.2)
  else (kb r11.2))
  else (some r11.2)))))
def fX12_readSpeech_P12 (v1 : Int32) (k1 : St → Option St) (σ : St) : Option St := it (fun (kb : St → Option St) (t : St) => fX12_readSpeech_L12 v1 k1 (fun σ => kb σ) t) FU σ
def fX12_readSpeech (σ : St) (p0 : Int32) : Option St :=
  wr 144 p0 ((some (uA σ 62 (upd (zA σ 62) (Int32.toNatClampNeg p0) (0 : Int32)))).bind fun s1 => (fX12_look s1).bind fun r2 => fX12_readSpeech_P12 p0 (fun s13 => (fX12_fails s13).bind fun r14 => some r14.2) r2.2)
def fX12_readRoll_L22 (v1 : Int32) (k1 : St → Option St) (k2 : St → Option St) (kb : St → Int32 → Option St) (σ : St) (v2 : Int32) : Option St :=
  if v2 = 0 then (k2 σ)
  else ((rd (zA σ 60) 9 v1).bind fun x3 => (some ((((16 : Int32) * v1) + x3))).bind fun x4 => (fX12_readCue σ x4).bind fun s5 => (fX12_takes s5 (62 : Int32)).bind fun r6 => if (bi r6.1) = 0 then (some r6.2)
  else ((fX12_readSpeech r6.2 x4).bind fun s7 => if (zI s7 38) = (-1 : Int32) then ((rd (zA s7 60) 9 v1).bind fun x8 => wr 9 v1 ((some (uA s7 60 (upd (zA s7 60) (Int32.toNatClampNeg v1) (x8 + (1 : Int32))))).bind fun s9 => (fX12_look s9).bind fun r10 => if r10.1 = (59 : Int32) then (if (1 : Int32) = 0 then (if (1 : Int32) = 0 then (kb r10.2 (1 : Int32))
  else ((some (uI r10.2 37 ((zI r10.2 37) + (1 : Int32)))).bind fun s14 => kb s14 (1 : Int32)))
  else ((rd (zA r10.2 60) 9 v1).bind fun x15 => if x15 = (12 : Int32) then (k1 r10.2)
  else (if (1 : Int32) = 0 then (kb r10.2 (1 : Int32))
  else ((some (uI r10.2 37 ((zI r10.2 37) + (1 : Int32)))).bind fun s16 => kb s16 (1 : Int32)))))
  else (if (0 : Int32) = 0 then (if (0 : Int32) = 0 then (kb r10.2 (0 : Int32))
  else ((some (uI r10.2 37 ((zI r10.2 37) + (1 : Int32)))).bind fun s11 => kb s11 (0 : Int32)))
  else ((rd (zA r10.2 60) 9 v1).bind fun x12 => if x12 = (12 : Int32) then (k1 r10.2)
  else (if (0 : Int32) = 0 then (kb r10.2 (0 : Int32))
  else ((some (uI r10.2 37 ((zI r10.2 37) + (1 : Int32)))).bind fun s13 => kb s13 (0 : Int32)))))))
  else (some s7)))
def fX12_readRoll_P22 (v1 : Int32) (k1 : St → Option St) (k2 : St → Option St) (σ : St) (v2 : Int32) : Option St := it (fun (kb : (St × Int32) → Option St) (t : St × Int32) => fX12_readRoll_L22 v1 k1 k2 (fun σ v2 => kb (σ, v2)) t.1 t.2) FU (σ, v2)
def fX12_readRoll (σ : St) (p0 : Int32) : Option St :=
  (fX12_begin_55 σ (0 : Int32) (zI σ 31)).bind fun s1 => wr 9 p0 ((some (uA s1 60 (upd (zA s1 60) (Int32.toNatClampNeg p0) (0 : Int32)))).bind fun s2 => fX12_readRoll_P22 p0 (fun s17 => (fX12_fails s17).bind fun r18 => some r18.2) (fun s19 => (fX12_look s19).bind fun r20 => if r20.1 = (-1 : Int32) then (some r20.2)
  else ((fX12_fails r20.2).bind fun r21 => some r21.2)) s2 (1 : Int32))
def fX12_fault (σ : St) (p0 : Int32) : Option (Int32 × St) :=
  (some (uI σ 30 (0 : Int32))).bind fun s1 => (fX12_isIn p0 (0 : Int32) (2 : Int32)).bind fun x2 => if (bi x2) = 0 then (some ((-2 : Int32), s1))
  else (if p0 = 0 then ((fX12_readRoll s1 (8 : Int32)).bind fun s5 => some ((zI s5 38), s5))
  else (if p0 = (1 : Int32) then ((fX12_readPlot s1 (4 : Int32)).bind fun s4 => some ((zI s4 38), s4))
  else ((fX12_goThrough_55 s1 (0 : Int32) (zI s1 31)).bind fun s3 => some ((zI s3 38), s3))))
def fX12_put_L3 (v1 : Int32) (kb : St → Int32 → Option St) (σ : St) (v2 : Int32) : Option St :=
  if v2 < 0 then (some σ)
  else (if ((v1 >>> (v2 &&& 31)) &&& (255 : Int32)) = 0 then (kb σ (v2 + (-8 : Int32)))
  else (wr 200 (zI σ 31) ((some (uA σ 55 (upd (zA σ 55) (Int32.toNatClampNeg (zI σ 31)) (vp_nar .byte ((Int32.toInt8 (v1 >>> (v2 &&& 31))).toInt32))))).bind fun s1 => (some (uI s1 31 ((zI s1 31) + (1 : Int32)))).bind fun s2 => kb s2 (v2 + (-8 : Int32)))))
def fX12_put_P3 (v1 : Int32) (σ : St) (v2 : Int32) : Option St := it (fun (kb : (St × Int32) → Option St) (t : St × Int32) => fX12_put_L3 v1 (fun σ v2 => kb (σ, v2)) t.1 t.2) FU (σ, v2)
def fX12_put (σ : St) (p0 : Int32) : Option St :=
  fX12_put_P3 p0 σ (24 : Int32)
def fX12_feed (σ : St) (p0 : Int32) (p1 : Int32) (p2 : Int32) (p3 : Int32) (p4 : Int32) : Option (Int32 × St) :=
  (some (uI σ 30 (0 : Int32))).bind fun s1 => (fX12_bytesIn p0).bind fun x2 => (fX12_bytesIn p1).bind fun x3 => (fX12_bytesIn p2).bind fun x4 => (fX12_bytesIn p3).bind fun x5 => (fX12_bytesIn p4).bind fun x6 => if ((((((zI s1 31) + x2) + x3) + x4) + x5) + x6) ≤ (200 : Int32) then ((fX12_put s1 p0).bind fun s7 => (fX12_put s7 p1).bind fun s8 => (fX12_put s8 p2).bind fun s9 => (fX12_put s9 p3).bind fun s10 => (fX12_put s10 p4).bind fun s11 => some ((zI s11 31), s11))
  else (some ((-1 : Int32), s1))
def fX12_sizeOf (σ : St) (p0 : Int32) : Option Int32 :=
  (fX12_has (zI σ 47) p0).bind fun x1 => if (bi x1) = 0 then (some (0 : Int32))
  else ((rd (zA σ 60) 9 p0).bind fun x2 => some x2)
def fX12_isSmall_L26 (kb : St → Int32 → Int32 → Int32 → Option (Bool × St)) (σ : St) (v2 : Int32) (v3 : Int32) (v4 : Int32) : Option (Bool × St) :=
  if (8 : Int32) ≤ v4 then ((some (uI σ 46 v2)).bind fun s3 => some (true, s3))
  else (wr 9 v4 ((some (uA σ 73 (upd (zA σ 73) (Int32.toNatClampNeg v4) v2))).bind fun s4 => (fX12_isRoll s4 v4).bind fun x5 => if (bi x5) = 0 then (if (20001 : Int32) ≤ v2 then (some (false, s4))
  else (if v3 ≤ (20 : Int32) then (kb s4 v2 v3 (v4 + (1 : Int32)))
  else (some (false, s4))))
  else ((fX12_sizeOf s4 v4).bind fun x6 => (some ((v2 * (x6 + (1 : Int32))))).bind fun x7 => (fX12_sizeOf s4 v4).bind fun x8 => (some ((v3 + x8))).bind fun x9 => if (20001 : Int32) ≤ x7 then (some (false, s4))
  else (if x9 ≤ (20 : Int32) then (kb s4 x7 x9 (v4 + (1 : Int32)))
  else (some (false, s4))))))
def fX12_isSmall_P26 (σ : St) (v2 : Int32) (v3 : Int32) (v4 : Int32) : Option (Bool × St) := it (fun (kb : (St × Int32 × Int32 × Int32) → Option (Bool × St)) (t : St × Int32 × Int32 × Int32) => fX12_isSmall_L26 (fun σ v2 v3 v4 => kb (σ, v2, v3, v4)) t.1 t.2.1 t.2.2.1 t.2.2.2) FU (σ, v2, v3, v4)
def fX12_isSmall (σ : St) (p0 : Int32) : Option (Bool × St) :=
  (fX12_areRolls σ p0).bind fun x1 => if (bi x1) = 0 then (some (false, σ))
  else (if p0 = 0 then (some (false, σ))
  else ((some (uI σ 47 p0)).bind fun s2 => fX12_isSmall_P26 s2 (1 : Int32) (0 : Int32) (0 : Int32)))
def fX12_saidOf (σ : St) (p0 : Int32) (p1 : Int32) : Option Int32 :=
  (rd (zA σ 73) 9 p1).bind fun x1 => nz x1 ((fX12_sizeOf σ p1).bind fun x2 => nz (x2 + (1 : Int32)) (some ((p0 / x1) - (p0 / x1) / (x2 + (1 : Int32)) * (x2 + (1 : Int32)))))
def fX12_mayGo (σ : St) (p0 : Int32) (p1 : Int32) : Option Bool :=
  (fX12_isRoll σ p1).bind fun x1 => if (bi x1) = 0 then (some false)
  else ((fX12_saidOf σ p0 p1).bind fun x2 => (fX12_sizeOf σ p1).bind fun x3 => if x3 ≤ x2 then (some false)
  else (some true))
def fX12_gapOf (σ : St) (p0 : Int32) (p1 : Int32) (p2 : Int32) : Option Int32 :=
  (fX12_saidOf σ p0 p2).bind fun x1 => (some ((((16 : Int32) * p2) + x1))).bind fun x2 => if p1 = 0 then ((rd (zA σ 61) 144 x2).bind fun x5 => if x5 = 0 then (some (0 : Int32))
  else (some (1 : Int32)))
  else (if (p1 - (1 : Int32)) = p2 then (some (1 : Int32))
  else ((fX12_saidOf σ p0 (p1 - (1 : Int32))).bind fun x3 => (fX12_endsIt σ x2 ((((16 : Int32) * (p1 - (1 : Int32))) + x3) - (1 : Int32))).bind fun x4 => if (bi x4) = 0 then (some (1 : Int32))
  else (some (0 : Int32))))
def fX12_layLeft_L101 (v1 : Int32) (v2 : Int32) (v3 : Int32) (k1 : St → Option St) (kb : St → Int32 → Option St) (σ : St) (v4 : Int32) : Option St :=
  if (zI σ 32) ≤ v4 then (k1 σ)
  else ((fX12_mayGo σ v1 v4).bind fun x5 => if (bi x5) = 0 then (kb σ (v4 + (1 : Int32)))
  else ((rd (zA σ 73) 9 v4).bind fun x6 => (some (((((9 : Int32) * (v1 + x6)) + v4) + (1 : Int32)))).bind fun x7 => (rd (zA σ 74) 180009 x7).bind fun x8 => (fX12_gapOf σ v1 v2 v4).bind fun x9 => (some ((x8 + x9))).bind fun x10 => (rd (zA σ 74) 180009 v3).bind fun x11 => if x11 ≤ x10 then ((rd (zA σ 74) 180009 v3).bind fun x12 => if x12 < x10 then ((rd (zA σ 74) 180009 v3).bind fun x13 => (fJ9_min_7cf53 x13 x10).bind fun x14 => wr 180009 v3 ((some (uA σ 74 (upd (zA σ 74) (Int32.toNatClampNeg v3) x14))).bind fun s15 => kb s15 (v4 + (1 : Int32))))
  else ((rd (zB σ 76) 180009 v3).bind fun x16 => (rd (zB σ 76) 180009 x7).bind fun x17 => wr 180009 v3 ((some (uB σ 76 (vp_updL (zB σ 76) (Int32.toNatClampNeg v3) (x16 + x17)))).bind fun s18 => (rd (zA s18 74) 180009 v3).bind fun x19 => (fJ9_min_7cf53 x19 x10).bind fun x20 => wr 180009 v3 ((some (uA s18 74 (upd (zA s18 74) (Int32.toNatClampNeg v3) x20))).bind fun s21 => kb s21 (v4 + (1 : Int32))))))
  else (wr 180009 v3 ((some (uB σ 76 (vp_updL (zB σ 76) (Int32.toNatClampNeg v3) (0 : Int64)))).bind fun s22 => (rd (zA s22 74) 180009 v3).bind fun x23 => if x23 < x10 then ((rd (zA s22 74) 180009 v3).bind fun x24 => (fJ9_min_7cf53 x24 x10).bind fun x25 => wr 180009 v3 ((some (uA s22 74 (upd (zA s22 74) (Int32.toNatClampNeg v3) x25))).bind fun s26 => kb s26 (v4 + (1 : Int32))))
  else ((rd (zB s22 76) 180009 v3).bind fun x27 => (rd (zB s22 76) 180009 x7).bind fun x28 => wr 180009 v3 ((some (uB s22 76 (vp_updL (zB s22 76) (Int32.toNatClampNeg v3) (x27 + x28)))).bind fun s29 => (rd (zA s29 74) 180009 v3).bind fun x30 => (fJ9_min_7cf53 x30 x10).bind fun x31 => wr 180009 v3 ((some (uA s29 74 (upd (zA s29 74) (Int32.toNatClampNeg v3) x31))).bind fun s32 => kb s32 (v4 + (1 : Int32)))))))))
def fX12_layLeft_P101 (v1 : Int32) (v2 : Int32) (v3 : Int32) (k1 : St → Option St) (σ : St) (v4 : Int32) : Option St := it (fun (kb : (St × Int32) → Option St) (t : St × Int32) => fX12_layLeft_L101 v1 v2 v3 k1 (fun σ v4 => kb (σ, v4)) t.1 t.2) FU (σ, v4)
def fX12_layLeft_J98 (kb : St → Int32 → Option St) (σ : St) (v1 : Int32) (v2 : Int32) (v3 : Int32) : Option St :=
  fX12_layLeft_P101 v1 v2 v3 (fun s33 => kb s33 (v2 + (1 : Int32))) σ (0 : Int32)
def fX12_layLeft_J50 (kb : St → Int32 → Option St) (σ : St) (v1 : Int32) (v2 : Int32) (v3 : Int32) (t0 : Int32) (t1 : Int32) : Option St :=
  wr 180009 t1 ((some (uA σ 74 (upd (zA σ 74) (Int32.toNatClampNeg t1) t0))).bind fun s3 => if v1 = ((zI s3 46) - (1 : Int32)) then (wr 180009 v3 ((some (uB s3 76 (vp_updL (zB s3 76) (Int32.toNatClampNeg v3) (1 : Int64)))).bind fun s35 => if v2 ≤ 0 then (if v2 = 0 then (if v1 ≤ 0 then (fX12_layLeft_J98 kb s35 v1 v2 v3)
  else (kb s35 (v2 + (1 : Int32))))
  else (fX12_layLeft_J98 kb s35 v1 v2 v3))
  else ((fX12_saidOf s35 v1 (v2 - (1 : Int32))).bind fun x36 => if x36 = 0 then (kb s35 (v2 + (1 : Int32)))
  else (if v2 = 0 then (if v1 ≤ 0 then (fX12_layLeft_J98 kb s35 v1 v2 v3)
  else (kb s35 (v2 + (1 : Int32))))
  else (fX12_layLeft_J98 kb s35 v1 v2 v3)))))
  else (wr 180009 v3 ((some (uB s3 76 (vp_updL (zB s3 76) (Int32.toNatClampNeg v3) (0 : Int64)))).bind fun s4 => if v2 ≤ 0 then (if v2 = 0 then (if v1 ≤ 0 then (fX12_layLeft_J98 kb s4 v1 v2 v3)
  else (kb s4 (v2 + (1 : Int32))))
  else (fX12_layLeft_J98 kb s4 v1 v2 v3))
  else ((fX12_saidOf s4 v1 (v2 - (1 : Int32))).bind fun x34 => if x34 = 0 then (kb s4 (v2 + (1 : Int32)))
  else (if v2 = 0 then (if v1 ≤ 0 then (fX12_layLeft_J98 kb s4 v1 v2 v3)
  else (kb s4 (v2 + (1 : Int32))))
  else (fX12_layLeft_J98 kb s4 v1 v2 v3))))))
def fX12_layLeft_L13 (v1 : Int32) (k1 : St → Option St) (kb : St → Int32 → Option St) (σ : St) (v2 : Int32) : Option St :=
  if (zI σ 32) < v2 then (k1 σ)
  else ((some ((((9 : Int32) * v1) + v2))).bind fun x2 => if v1 = ((zI σ 46) - (1 : Int32)) then (fX12_layLeft_J50 kb σ v1 v2 x2 (0 : Int32) x2)
  else (fX12_layLeft_J50 kb σ v1 v2 x2 (10000 : Int32) x2))
def fX12_layLeft_P13 (v1 : Int32) (k1 : St → Option St) (σ : St) (v2 : Int32) : Option St := it (fun (kb : (St × Int32) → Option St) (t : St × Int32) => fX12_layLeft_L13 v1 k1 (fun σ v2 => kb (σ, v2)) t.1 t.2) FU (σ, v2)
def fX12_layLeft_L7 (kb : St → Int32 → Option St) (σ : St) (v1 : Int32) : Option St :=
  if v1 < 0 then (some σ)
  else (fX12_layLeft_P13 v1 (fun s37 => kb s37 (v1 + (-1 : Int32))) σ (0 : Int32))
def fX12_layLeft_P7 (σ : St) (v1 : Int32) : Option St := it (fun (kb : (St × Int32) → Option St) (t : St × Int32) => fX12_layLeft_L7 (fun σ v1 => kb (σ, v1)) t.1 t.2) FU (σ, v1)
def fX12_layLeft (σ : St) : Option St :=
  (some (((zI σ 46) - (1 : Int32)))).bind fun x1 => fX12_layLeft_P7 σ x1
def fX12_first_L55 (v2 : Int32) (v3 : Int32) (v4 : Int32) (v6 : Int32) (k1 : Int32 → Option (Int32 × St)) (kb : Int32 → Option (Int32 × St)) (σ : St) (v7 : Int32) : Option (Int32 × St) :=
  (fX12_mayGo σ v3 v7).bind fun x4 => if (bi x4) = 0 then (kb (v7 + (1 : Int32)))
  else ((rd (zA σ 73) 9 v7).bind fun x5 => (rd (zA σ 74) 180009 ((((9 : Int32) * (v3 + x5)) + v7) + (1 : Int32))).bind fun x6 => (fX12_gapOf σ v3 v4 v7).bind fun x7 => (rd (zA σ 74) 180009 (((9 : Int32) * v3) + v4)).bind fun x8 => if (x6 + x7) = x8 then (k1 v7)
  else (kb (v7 + (1 : Int32))))
def fX12_first_P55 (v2 : Int32) (v3 : Int32) (v4 : Int32) (v6 : Int32) (k1 : Int32 → Option (Int32 × St)) (σ : St) (v7 : Int32) : Option (Int32 × St) := it (fun (kb : Int32 → Option (Int32 × St)) (t : Int32) => fX12_first_L55 v2 v3 v4 v6 k1 (fun v7 => kb v7) σ t) FU v7
def fX12_first_L34 (v2 : Int32) (kb : Int32 → Int32 → Int32 → Int32 → Option (Int32 × St)) (σ : St) (v3 : Int32) (v4 : Int32) (v5 : Int32) (v6 : Int32) : Option (Int32 × St) :=
  if v2 < v6 then (some (v5, σ))
  else (if v3 = ((zI σ 46) - (1 : Int32)) then (some ((-1 : Int32), σ))
  else (fX12_first_P55 v2 v3 v4 v6 (fun x9 => (fX12_saidOf σ v3 x9).bind fun x10 => (some ((((16 : Int32) * x9) + x10))).bind fun x11 => (rd (zA σ 73) 9 x9).bind fun x12 => (some ((v3 + x12))).bind fun x13 => (some ((x9 + (1 : Int32)))).bind fun x14 => kb x13 x14 x11 (v6 + (1 : Int32))) σ (0 : Int32)))
def fX12_first_P34 (v2 : Int32) (σ : St) (v3 : Int32) (v4 : Int32) (v5 : Int32) (v6 : Int32) : Option (Int32 × St) := it (fun (kb : (Int32 × Int32 × Int32 × Int32) → Option (Int32 × St)) (t : Int32 × Int32 × Int32 × Int32) => fX12_first_L34 v2 (fun v3 v4 v5 v6 => kb (v3, v4, v5, v6)) σ t.1 t.2.1 t.2.2.1 t.2.2.2) FU (v3, v4, v5, v6)
def fX12_first (σ : St) (p0 : Int32) (p1 : Int32) : Option (Int32 × St) :=
  (some (uI σ 30 (0 : Int32))).bind fun s1 => (fX12_isSmall s1 p0).bind fun r2 => if (bi r2.1) = 0 then (some ((-1 : Int32), r2.2))
  else (if 0 ≤ p1 then ((fX12_layLeft r2.2).bind fun s3 => fX12_first_P34 p1 s3 (0 : Int32) (0 : Int32) (-1 : Int32) (0 : Int32))
  else (some ((-1 : Int32), r2.2)))
def fX12_lowestReady_L2 (kb : Int32 → Option Int32) (σ : St) (v1 : Int32) : Option Int32 :=
  if (zI σ 32) ≤ v1 then (some (-1 : Int32))
  else ((rd (zA σ 81) 8 v1).bind fun x1 => if x1 = 0 then (kb (v1 + (1 : Int32)))
  else (some v1))
def fX12_lowestReady_P2 (σ : St) (v1 : Int32) : Option Int32 := it (fun (kb : Int32 → Option Int32) (t : Int32) => fX12_lowestReady_L2 (fun v1 => kb v1) σ t) FU v1
def fX12_lowestReady (σ : St) : Option Int32 :=
  fX12_lowestReady_P2 σ (0 : Int32)
def fX12_goRehearsal_L7 (v1 : Int32) (k1 : St → Option St) (kb : St → Int32 → Option St) (σ : St) (v2 : Int32) : Option St :=
  if (zI σ 32) ≤ v2 then (k1 σ)
  else (wr 8 v2 ((some (uA σ 80 (upd (zA σ 80) (Int32.toNatClampNeg v2) (0 : Int32)))).bind fun s2 => (fX12_has v1 v2).bind fun x3 => if (bi x3) = 0 then (wr 8 v2 ((some (uA s2 81 (upd (zA s2 81) (Int32.toNatClampNeg v2) (vp_nar .boolean (0 : Int32))))).bind fun s4 => kb s4 (v2 + (1 : Int32))))
  else ((rd (zA s2 61) 144 ((16 : Int32) * v2)).bind fun x5 => if x5 = 0 then (wr 8 v2 ((some (uA s2 81 (upd (zA s2 81) (Int32.toNatClampNeg v2) (vp_nar .boolean (1 : Int32))))).bind fun s7 => kb s7 (v2 + (1 : Int32))))
  else (wr 8 v2 ((some (uA s2 81 (upd (zA s2 81) (Int32.toNatClampNeg v2) (vp_nar .boolean (0 : Int32))))).bind fun s6 => kb s6 (v2 + (1 : Int32)))))))
def fX12_goRehearsal_P7 (v1 : Int32) (k1 : St → Option St) (σ : St) (v2 : Int32) : Option St := it (fun (kb : (St × Int32) → Option St) (t : St × Int32) => fX12_goRehearsal_L7 v1 k1 (fun σ v2 => kb (σ, v2)) t.1 t.2) FU (σ, v2)
def fX12_goRehearsal_L121 (v1 : Int32) (v2 : Int32) (v3 : Int32) (k1 : St → Option St) (kb : St → Int32 → Option St) (σ : St) (v4 : Int32) : Option St :=
  if (zI σ 32) ≤ v4 then (k1 σ)
  else (if v4 = v2 then (kb σ (v4 + (1 : Int32)))
  else ((fX12_has v1 v4).bind fun x17 => if (bi x17) = 0 then (kb σ (v4 + (1 : Int32)))
  else ((rd (zA σ 80) 8 v4).bind fun x18 => (rd (zA σ 60) 9 v4).bind fun x19 => if x19 ≤ x18 then (kb σ (v4 + (1 : Int32)))
  else ((rd (zA σ 80) 8 v4).bind fun x20 => (fX12_endsIt σ (((16 : Int32) * v4) + x20) v3).bind fun x21 => if (bi x21) = 0 then (kb σ (v4 + (1 : Int32)))
  else (wr 8 v4 ((some (uA σ 81 (upd (zA σ 81) (Int32.toNatClampNeg v4) (vp_nar .boolean (1 : Int32))))).bind fun s22 => kb s22 (v4 + (1 : Int32))))))))
def fX12_goRehearsal_P121 (v1 : Int32) (v2 : Int32) (v3 : Int32) (k1 : St → Option St) (σ : St) (v4 : Int32) : Option St := it (fun (kb : (St × Int32) → Option St) (t : St × Int32) => fX12_goRehearsal_L121 v1 v2 v3 k1 (fun σ v4 => kb (σ, v4)) t.1 t.2) FU (σ, v4)
def fX12_goRehearsal_L64 (v1 : Int32) (kb : St → Int32 → Option St) (σ : St) (v2 : Int32) : Option St :=
  if v2 = (-1 : Int32) then (some σ)
  else ((rd (zA σ 80) 8 v2).bind fun x10 => (some ((((16 : Int32) * v2) + x10))).bind fun x11 => wr 96 (zI σ 49) ((some (uA σ 79 (upd (zA σ 79) (Int32.toNatClampNeg (zI σ 49)) x11))).bind fun s12 => (some (uI s12 49 ((zI s12 49) + (1 : Int32)))).bind fun s13 => (rd (zA s13 80) 8 v2).bind fun x14 => wr 8 v2 ((some (uA s13 80 (upd (zA s13 80) (Int32.toNatClampNeg v2) (x14 + (1 : Int32))))).bind fun s15 => wr 8 v2 ((some (uA s15 81 (upd (zA s15 81) (Int32.toNatClampNeg v2) (vp_nar .boolean (0 : Int32))))).bind fun s16 => fX12_goRehearsal_P121 v1 v2 x11 (fun s23 => (fX12_lowestReady s23).bind fun x24 => kb s23 x24) s16 (0 : Int32)))))
def fX12_goRehearsal_P64 (v1 : Int32) (σ : St) (v2 : Int32) : Option St := it (fun (kb : (St × Int32) → Option St) (t : St × Int32) => fX12_goRehearsal_L64 v1 (fun σ v2 => kb (σ, v2)) t.1 t.2) FU (σ, v2)
def fX12_goRehearsal (σ : St) (p0 : Int32) : Option St :=
  (some (uI σ 49 (0 : Int32))).bind fun s1 => fX12_goRehearsal_P7 p0 (fun s8 => (fX12_lowestReady s8).bind fun x9 => fX12_goRehearsal_P64 p0 s8 x9) s1 (0 : Int32)
def fX12_isHabit (σ : St) (p0 : Int32) : Option Bool :=
  if p0 < 0 then (some false)
  else (if (zI σ 34) ≤ p0 then (some false)
  else (some true))
def fX12_habit (σ : St) (p0 : Int32) (p1 : Int32) : Option (Bool × St) :=
  (some (uI σ 30 (0 : Int32))).bind fun s1 => (fX12_isRoll s1 p0).bind fun x2 => if (bi x2) = 0 then (some (false, s1))
  else (if p1 = (-1 : Int32) then (wr 8 p0 ((some (uA s1 69 (upd (zA s1 69) (Int32.toNatClampNeg p0) p1))).bind fun s3 => some (true, s3)))
  else ((fX12_isHabit s1 p1).bind fun x4 => if (bi x4) = 0 then (some (false, s1))
  else (wr 8 p0 ((some (uA s1 69 (upd (zA s1 69) (Int32.toNatClampNeg p0) p1))).bind fun s5 => some (true, s5)))))
def fX12_insideOf_L25 (v1 : Int32) (v2 : Int32) (kb : Int32 → Option Int32) (σ : St) (v3 : Int32) : Option Int32 :=
  (rd (zA σ 62) 144 v2).bind fun x2 => if x2 ≤ (v3 + (2 : Int32)) then (some (-1 : Int32))
  else ((fX12_isWord σ v1 (0 : Int32) v2 v3).bind fun x3 => if (bi x3) = 0 then (kb (v3 + (1 : Int32)))
  else ((fX12_isWord σ v1 (1 : Int32) v2 (v3 + (1 : Int32))).bind fun x4 => if (bi x4) = 0 then (kb (v3 + (1 : Int32)))
  else (some v3)))
def fX12_insideOf_P25 (v1 : Int32) (v2 : Int32) (σ : St) (v3 : Int32) : Option Int32 := it (fun (kb : Int32 → Option Int32) (t : Int32) => fX12_insideOf_L25 v1 v2 (fun v3 => kb v3) σ t) FU v3
def fX12_insideOf (σ : St) (p0 : Int32) (p1 : Int32) : Option Int32 :=
  (rd (zA σ 61) 144 p0).bind fun x1 => if x1 = (2 : Int32) then (nz (16 : Int32) (nz (16 : Int32) (if (p0 / (16 : Int32)) = (p1 / (16 : Int32)) then (some (-1 : Int32))
  else (fX12_insideOf_P25 p0 p1 σ (0 : Int32)))))
  else (some (-1 : Int32))
def fX12_inside (σ : St) (p0 : Int32) (p1 : Int32) : Option (Int32 × St) :=
  (some (uI σ 30 (0 : Int32))).bind fun s1 => (fX12_isSpeech s1 p0).bind fun x2 => if (bi x2) = 0 then (some ((-1 : Int32), s1))
  else ((fX12_isSpeech s1 p1).bind fun x3 => if (bi x3) = 0 then (some ((-1 : Int32), s1))
  else ((fX12_insideOf s1 p0 p1).bind fun x4 => some (x4, s1)))
def fX12_isOf (σ : St) (p0 : Int32) (p1 : Int32) : Option Bool :=
  (fX12_isSpeech σ p0).bind fun x1 => if (bi x1) = 0 then (some false)
  else ((fX12_areRolls σ p1).bind fun x2 => if (bi x2) = 0 then (some false)
  else (nz (16 : Int32) ((fX12_has p1 (p0 / (16 : Int32))).bind fun x3 => if (bi x3) = 0 then (some false)
  else (some true))))
def fX12_isOfOthers (σ : St) (p0 : Int32) (p1 : Int32) (p2 : Int32) : Option Bool :=
  (fX12_isSpeech σ p2).bind fun x1 => if (bi x1) = 0 then (some false)
  else (nz (16 : Int32) (nz (16 : Int32) (if (p2 / (16 : Int32)) = (p0 / (16 : Int32)) then (some false)
  else (nz (16 : Int32) ((fX12_has p1 (p2 / (16 : Int32))).bind fun x2 => if (bi x2) = 0 then (some false)
  else (some true))))))
def fX12_isSameCue_L57 (v1 : Int32) (v2 : Int32) (v3 : Int32) (k1 : Unit → Option Bool) (kb : Int32 → Option Bool) (σ : St) (v4 : Int32) : Option Bool :=
  (rd (zA σ 64) 288 (((2 : Int32) * v1) + v3)).bind fun x6 => if x6 ≤ v4 then (k1 ())
  else ((rd (zA σ 63) 288 (((2 : Int32) * v1) + v3)).bind fun x7 => (fX12_letter σ v1 (x7 + v4)).bind fun x8 => (rd (zA σ 63) 288 (((2 : Int32) * v2) + v3)).bind fun x9 => (fX12_letter σ v2 (x9 + v4)).bind fun x10 => if x8 = x10 then (kb (v4 + (1 : Int32)))
  else (some false))
def fX12_isSameCue_P57 (v1 : Int32) (v2 : Int32) (v3 : Int32) (k1 : Unit → Option Bool) (σ : St) (v4 : Int32) : Option Bool := it (fun (kb : Int32 → Option Bool) (t : Int32) => fX12_isSameCue_L57 v1 v2 v3 k1 (fun v4 => kb v4) σ t) FU v4
def fX12_isSameCue_L19 (v1 : Int32) (v2 : Int32) (kb : Int32 → Option Bool) (σ : St) (v3 : Int32) : Option Bool :=
  (rd (zA σ 61) 144 v1).bind fun x3 => if x3 ≤ v3 then (some true)
  else ((rd (zA σ 64) 288 (((2 : Int32) * v1) + v3)).bind fun x4 => (rd (zA σ 64) 288 (((2 : Int32) * v2) + v3)).bind fun x5 => if x4 = x5 then (fX12_isSameCue_P57 v1 v2 v3 (fun _u => kb (v3 + (1 : Int32))) σ (0 : Int32))
  else (some false))
def fX12_isSameCue_P19 (v1 : Int32) (v2 : Int32) (σ : St) (v3 : Int32) : Option Bool := it (fun (kb : Int32 → Option Bool) (t : Int32) => fX12_isSameCue_L19 v1 v2 (fun v3 => kb v3) σ t) FU v3
def fX12_isSameCue (σ : St) (p0 : Int32) (p1 : Int32) : Option Bool :=
  (rd (zA σ 61) 144 p0).bind fun x1 => (rd (zA σ 61) 144 p1).bind fun x2 => if x1 = x2 then (fX12_isSameCue_P19 p0 p1 σ (0 : Int32))
  else (some false)
def fX12_isWrong (σ : St) (p0 : Int32) : Option Bool :=
  (rd (zA σ 78) 96 p0).bind fun x1 => if p0 = 0 then ((rd (zA σ 61) 144 x1).bind fun x5 => if x5 ≤ 0 then (some false)
  else (some true))
  else ((rd (zA σ 78) 96 (p0 - (1 : Int32))).bind fun x2 => nz (16 : Int32) (nz (16 : Int32) (if (x2 / (16 : Int32)) = (x1 / (16 : Int32)) then (some true)
  else ((rd (zA σ 78) 96 (p0 - (1 : Int32))).bind fun x3 => (fX12_endsIt σ x1 x3).bind fun x4 => if (bi x4) = 0 then (some true)
  else (some false)))))
def fX12_keep (σ : St) : Option (Int32 × St) :=
  (some (uI σ 30 (0 : Int32))).bind fun s1 => (some (uI s1 51 (zI s1 32))).bind fun s2 => (some (uI s2 52 (zI s2 48))).bind fun s3 => some (((zI s3 32) + (zI s3 48)), s3)
def fX12_nearestOf_L8 (v1 : Int32) (v2 : Int32) (kb : St → Int32 → Int32 → Int32 → Option (Int32 × St)) (σ : St) (v3 : Int32) (v4 : Int32) (v5 : Int32) : Option (Int32 × St) :=
  if (128 : Int32) ≤ v5 then (some (v3, σ))
  else ((fX12_isOfOthers σ v1 v2 v5).bind fun x1 => if (bi x1) = 0 then (kb σ v3 v4 (v5 + (1 : Int32)))
  else ((fX12_farOf σ v1 v5).bind fun r2 => if v3 = (-1 : Int32) then (kb r2.2 v5 r2.1 (v5 + (1 : Int32)))
  else (if r2.1 < v4 then (kb r2.2 v5 r2.1 (v5 + (1 : Int32)))
  else (kb r2.2 v3 v4 (v5 + (1 : Int32))))))
def fX12_nearestOf_P8 (v1 : Int32) (v2 : Int32) (σ : St) (v3 : Int32) (v4 : Int32) (v5 : Int32) : Option (Int32 × St) := it (fun (kb : (St × Int32 × Int32 × Int32) → Option (Int32 × St)) (t : St × Int32 × Int32 × Int32) => fX12_nearestOf_L8 v1 v2 (fun σ v3 v4 v5 => kb (σ, v3, v4, v5)) t.1 t.2.1 t.2.2.1 t.2.2.2) FU (σ, v3, v4, v5)
def fX12_nearestOf (σ : St) (p0 : Int32) (p1 : Int32) : Option (Int32 × St) :=
  fX12_nearestOf_P8 p0 p1 σ (-1 : Int32) (0 : Int32) (0 : Int32)
def fX12_kindOf_L16 (v1 : Int32) (v2 : Int32) (k1 : Int32 → Option (Int32 × St)) (kb : Int32 → Int32 → Option (Int32 × St)) (σ : St) (v3 : Int32) (v4 : Int32) : Option (Int32 × St) :=
  if (128 : Int32) ≤ v4 then (k1 v3)
  else ((fX12_isOfOthers σ v1 v2 v4).bind fun x2 => if (bi x2) = 0 then ((some ((v3 + (0 : Int32)))).bind fun x3 => kb x3 (v4 + (1 : Int32)))
  else ((fX12_endsIt σ v1 v4).bind fun x4 => if (bi x4) = 0 then ((some ((v3 + (0 : Int32)))).bind fun x5 => kb x5 (v4 + (1 : Int32)))
  else ((some ((v3 + (1 : Int32)))).bind fun x6 => kb x6 (v4 + (1 : Int32)))))
def fX12_kindOf_P16 (v1 : Int32) (v2 : Int32) (k1 : Int32 → Option (Int32 × St)) (σ : St) (v3 : Int32) (v4 : Int32) : Option (Int32 × St) := it (fun (kb : (Int32 × Int32) → Option (Int32 × St)) (t : Int32 × Int32) => fX12_kindOf_L16 v1 v2 k1 (fun v3 v4 => kb (v3, v4)) σ t.1 t.2) FU (v3, v4)
def fX12_kindOf_L83 (v1 : Int32) (v2 : Int32) (k1 : Unit → Option (Int32 × St)) (kb : Int32 → Option (Int32 × St)) (σ : St) (v4 : Int32) : Option (Int32 × St) :=
  if v1 ≤ v4 then (k1 ())
  else ((fX12_endsIt σ v1 v4).bind fun x9 => if (bi x9) = 0 then (kb (v4 + (1 : Int32)))
  else (some ((3 : Int32), σ)))
def fX12_kindOf_P83 (v1 : Int32) (v2 : Int32) (k1 : Unit → Option (Int32 × St)) (σ : St) (v4 : Int32) : Option (Int32 × St) := it (fun (kb : Int32 → Option (Int32 × St)) (t : Int32) => fX12_kindOf_L83 v1 v2 k1 (fun v4 => kb v4) σ t) FU v4
def fX12_kindOf (σ : St) (p0 : Int32) (p1 : Int32) : Option (Int32 × St) :=
  (rd (zA σ 61) 144 p0).bind fun x1 => if x1 = 0 then (some ((0 : Int32), σ))
  else (fX12_kindOf_P16 p0 p1 (fun x7 => if x7 ≤ 0 then (nz (16 : Int32) ((some (((p0 / (16 : Int32)) * (16 : Int32)))).bind fun x8 => fX12_kindOf_P83 p0 p1 (fun _u => (fX12_nearestOf σ p0 p1).bind fun r10 => if r10.1 = (-1 : Int32) then (some ((5 : Int32), r10.2))
  else ((fX12_farOf r10.2 p0 r10.1).bind fun r11 => if (zI r11.2 45) < r11.1 then (some ((5 : Int32), r11.2))
  else (some ((4 : Int32), r11.2)))) σ x8))
  else (if x7 = (1 : Int32) then (some ((1 : Int32), σ))
  else (some ((2 : Int32), σ)))) σ (0 : Int32) (0 : Int32))
def fX12_kind (σ : St) (p0 : Int32) (p1 : Int32) : Option (Int32 × St) :=
  (some (uI σ 30 (0 : Int32))).bind fun s1 => (fX12_isOf s1 p0 p1).bind fun x2 => if (bi x2) = 0 then (some ((-1 : Int32), s1))
  else ((fX12_kindOf s1 p0 p1).bind fun r3 => some (r3.1, r3.2))
def fX12_kinds_L29 (v1 : Int32) (v2 : Int32) (kb : St → Int32 → Int32 → Option (Int32 × St)) (σ : St) (v3 : Int32) (v4 : Int32) : Option (Int32 × St) :=
  if (128 : Int32) ≤ v4 then (some (v3, σ))
  else ((fX12_isOf σ v4 v1).bind fun x4 => if (bi x4) = 0 then ((some ((v3 + (0 : Int32)))).bind fun x5 => kb σ x5 (v4 + (1 : Int32)))
  else ((fX12_kindOf σ v4 v1).bind fun r6 => if r6.1 = v2 then ((some ((v3 + (1 : Int32)))).bind fun x8 => kb r6.2 x8 (v4 + (1 : Int32)))
  else ((some ((v3 + (0 : Int32)))).bind fun x7 => kb r6.2 x7 (v4 + (1 : Int32)))))
def fX12_kinds_P29 (v1 : Int32) (v2 : Int32) (σ : St) (v3 : Int32) (v4 : Int32) : Option (Int32 × St) := it (fun (kb : (St × Int32 × Int32) → Option (Int32 × St)) (t : St × Int32 × Int32) => fX12_kinds_L29 v1 v2 (fun σ v3 v4 => kb (σ, v3, v4)) t.1 t.2.1 t.2.2) FU (σ, v3, v4)
def fX12_kinds (σ : St) (p0 : Int32) (p1 : Int32) : Option (Int32 × St) :=
  (some (uI σ 30 (0 : Int32))).bind fun s1 => (fX12_areRolls s1 p0).bind fun x2 => if (bi x2) = 0 then (some ((-1 : Int32), s1))
  else ((fX12_isIn p1 (0 : Int32) (5 : Int32)).bind fun x3 => if (bi x3) = 0 then (some ((-1 : Int32), s1))
  else (fX12_kinds_P29 p0 p1 s1 (0 : Int32) (0 : Int32)))
def fX12_laySoFar_L2 (k1 : St → Option St) (kb : St → Int32 → Option St) (σ : St) (v1 : Int32) : Option St :=
  if ((9 : Int32) * (zI σ 46)) ≤ v1 then (k1 σ)
  else (if v1 = 0 then (wr 180009 v1 ((some (uA σ 75 (upd (zA σ 75) (Int32.toNatClampNeg v1) (0 : Int32)))).bind fun s4 => if v1 = 0 then (wr 180009 v1 ((some (uB s4 77 (vp_updL (zB s4 77) (Int32.toNatClampNeg v1) (1 : Int64)))).bind fun s6 => kb s6 (v1 + (1 : Int32))))
  else (wr 180009 v1 ((some (uB s4 77 (vp_updL (zB s4 77) (Int32.toNatClampNeg v1) (0 : Int64)))).bind fun s5 => kb s5 (v1 + (1 : Int32))))))
  else (wr 180009 v1 ((some (uA σ 75 (upd (zA σ 75) (Int32.toNatClampNeg v1) (10000 : Int32)))).bind fun s1 => if v1 = 0 then (wr 180009 v1 ((some (uB s1 77 (vp_updL (zB s1 77) (Int32.toNatClampNeg v1) (1 : Int64)))).bind fun s3 => kb s3 (v1 + (1 : Int32))))
  else (wr 180009 v1 ((some (uB s1 77 (vp_updL (zB s1 77) (Int32.toNatClampNeg v1) (0 : Int64)))).bind fun s2 => kb s2 (v1 + (1 : Int32)))))))
def fX12_laySoFar_P2 (k1 : St → Option St) (σ : St) (v1 : Int32) : Option St := it (fun (kb : (St × Int32) → Option St) (t : St × Int32) => fX12_laySoFar_L2 k1 (fun σ v1 => kb (σ, v1)) t.1 t.2) FU (σ, v1)
def fX12_laySoFar_L95 (v1 : Int32) (v2 : Int32) (v3 : Int32) (k1 : St → Option St) (kb : St → Int32 → Option St) (σ : St) (v4 : Int32) : Option St :=
  if (zI σ 32) ≤ v4 then (k1 σ)
  else ((fX12_mayGo σ v1 v4).bind fun x10 => if (bi x10) = 0 then (kb σ (v4 + (1 : Int32)))
  else ((rd (zA σ 73) 9 v4).bind fun x11 => (some (((((9 : Int32) * (v1 + x11)) + v4) + (1 : Int32)))).bind fun x12 => (rd (zA σ 75) 180009 v3).bind fun x13 => (fX12_gapOf σ v1 v2 v4).bind fun x14 => (some ((x13 + x14))).bind fun x15 => (rd (zA σ 75) 180009 x12).bind fun x16 => if x16 ≤ x15 then ((rd (zA σ 75) 180009 x12).bind fun x17 => if x17 < x15 then ((rd (zA σ 75) 180009 x12).bind fun x18 => (fJ9_min_7cf53 x18 x15).bind fun x19 => wr 180009 x12 ((some (uA σ 75 (upd (zA σ 75) (Int32.toNatClampNeg x12) x19))).bind fun s20 => kb s20 (v4 + (1 : Int32))))
  else ((rd (zB σ 77) 180009 x12).bind fun x21 => (rd (zB σ 77) 180009 v3).bind fun x22 => wr 180009 x12 ((some (uB σ 77 (vp_updL (zB σ 77) (Int32.toNatClampNeg x12) (x21 + x22)))).bind fun s23 => (rd (zA s23 75) 180009 x12).bind fun x24 => (fJ9_min_7cf53 x24 x15).bind fun x25 => wr 180009 x12 ((some (uA s23 75 (upd (zA s23 75) (Int32.toNatClampNeg x12) x25))).bind fun s26 => kb s26 (v4 + (1 : Int32))))))
  else (wr 180009 x12 ((some (uB σ 77 (vp_updL (zB σ 77) (Int32.toNatClampNeg x12) (0 : Int64)))).bind fun s27 => (rd (zA s27 75) 180009 x12).bind fun x28 => if x28 < x15 then ((rd (zA s27 75) 180009 x12).bind fun x29 => (fJ9_min_7cf53 x29 x15).bind fun x30 => wr 180009 x12 ((some (uA s27 75 (upd (zA s27 75) (Int32.toNatClampNeg x12) x30))).bind fun s31 => kb s31 (v4 + (1 : Int32))))
  else ((rd (zB s27 77) 180009 x12).bind fun x32 => (rd (zB s27 77) 180009 v3).bind fun x33 => wr 180009 x12 ((some (uB s27 77 (vp_updL (zB s27 77) (Int32.toNatClampNeg x12) (x32 + x33)))).bind fun s34 => (rd (zA s34 75) 180009 x12).bind fun x35 => (fJ9_min_7cf53 x35 x15).bind fun x36 => wr 180009 x12 ((some (uA s34 75 (upd (zA s34 75) (Int32.toNatClampNeg x12) x36))).bind fun s37 => kb s37 (v4 + (1 : Int32)))))))))
def fX12_laySoFar_P95 (v1 : Int32) (v2 : Int32) (v3 : Int32) (k1 : St → Option St) (σ : St) (v4 : Int32) : Option St := it (fun (kb : (St × Int32) → Option St) (t : St × Int32) => fX12_laySoFar_L95 v1 v2 v3 k1 (fun σ v4 => kb (σ, v4)) t.1 t.2) FU (σ, v4)
def fX12_laySoFar_L63 (v1 : Int32) (k1 : St → Option St) (kb : St → Int32 → Option St) (σ : St) (v2 : Int32) : Option St :=
  if (zI σ 32) < v2 then (k1 σ)
  else ((some ((((9 : Int32) * v1) + v2))).bind fun x8 => (rd (zB σ 77) 180009 x8).bind fun x9 => if (lg_cmp x9 (0 : Int64)) = 0 then (kb σ (v2 + (1 : Int32)))
  else (fX12_laySoFar_P95 v1 v2 x8 (fun s38 => kb s38 (v2 + (1 : Int32))) σ (0 : Int32)))
def fX12_laySoFar_P63 (v1 : Int32) (k1 : St → Option St) (σ : St) (v2 : Int32) : Option St := it (fun (kb : (St × Int32) → Option St) (t : St × Int32) => fX12_laySoFar_L63 v1 k1 (fun σ v2 => kb (σ, v2)) t.1 t.2) FU (σ, v2)
def fX12_laySoFar_L53 (kb : St → Int32 → Option St) (σ : St) (v1 : Int32) : Option St :=
  if (zI σ 46) ≤ v1 then (some σ)
  else (fX12_laySoFar_P63 v1 (fun s39 => kb s39 (v1 + (1 : Int32))) σ (0 : Int32))
def fX12_laySoFar_P53 (σ : St) (v1 : Int32) : Option St := it (fun (kb : (St × Int32) → Option St) (t : St × Int32) => fX12_laySoFar_L53 (fun σ v1 => kb (σ, v1)) t.1 t.2) FU (σ, v1)
def fX12_laySoFar (σ : St) : Option St :=
  fX12_laySoFar_P2 (fun s7 => fX12_laySoFar_P53 s7 (0 : Int32)) σ (0 : Int32)
def fX12_least (σ : St) (p0 : Int32) : Option (Int32 × St) :=
  (some (uI σ 30 (0 : Int32))).bind fun s1 => (fX12_isSmall s1 p0).bind fun r2 => if (bi r2.1) = 0 then (some ((-1 : Int32), r2.2))
  else ((fX12_layLeft r2.2).bind fun s3 => (rd (zA s3 74) 180009 (0 : Int32)).bind fun x4 => some (x4, s3))
def fX12_length_L66 (v1 : Int32) (v2 : Int32) (v3 : Int32) (k1 : St → Int32 → Option (Int32 × St)) (kb : St → Int32 → Int32 → Option (Int32 × St)) (σ : St) (v4 : Int32) (v5 : Int32) : Option (Int32 × St) :=
  if v3 ≤ v5 then (k1 σ v4)
  else (if v4 = 0 then ((fX12_isOf σ v5 v1).bind fun x7 => if (bi x7) = 0 then (kb σ (0 : Int32) (v5 + (1 : Int32)))
  else ((fX12_isSameCue σ v3 v5).bind fun x8 => if (bi x8) = 0 then (kb σ (0 : Int32) (v5 + (1 : Int32)))
  else ((fX12_kindOf σ v5 v1).bind fun r9 => if r9.1 = (5 : Int32) then (kb r9.2 (1 : Int32) (v5 + (1 : Int32)))
  else (kb r9.2 (0 : Int32) (v5 + (1 : Int32))))))
  else (kb σ (1 : Int32) (v5 + (1 : Int32))))
def fX12_length_P66 (v1 : Int32) (v2 : Int32) (v3 : Int32) (k1 : St → Int32 → Option (Int32 × St)) (σ : St) (v4 : Int32) (v5 : Int32) : Option (Int32 × St) := it (fun (kb : (St × Int32 × Int32) → Option (Int32 × St)) (t : St × Int32 × Int32) => fX12_length_L66 v1 v2 v3 k1 (fun σ v4 v5 => kb (σ, v4, v5)) t.1 t.2.1 t.2.2) FU (σ, v4, v5)
def fX12_length_L19 (v1 : Int32) (kb : St → Int32 → Int32 → Option (Int32 × St)) (σ : St) (v2 : Int32) (v3 : Int32) : Option (Int32 × St) :=
  if (128 : Int32) ≤ v3 then (some (v2, σ))
  else ((fX12_isOf σ v3 v1).bind fun x3 => if (bi x3) = 0 then (kb σ v2 (v3 + (1 : Int32)))
  else ((rd (zA σ 62) 144 v3).bind fun x4 => (some ((v2 + x4))).bind fun x5 => (fX12_kindOf σ v3 v1).bind fun r6 => if r6.1 = (5 : Int32) then (fX12_length_P66 v1 x5 v3 (fun s10 x11 => if x11 = 0 then ((rd (zA s10 61) 144 v3).bind fun x12 => (some ((x5 + x12))).bind fun x13 => kb s10 x13 (v3 + (1 : Int32)))
  else ((some ((x5 + (0 : Int32)))).bind fun x14 => kb s10 x14 (v3 + (1 : Int32)))) r6.2 (0 : Int32) (0 : Int32))
  else (kb r6.2 x5 (v3 + (1 : Int32)))))
def fX12_length_P19 (v1 : Int32) (σ : St) (v2 : Int32) (v3 : Int32) : Option (Int32 × St) := it (fun (kb : (St × Int32 × Int32) → Option (Int32 × St)) (t : St × Int32 × Int32) => fX12_length_L19 v1 (fun σ v2 v3 => kb (σ, v2, v3)) t.1 t.2.1 t.2.2) FU (σ, v2, v3)
def fX12_length (σ : St) (p0 : Int32) : Option (Int32 × St) :=
  (some (uI σ 30 (0 : Int32))).bind fun s1 => (fX12_areRolls s1 p0).bind fun x2 => if (bi x2) = 0 then (some ((-1 : Int32), s1))
  else (fX12_length_P19 p0 s1 (0 : Int32) (0 : Int32))
def fJ0_coder_7d493_202 : Option Int32 :=
  if (1 : Int32) = 0 then (some (1 : Int32))
  else (some (0 : Int32))
def fJ0_length_8abf5_202 : Option Int32 :=
  (fJ0_coder_7d493_202).bind fun x1 => some ((5 : Int32) >>> (x1 &&& 31))
def fJ0_isLatin1_aae02_202 : Option Bool :=
  if (1 : Int32) = 0 then (some false)
  else (if (0 : Int32) = 0 then (some true)
  else (some false))
def fJ1_charAt_3b067_212 (p1 : Int32) : Option Int32 :=
  (fJ0_checkIndex_df160 p1 (5 : Int32)).bind fun u1 => (rd (fun z => (strB.getD 2 []).getD z 0) (strL.getD 2 0) p1).bind fun x2 => some ((Int32.toUInt32 (x2 &&& (255 : Int32)) % 65536).toInt32)
def fJ0_charAt_5068e_202 (p0 : Int32) : Option Int32 :=
  (fJ0_isLatin1_aae02_202).bind fun x1 => if (bi x1) = 0 then (none)
  else ((fJ1_charAt_3b067_212 p0).bind fun x2 => chx x2)
def fX12_isAmong_202_L2 (v1 : Int32) (kb : Int32 → Option Bool) (v2 : Int32) : Option Bool :=
  (fJ0_length_8abf5_202).bind fun x1 => if x1 ≤ v2 then (some false)
  else ((fJ0_charAt_5068e_202 v2).bind fun x2 => if x2 = v1 then (some true)
  else (kb (v2 + (1 : Int32))))
def fX12_isAmong_202_P2 (v1 : Int32) (v2 : Int32) : Option Bool := it (fun (kb : Int32 → Option Bool) (t : Int32) => fX12_isAmong_202_L2 v1 (fun v2 => kb v2) t) FU v2
def fX12_isAmong_202 (p1 : Int32) : Option Bool :=
  fX12_isAmong_202_P2 p1 (0 : Int32)
def fX12_begin_57 (σ : St) (p1 : Int32) (p2 : Int32) : Option St :=
  (some (uR σ 3 57)).bind fun s1 => (some (uI s1 35 p1)).bind fun s2 => (some (uI s2 36 p2)).bind fun s3 => (some (uI s3 37 (0 : Int32))).bind fun s4 => (some (uI s4 38 (-1 : Int32))).bind fun s5 => some s5
def fX12_goThrough_57_L32 (k1 : St → Option St) (kb : St → Option St) (σ : St) : Option St :=
  if (zI σ 38) = (-1 : Int32) then ((fX12_look σ).bind fun r7 => if r7.1 = (59 : Int32) then ((some (uI r7.2 37 ((zI r7.2 37) + (1 : Int32)))).bind fun s8 => (fX12_clause s8).bind fun s9 => kb s9)
  else (k1 r7.2))
  else (k1 σ)
def fX12_goThrough_57_P32 (k1 : St → Option St) (σ : St) : Option St := it (fun (kb : St → Option St) (t : St) => fX12_goThrough_57_L32 k1 (fun σ => kb σ) t) FU σ
def fX12_goThrough_57 (σ : St) (p1 : Int32) (p2 : Int32) : Option St :=
  (fX12_begin_57 σ p1 p2).bind fun s1 => (some (uI s1 40 (121 : Int32))).bind fun s2 => (some (uI s2 39 (0 : Int32))).bind fun s3 => (some (uI s3 42 (0 : Int32))).bind fun s4 => (some (uI s4 41 (0 : Int32))).bind fun s5 => (fX12_clause s5).bind fun s6 => fX12_goThrough_57_P32 (fun s10 => if (zI s10 38) = (-1 : Int32) then ((fX12_look s10).bind fun r11 => if r11.1 = (-1 : Int32) then (some r11.2)
  else ((fX12_fails r11.2).bind fun r12 => some r12.2))
  else (some s10)) s6
def fX12_worthOf_L6 (v1 : Int32) (v2 : Int32) (v3 : Int32) (v4 : Int32) (v5 : Int32) (k1 : Int32 → Option (Int32 × St)) (kb : Int32 → Int32 → Option (Int32 × St)) (σ : St) (v6 : Int32) (v7 : Int32) : Option (Int32 × St) :=
  if v4 ≤ v7 then (k1 v6)
  else ((rd (zA σ 56) 1800 ((((200 : Int32) * v2) + v3) + v7)).bind fun x1 => (fX12_isAmong_202 x1).bind fun x2 => if (bi x2) = 0 then ((some ((v6 + (0 : Int32)))).bind fun x3 => kb x3 (v7 + (1 : Int32)))
  else ((some ((v6 + (1 : Int32)))).bind fun x4 => kb x4 (v7 + (1 : Int32))))
def fX12_worthOf_P6 (v1 : Int32) (v2 : Int32) (v3 : Int32) (v4 : Int32) (v5 : Int32) (k1 : Int32 → Option (Int32 × St)) (σ : St) (v6 : Int32) (v7 : Int32) : Option (Int32 × St) := it (fun (kb : (Int32 × Int32) → Option (Int32 × St)) (t : Int32 × Int32) => fX12_worthOf_L6 v1 v2 v3 v4 v5 k1 (fun v6 v7 => kb (v6, v7)) σ t.1 t.2) FU (v6, v7)
def fX12_worthOf (σ : St) (p0 : Int32) (p1 : Int32) (p2 : Int32) (p3 : Int32) (p4 : Int32) : Option (Int32 × St) :=
  fX12_worthOf_P6 p0 p1 p2 p3 p4 (fun x5 => wr 128 (110 : Int32) ((some (uA σ 59 (upd (zA σ 59) (Int32.toNatClampNeg (110 : Int32)) p3))).bind fun s6 => wr 128 (118 : Int32) ((some (uA s6 59 (upd (zA s6 59) (Int32.toNatClampNeg (118 : Int32)) x5))).bind fun s7 => (rd (zA s7 56) 1800 (((200 : Int32) * p1) + p2)).bind fun x8 => wr 128 (102 : Int32) ((some (uA s7 59 (upd (zA s7 59) (Int32.toNatClampNeg (102 : Int32)) ((x8 - (97 : Int32)) + (1 : Int32))))).bind fun s9 => (rd (zA s9 56) 1800 (((((200 : Int32) * p1) + p2) + p3) - (1 : Int32))).bind fun x10 => wr 128 (108 : Int32) ((some (uA s9 59 (upd (zA s9 59) (Int32.toNatClampNeg (108 : Int32)) ((x10 - (97 : Int32)) + (1 : Int32))))).bind fun s11 => wr 128 (119 : Int32) ((some (uA s11 59 (upd (zA s11 59) (Int32.toNatClampNeg (119 : Int32)) p4))).bind fun s12 => (rd (zA s12 58) 4 p0).bind fun x13 => (fX12_goThrough_57 s12 ((200 : Int32) * p0) x13).bind fun s14 => (fJ9_min_7cf53 (100 : Int32) (zI s14 41)).bind fun x15 => (fJ9_max_7cf53 (0 : Int32) x15).bind fun x16 => some (x16, s14))))))) σ (0 : Int32) (0 : Int32)
def fX12_likely (σ : St) (p0 : Int32) (p1 : Int32) : Option (Int32 × St) :=
  (some (uI σ 30 (0 : Int32))).bind fun s1 => (fX12_isSpeech s1 p0).bind fun x2 => if (bi x2) = 0 then (some ((-1 : Int32), s1))
  else ((fX12_isRoll s1 p1).bind fun x3 => if (bi x3) = 0 then (some ((-1 : Int32), s1))
  else ((rd (zA s1 61) 144 p0).bind fun x4 => if x4 = 0 then (some ((-1 : Int32), s1))
  else (nz (16 : Int32) (if (p0 / (16 : Int32)) = p1 then (some ((-1 : Int32), s1))
  else ((rd (zA s1 69) 8 p1).bind fun x5 => if x5 = (-1 : Int32) then (some ((-1 : Int32), s1))
  else ((rd (zA s1 61) 144 p0).bind fun x6 => (some (((((2 : Int32) * p0) + x6) - (1 : Int32)))).bind fun x7 => (rd (zA s1 69) 8 p1).bind fun x8 => nz (16 : Int32) ((rd (zA s1 63) 288 x7).bind fun x9 => (rd (zA s1 64) 288 x7).bind fun x10 => (rd (zA s1 61) 144 p0).bind fun x11 => if x11 ≤ (1 : Int32) then ((fX12_worthOf s1 x8 (p0 / (16 : Int32)) x9 x10 (0 : Int32)).bind fun r12 => some (r12.1, r12.2))
  else ((rd (zA s1 64) 288 (x7 - (1 : Int32))).bind fun x13 => (fX12_worthOf s1 x8 (p0 / (16 : Int32)) x9 x10 x13).bind fun r14 => some (r14.1, r14.2)))))))))
def fX12_limit (σ : St) (p0 : Int32) : Option (Bool × St) :=
  (some (uI σ 30 (0 : Int32))).bind fun s1 => (fX12_isIn p0 (0 : Int32) (8 : Int32)).bind fun x2 => if (bi x2) = 0 then (some (false, s1))
  else ((some (uI s1 45 p0)).bind fun s3 => some (true, s3))
def fX12_many (σ : St) (p0 : Int32) : Option (Int32 × St) :=
  (some (uI σ 30 (0 : Int32))).bind fun s1 => (fX12_isRoll s1 p0).bind fun x2 => if (bi x2) = 0 then (some ((-1 : Int32), s1))
  else ((rd (zA s1 60) 9 p0).bind fun x3 => some (x3, s1))
def fX12_nearest (σ : St) (p0 : Int32) (p1 : Int32) : Option (Int32 × St) :=
  (some (uI σ 30 (0 : Int32))).bind fun s1 => (fX12_isOf s1 p0 p1).bind fun x2 => if (bi x2) = 0 then (some ((-1 : Int32), s1))
  else ((rd (zA s1 61) 144 p0).bind fun x3 => if x3 ≤ 0 then (some ((-1 : Int32), s1))
  else ((fX12_nearestOf s1 p0 p1).bind fun r4 => some (r4.1, r4.2)))
def fX12_settlesOf_L5 (v1 : Int32) (v2 : Int32) (kb : St → Int32 → Int32 → Option (Int32 × St)) (σ : St) (v3 : Int32) (v4 : Int32) : Option (Int32 × St) :=
  if (128 : Int32) ≤ v4 then (some (v3, σ))
  else ((fX12_isOf σ v4 v2).bind fun x1 => if (bi x1) = 0 then (kb σ v3 (v4 + (1 : Int32)))
  else ((fX12_kindOf σ v4 v2).bind fun r2 => if (4 : Int32) ≤ r2.1 then ((fX12_kindOf r2.2 v4 (v2 ||| ((1 : Int32) <<< (v1 &&& 31)))).bind fun r3 => if r3.1 = (1 : Int32) then ((some ((v3 + (1 : Int32)))).bind fun x4 => kb r3.2 x4 (v4 + (1 : Int32)))
  else (if r3.1 = (2 : Int32) then ((some ((v3 + (1 : Int32)))).bind fun x6 => kb r3.2 x6 (v4 + (1 : Int32)))
  else ((some ((v3 + (0 : Int32)))).bind fun x5 => kb r3.2 x5 (v4 + (1 : Int32)))))
  else (kb r2.2 v3 (v4 + (1 : Int32)))))
def fX12_settlesOf_P5 (v1 : Int32) (v2 : Int32) (σ : St) (v3 : Int32) (v4 : Int32) : Option (Int32 × St) := it (fun (kb : (St × Int32 × Int32) → Option (Int32 × St)) (t : St × Int32 × Int32) => fX12_settlesOf_L5 v1 v2 (fun σ v3 v4 => kb (σ, v3, v4)) t.1 t.2.1 t.2.2) FU (σ, v3, v4)
def fX12_settlesOf (σ : St) (p0 : Int32) (p1 : Int32) : Option (Int32 × St) :=
  fX12_settlesOf_P5 p0 p1 σ (0 : Int32) (0 : Int32)
def fX12_next_L22 (v1 : Int32) (kb : St → Int32 → Int32 → Int32 → Option (Int32 × St)) (σ : St) (v2 : Int32) (v3 : Int32) (v4 : Int32) : Option (Int32 × St) :=
  if (zI σ 32) ≤ v4 then (some (v2, σ))
  else ((fX12_has v1 v4).bind fun x3 => if (bi x3) = 0 then ((fX12_settlesOf σ v4 v1).bind fun r4 => if v2 = (-1 : Int32) then (kb r4.2 v4 r4.1 (v4 + (1 : Int32)))
  else (if v3 < r4.1 then (kb r4.2 v4 r4.1 (v4 + (1 : Int32)))
  else (kb r4.2 v2 v3 (v4 + (1 : Int32)))))
  else (kb σ v2 v3 (v4 + (1 : Int32))))
def fX12_next_P22 (v1 : Int32) (σ : St) (v2 : Int32) (v3 : Int32) (v4 : Int32) : Option (Int32 × St) := it (fun (kb : (St × Int32 × Int32 × Int32) → Option (Int32 × St)) (t : St × Int32 × Int32 × Int32) => fX12_next_L22 v1 (fun σ v2 v3 v4 => kb (σ, v2, v3, v4)) t.1 t.2.1 t.2.2.1 t.2.2.2) FU (σ, v2, v3, v4)
def fX12_next (σ : St) (p0 : Int32) : Option (Int32 × St) :=
  (some (uI σ 30 (0 : Int32))).bind fun s1 => (fX12_areRolls s1 p0).bind fun x2 => if (bi x2) = 0 then (some ((-1 : Int32), s1))
  else (fX12_next_P22 p0 s1 (-1 : Int32) (0 : Int32) (0 : Int32))
def fX12_one_L77 (v2 : Int32) (v3 : Int32) (v4 : Int32) (v5 : Int32) (k1 : Int32 → Option (Int32 × St)) (kb : Int32 → Option (Int32 × St)) (σ : St) (v6 : Int32) : Option (Int32 × St) :=
  (fX12_isOfOthers σ v5 v2 v6).bind fun x7 => if (bi x7) = 0 then (kb (v6 + (1 : Int32)))
  else ((fX12_endsIt σ v5 v6).bind fun x8 => if (bi x8) = 0 then (kb (v6 + (1 : Int32)))
  else (k1 v6))
def fX12_one_P77 (v2 : Int32) (v3 : Int32) (v4 : Int32) (v5 : Int32) (k1 : Int32 → Option (Int32 × St)) (σ : St) (v6 : Int32) : Option (Int32 × St) := it (fun (kb : Int32 → Option (Int32 × St)) (t : Int32) => fX12_one_L77 v2 v3 v4 v5 k1 (fun v6 => kb v6) σ t) FU v6
def fX12_one_L43 (v2 : Int32) (v4 : Int32) (k1 : St → Int32 → Option (Int32 × St)) (kb : St → Int32 → Int32 → Option (Int32 × St)) (σ : St) (v3 : Int32) (v5 : Int32) : Option (Int32 × St) :=
  if (128 : Int32) ≤ v5 then (k1 σ v3)
  else ((fX12_isSpeech σ v5).bind fun x5 => if (bi x5) = 0 then (kb σ v3 (v5 + (1 : Int32)))
  else ((fX12_kindOf σ v5 v2).bind fun r6 => if r6.1 = (1 : Int32) then (fX12_one_P77 v2 v3 v4 v5 (fun x9 => nz (16 : Int32) ((fX12_has v3 (v5 / (16 : Int32))).bind fun x10 => if (bi x10) = 0 then (nz (16 : Int32) ((fX12_has v3 (x9 / (16 : Int32))).bind fun x12 => if (bi x12) = 0 then (kb r6.2 v3 (v5 + (1 : Int32)))
  else (nz (16 : Int32) (nz (16 : Int32) ((some ((v3 ||| (((1 : Int32) <<< ((v5 / (16 : Int32)) &&& 31)) ||| ((1 : Int32) <<< ((x9 / (16 : Int32)) &&& 31)))))).bind fun x13 => kb r6.2 x13 (v5 + (1 : Int32)))))))
  else (nz (16 : Int32) (nz (16 : Int32) ((some ((v3 ||| (((1 : Int32) <<< ((v5 / (16 : Int32)) &&& 31)) ||| ((1 : Int32) <<< ((x9 / (16 : Int32)) &&& 31)))))).bind fun x11 => kb r6.2 x11 (v5 + (1 : Int32))))))) r6.2 (0 : Int32))
  else (kb r6.2 v3 (v5 + (1 : Int32)))))
def fX12_one_P43 (v2 : Int32) (v4 : Int32) (k1 : St → Int32 → Option (Int32 × St)) (σ : St) (v3 : Int32) (v5 : Int32) : Option (Int32 × St) := it (fun (kb : (St × Int32 × Int32) → Option (Int32 × St)) (t : St × Int32 × Int32) => fX12_one_L43 v2 v4 k1 (fun σ v3 v5 => kb (σ, v3, v5)) t.1 t.2.1 t.2.2) FU (σ, v3, v5)
def fX12_one_L31 (v2 : Int32) (kb : St → Int32 → Int32 → Option (Int32 × St)) (σ : St) (v3 : Int32) (v4 : Int32) : Option (Int32 × St) :=
  if (zI σ 32) ≤ v4 then (some (v3, σ))
  else (fX12_one_P43 v2 v4 (fun s14 x15 => kb s14 x15 (v4 + (1 : Int32))) σ v3 (0 : Int32))
def fX12_one_P31 (v2 : Int32) (σ : St) (v3 : Int32) (v4 : Int32) : Option (Int32 × St) := it (fun (kb : (St × Int32 × Int32) → Option (Int32 × St)) (t : St × Int32 × Int32) => fX12_one_L31 v2 (fun σ v3 v4 => kb (σ, v3, v4)) t.1 t.2.1 t.2.2) FU (σ, v3, v4)
def fX12_one (σ : St) (p0 : Int32) : Option (Int32 × St) :=
  (some (uI σ 30 (0 : Int32))).bind fun s1 => (fX12_isRoll s1 p0).bind fun x2 => if (bi x2) = 0 then (some ((-1 : Int32), s1))
  else ((some ((((1 : Int32) <<< ((zI s1 32) &&& 31)) - (1 : Int32)))).bind fun x3 => (some (((1 : Int32) <<< (p0 &&& 31)))).bind fun x4 => fX12_one_P31 x3 s1 x4 (0 : Int32))
def fX12_orders (σ : St) (p0 : Int32) : Option (Int64 × St) :=
  (some (uI σ 30 (0 : Int32))).bind fun s1 => (fX12_isSmall s1 p0).bind fun r2 => if (bi r2.1) = 0 then (some ((-1 : Int64), r2.2))
  else ((fX12_layLeft r2.2).bind fun s3 => (rd (zB s3 76) 180009 (0 : Int32)).bind fun x4 => some (x4, s3))
def fX12_play (σ : St) (p0 : Int32) : Option (Int32 × St) :=
  (some (uI σ 30 (0 : Int32))).bind fun s1 => if p0 = (-1 : Int32) then (some ((zI s1 48), s1))
  else ((fX12_isIn p0 (0 : Int32) ((zI s1 48) - (1 : Int32))).bind fun x2 => if (bi x2) = 0 then (some ((-1 : Int32), s1))
  else ((rd (zA s1 78) 96 p0).bind fun x3 => some (x3, s1)))
def fX12_plot (σ : St) (p0 : Int32) (p1 : Int32) : Option (Int32 × St) :=
  (some (uI σ 30 (0 : Int32))).bind fun s1 => (fX12_isPlot s1 p0).bind fun x2 => if (bi x2) = 0 then (some ((-1 : Int32), s1))
  else (if p1 = (-1 : Int32) then ((fX12_partsOf s1 p0).bind fun x6 => some (x6, s1))
  else ((rd (zA s1 67) 5 p0).bind fun x3 => (fX12_isIn p1 (0 : Int32) (x3 - (1 : Int32))).bind fun x4 => if (bi x4) = 0 then (some ((-1 : Int32), s1))
  else ((rd (zA s1 68) 100 (((20 : Int32) * p0) + p1)).bind fun x5 => some (x5, s1))))
def fX12_rehearse (σ : St) (p0 : Int32) (p1 : Int32) : Option (Int32 × St) :=
  (some (uI σ 30 (0 : Int32))).bind fun s1 => (fX12_areRolls s1 p0).bind fun x2 => if (bi x2) = 0 then (some ((-1 : Int32), s1))
  else ((fX12_goRehearsal s1 p0).bind fun s3 => if p1 = (-1 : Int32) then (some ((zI s3 49), s3))
  else ((fX12_isIn p1 (0 : Int32) ((zI s3 49) - (1 : Int32))).bind fun x4 => if (bi x4) = 0 then (some ((-1 : Int32), s3))
  else ((rd (zA s3 79) 96 p1).bind fun x5 => some (x5, s3))))
def fX12_settles (σ : St) (p0 : Int32) (p1 : Int32) : Option (Int32 × St) :=
  (some (uI σ 30 (0 : Int32))).bind fun s1 => (fX12_isRoll s1 p0).bind fun x2 => if (bi x2) = 0 then (some ((-1 : Int32), s1))
  else ((fX12_areRolls s1 p1).bind fun x3 => if (bi x3) = 0 then (some ((-1 : Int32), s1))
  else ((fX12_has p1 p0).bind fun x4 => if (bi x4) = 0 then ((fX12_settlesOf s1 p0 p1).bind fun r5 => some (r5.1, r5.2))
  else (some ((-1 : Int32), s1))))
def fX12_soon_L24 (kb : Int32 → Int32 → Option (Int32 × St)) (σ : St) (v2 : Int32) (v3 : Int32) : Option (Int32 × St) :=
  if (zI σ 48) ≤ v3 then (some (v2, σ))
  else (if (zI σ 49) ≤ v3 then ((some ((v2 + (1 : Int32)))).bind fun x4 => kb x4 (v3 + (1 : Int32)))
  else ((rd (zA σ 79) 96 v3).bind fun x5 => (rd (zA σ 78) 96 v3).bind fun x6 => if x5 = x6 then ((some ((v2 + (0 : Int32)))).bind fun x7 => kb x7 (v3 + (1 : Int32)))
  else ((some ((v2 + (1 : Int32)))).bind fun x8 => kb x8 (v3 + (1 : Int32)))))
def fX12_soon_P24 (σ : St) (v2 : Int32) (v3 : Int32) : Option (Int32 × St) := it (fun (kb : (Int32 × Int32) → Option (Int32 × St)) (t : Int32 × Int32) => fX12_soon_L24 (fun v2 v3 => kb (v2, v3)) σ t.1 t.2) FU (v2, v3)
def fX12_soon (σ : St) (p0 : Int32) : Option (Int32 × St) :=
  (some (uI σ 30 (0 : Int32))).bind fun s1 => (fX12_areRolls s1 p0).bind fun x2 => if (bi x2) = 0 then (some ((-1 : Int32), s1))
  else ((fX12_goRehearsal s1 p0).bind fun s3 => fX12_soon_P24 s3 (0 : Int32) (0 : Int32))
def fX12_speech (σ : St) (p0 : Int32) (p1 : Int32) : Option (Int32 × St) :=
  (fX12_isSpeech σ p0).bind fun x1 => if (bi x1) = 0 then ((some (uI σ 30 (1 : Int32))).bind fun s2 => if (zI s2 30) ≤ 0 then (if p1 = 0 then ((rd (zA s2 62) 144 p0).bind fun x6 => some (x6, s2))
  else (if p1 = (1 : Int32) then ((rd (zA s2 61) 144 p0).bind fun x5 => some (x5, s2))
  else ((rd (zA s2 62) 144 p0).bind fun x3 => (rd (zA s2 66) 1728 ((((12 : Int32) * p0) + x3) - (1 : Int32))).bind fun x4 => some (x4, s2))))
  else (some ((0 : Int32), s2)))
  else ((fX12_isIn p1 (0 : Int32) (2 : Int32)).bind fun x7 => if (bi x7) = 0 then ((some (uI σ 30 (1 : Int32))).bind fun s8 => if (zI s8 30) ≤ 0 then (if p1 = 0 then ((rd (zA s8 62) 144 p0).bind fun x12 => some (x12, s8))
  else (if p1 = (1 : Int32) then ((rd (zA s8 61) 144 p0).bind fun x11 => some (x11, s8))
  else ((rd (zA s8 62) 144 p0).bind fun x9 => (rd (zA s8 66) 1728 ((((12 : Int32) * p0) + x9) - (1 : Int32))).bind fun x10 => some (x10, s8))))
  else (some ((0 : Int32), s8)))
  else ((some (uI σ 30 (0 : Int32))).bind fun s13 => if (zI s13 30) ≤ 0 then (if p1 = 0 then ((rd (zA s13 62) 144 p0).bind fun x17 => some (x17, s13))
  else (if p1 = (1 : Int32) then ((rd (zA s13 61) 144 p0).bind fun x16 => some (x16, s13))
  else ((rd (zA s13 62) 144 p0).bind fun x14 => (rd (zA s13 66) 1728 ((((12 : Int32) * p0) + x14) - (1 : Int32))).bind fun x15 => some (x15, s13))))
  else (some ((0 : Int32), s13))))
def fX12_sure_L65 (v2 : Int32) (v3 : Int32) (v4 : Int32) (v5 : Int32) (k1 : Int64 → Option (Int32 × St)) (kb : Int64 → Int32 → Option (Int32 × St)) (σ : St) (v6 : Int64) (v8 : Int32) : Option (Int32 × St) :=
  if (zI σ 46) ≤ v8 then (k1 v6)
  else ((fX12_saidOf σ v8 v4).bind fun x9 => nz (16 : Int32) (if x9 = ((v2 - v2 / (16 : Int32) * (16 : Int32)) + (1 : Int32)) then ((fX12_saidOf σ v8 v5).bind fun x10 => nz (16 : Int32) (if x10 = (v3 - v3 / (16 : Int32) * (16 : Int32)) then ((some (((((9 : Int32) * v8) + v4) + (1 : Int32)))).bind fun x11 => (rd (zA σ 73) 9 v5).bind fun x12 => (some (((((9 : Int32) * (v8 + x12)) + v5) + (1 : Int32)))).bind fun x13 => (rd (zA σ 75) 180009 x11).bind fun x14 => (fX12_gapOf σ v8 (v4 + (1 : Int32)) v5).bind fun x15 => (rd (zA σ 74) 180009 x13).bind fun x16 => (rd (zA σ 74) 180009 (0 : Int32)).bind fun x17 => if ((x14 + x15) + x16) = x17 then ((rd (zB σ 77) 180009 x11).bind fun x18 => (rd (zB σ 76) 180009 x13).bind fun x19 => (some ((v6 + (x18 * x19)))).bind fun x20 => kb x20 (v8 + (1 : Int32)))
  else (kb v6 (v8 + (1 : Int32))))
  else (kb v6 (v8 + (1 : Int32)))))
  else (kb v6 (v8 + (1 : Int32)))))
def fX12_sure_P65 (v2 : Int32) (v3 : Int32) (v4 : Int32) (v5 : Int32) (k1 : Int64 → Option (Int32 × St)) (σ : St) (v6 : Int64) (v8 : Int32) : Option (Int32 × St) := it (fun (kb : (Int64 × Int32) → Option (Int32 × St)) (t : Int64 × Int32) => fX12_sure_L65 v2 v3 v4 v5 k1 (fun v6 v8 => kb (v6, v8)) σ t.1 t.2) FU (v6, v8)
def fX12_sure (σ : St) (p0 : Int32) (p1 : Int32) (p2 : Int32) : Option (Int32 × St) :=
  (some (uI σ 30 (0 : Int32))).bind fun s1 => (fX12_isOf s1 p1 p0).bind fun x2 => if (bi x2) = 0 then (some ((-2 : Int32), s1))
  else ((fX12_isOf s1 p2 p0).bind fun x3 => if (bi x3) = 0 then (some ((-2 : Int32), s1))
  else (if p1 = p2 then (some ((-2 : Int32), s1))
  else ((fX12_isSmall s1 p0).bind fun r4 => if (bi r4.1) = 0 then (some ((-2 : Int32), r4.2))
  else ((fX12_layLeft r4.2).bind fun s5 => (fX12_laySoFar s5).bind fun s6 => nz (16 : Int32) ((some ((p1 / (16 : Int32)))).bind fun x7 => nz (16 : Int32) ((some ((p2 / (16 : Int32)))).bind fun x8 => fX12_sure_P65 p1 p2 x7 x8 (fun x21 => if (lg_cmp x21 (0 : Int64)) = 0 then (some ((0 : Int32), s6))
  else ((rd (zB s6 76) 180009 (0 : Int32)).bind fun x22 => if (lg_cmp x21 x22) = 0 then (some ((1 : Int32), s6))
  else (some ((-1 : Int32), s6)))) s6 (0 : Int64) (0 : Int32)))))))
def fX12_tempted_L29 (v1 : Int32) (v3 : Int32) (k1 : Int32 → Option (Int32 × St)) (kb : Int32 → Int32 → Option (Int32 × St)) (σ : St) (v2 : Int32) (v4 : Int32) : Option (Int32 × St) :=
  if (128 : Int32) ≤ v4 then (k1 v2)
  else ((fX12_isOf σ v3 v1).bind fun x3 => if (bi x3) = 0 then ((some ((v2 + (0 : Int32)))).bind fun x4 => kb x4 (v4 + (1 : Int32)))
  else ((fX12_isOf σ v4 v1).bind fun x5 => if (bi x5) = 0 then ((some ((v2 + (0 : Int32)))).bind fun x6 => kb x6 (v4 + (1 : Int32)))
  else ((fX12_insideOf σ v3 v4).bind fun x7 => if x7 = (-1 : Int32) then ((some ((v2 + (0 : Int32)))).bind fun x8 => kb x8 (v4 + (1 : Int32)))
  else ((some ((v2 + (1 : Int32)))).bind fun x9 => kb x9 (v4 + (1 : Int32))))))
def fX12_tempted_P29 (v1 : Int32) (v3 : Int32) (k1 : Int32 → Option (Int32 × St)) (σ : St) (v2 : Int32) (v4 : Int32) : Option (Int32 × St) := it (fun (kb : (Int32 × Int32) → Option (Int32 × St)) (t : Int32 × Int32) => fX12_tempted_L29 v1 v3 k1 (fun v2 v4 => kb (v2, v4)) σ t.1 t.2) FU (v2, v4)
def fX12_tempted_L19 (v1 : Int32) (kb : Int32 → Int32 → Option (Int32 × St)) (σ : St) (v2 : Int32) (v3 : Int32) : Option (Int32 × St) :=
  if (128 : Int32) ≤ v3 then (some (v2, σ))
  else (fX12_tempted_P29 v1 v3 (fun x10 => kb x10 (v3 + (1 : Int32))) σ v2 (0 : Int32))
def fX12_tempted_P19 (v1 : Int32) (σ : St) (v2 : Int32) (v3 : Int32) : Option (Int32 × St) := it (fun (kb : (Int32 × Int32) → Option (Int32 × St)) (t : Int32 × Int32) => fX12_tempted_L19 v1 (fun v2 v3 => kb (v2, v3)) σ t.1 t.2) FU (v2, v3)
def fX12_tempted (σ : St) (p0 : Int32) : Option (Int32 × St) :=
  (some (uI σ 30 (0 : Int32))).bind fun s1 => (fX12_areRolls s1 p0).bind fun x2 => if (bi x2) = 0 then (some ((-1 : Int32), s1))
  else (fX12_tempted_P19 p0 s1 (0 : Int32) (0 : Int32))
def fX12_text_L184 (k1 : St → Option (Int32 × St)) (kb : St → Int32 → Option (Int32 × St)) (σ : St) (v2 : Int32) : Option (Int32 × St) :=
  if (zI σ 31) ≤ v2 then (k1 σ)
  else ((rd (zA σ 55) 200 v2).bind fun x4 => wr 800 (((200 : Int32) * (zI σ 34)) + v2) ((some (uA σ 57 (upd (zA σ 57) (Int32.toNatClampNeg (((200 : Int32) * (zI σ 34)) + v2)) (vp_nar .byte x4)))).bind fun s5 => kb s5 (v2 + (1 : Int32))))
def fX12_text_P184 (k1 : St → Option (Int32 × St)) (σ : St) (v2 : Int32) : Option (Int32 × St) := it (fun (kb : (St × Int32) → Option (Int32 × St)) (t : St × Int32) => fX12_text_L184 k1 (fun σ v2 => kb (σ, v2)) t.1 t.2) FU (σ, v2)
def fX12_text_L80 (k1 : St → Option (Int32 × St)) (kb : St → Int32 → Option (Int32 × St)) (σ : St) (v2 : Int32) : Option (Int32 × St) :=
  if (zI σ 31) ≤ v2 then (k1 σ)
  else ((rd (zA σ 55) 200 v2).bind fun x14 => wr 1800 (((200 : Int32) * (zI σ 32)) + v2) ((some (uA σ 56 (upd (zA σ 56) (Int32.toNatClampNeg (((200 : Int32) * (zI σ 32)) + v2)) (vp_nar .byte x14)))).bind fun s15 => kb s15 (v2 + (1 : Int32))))
def fX12_text_P80 (k1 : St → Option (Int32 × St)) (σ : St) (v2 : Int32) : Option (Int32 × St) := it (fun (kb : (St × Int32) → Option (Int32 × St)) (t : St × Int32) => fX12_text_L80 k1 (fun σ v2 => kb (σ, v2)) t.1 t.2) FU (σ, v2)
def fX12_text_J55 (σ : St) (v1 : Int32) : Option (Int32 × St) :=
  (fX12_fault σ v1).bind fun r3 => if r3.1 = (-1 : Int32) then (if v1 = 0 then ((fX12_readRoll r3.2 (zI r3.2 32)).bind fun s13 => fX12_text_P80 (fun s16 => wr 8 (zI s16 32) ((some (uA s16 69 (upd (zA s16 69) (Int32.toNatClampNeg (zI s16 32)) (-1 : Int32)))).bind fun s17 => (some (uI s17 31 (0 : Int32))).bind fun s18 => (some (uI s18 32 ((zI s18 32) + (1 : Int32)))).bind fun s19 => some (((zI s19 32) - (1 : Int32)), s19))) s13 (0 : Int32))
  else (if v1 = (1 : Int32) then ((fX12_readPlot r3.2 (zI r3.2 33)).bind fun s10 => (some (uI s10 31 (0 : Int32))).bind fun s11 => (some (uI s11 33 ((zI s11 33) + (1 : Int32)))).bind fun s12 => some (((zI s12 33) - (1 : Int32)), s12))
  else (fX12_text_P184 (fun s6 => wr 4 (zI s6 34) ((some (uA s6 58 (upd (zA s6 58) (Int32.toNatClampNeg (zI s6 34)) (zI s6 31)))).bind fun s7 => (some (uI s7 31 (0 : Int32))).bind fun s8 => (some (uI s8 34 ((zI s8 34) + (1 : Int32)))).bind fun s9 => some (((zI s9 34) - (1 : Int32)), s9))) r3.2 (0 : Int32))))
  else (some ((-1 : Int32), r3.2))
def fX12_text (σ : St) (p0 : Int32) : Option (Int32 × St) :=
  (some (uI σ 30 (0 : Int32))).bind fun s1 => (fX12_isIn p0 (0 : Int32) (2 : Int32)).bind fun x2 => if (bi x2) = 0 then (some ((-1 : Int32), s1))
  else (if p0 = 0 then (if (zI s1 32) = (8 : Int32) then (some ((-1 : Int32), s1))
  else (if p0 = (1 : Int32) then (if (zI s1 33) = (4 : Int32) then (some ((-1 : Int32), s1))
  else (if p0 = (2 : Int32) then (if (zI s1 34) = (4 : Int32) then (some ((-1 : Int32), s1))
  else (fX12_text_J55 s1 p0))
  else (fX12_text_J55 s1 p0)))
  else (if p0 = (2 : Int32) then (if (zI s1 34) = (4 : Int32) then (some ((-1 : Int32), s1))
  else (fX12_text_J55 s1 p0))
  else (fX12_text_J55 s1 p0))))
  else (if p0 = (1 : Int32) then (if (zI s1 33) = (4 : Int32) then (some ((-1 : Int32), s1))
  else (if p0 = (2 : Int32) then (if (zI s1 34) = (4 : Int32) then (some ((-1 : Int32), s1))
  else (fX12_text_J55 s1 p0))
  else (fX12_text_J55 s1 p0)))
  else (if p0 = (2 : Int32) then (if (zI s1 34) = (4 : Int32) then (some ((-1 : Int32), s1))
  else (fX12_text_J55 s1 p0))
  else (fX12_text_J55 s1 p0))))
def fX12_thrown (σ : St) : Option Int32 :=
  some (zI σ 30)
def fX12_worth_L28 (v1 : Int32) (v2 : Int32) (kb : St → Int32 → Int32 → Option (Int32 × St)) (σ : St) (v3 : Int32) (v4 : Int32) : Option (Int32 × St) :=
  (rd (zA σ 60) 9 v1).bind fun x4 => if x4 ≤ v4 then (some (v3, σ))
  else ((rd (zA σ 62) 144 (((16 : Int32) * v1) + v4)).bind fun x5 => (some (((((12 : Int32) * (((16 : Int32) * v1) + v4)) + x5) - (1 : Int32)))).bind fun x6 => (rd (zA σ 65) 1728 x6).bind fun x7 => (rd (zA σ 66) 1728 x6).bind fun x8 => (rd (zA σ 62) 144 (((16 : Int32) * v1) + v4)).bind fun x9 => if x9 ≤ (1 : Int32) then ((fX12_worthOf σ v2 v1 x7 x8 (0 : Int32)).bind fun r10 => (some ((v3 + r10.1))).bind fun x11 => kb r10.2 x11 (v4 + (1 : Int32)))
  else ((rd (zA σ 66) 1728 (x6 - (1 : Int32))).bind fun x12 => (fX12_worthOf σ v2 v1 x7 x8 x12).bind fun r13 => (some ((v3 + r13.1))).bind fun x14 => kb r13.2 x14 (v4 + (1 : Int32))))
def fX12_worth_P28 (v1 : Int32) (v2 : Int32) (σ : St) (v3 : Int32) (v4 : Int32) : Option (Int32 × St) := it (fun (kb : (St × Int32 × Int32) → Option (Int32 × St)) (t : St × Int32 × Int32) => fX12_worth_L28 v1 v2 (fun σ v3 v4 => kb (σ, v3, v4)) t.1 t.2.1 t.2.2) FU (σ, v3, v4)
def fX12_worth (σ : St) (p0 : Int32) (p1 : Int32) : Option (Int32 × St) :=
  (some (uI σ 30 (0 : Int32))).bind fun s1 => (fX12_isRoll s1 p0).bind fun x2 => if (bi x2) = 0 then (some ((-1 : Int32), s1))
  else ((fX12_isHabit s1 p1).bind fun x3 => if (bi x3) = 0 then (some ((-1 : Int32), s1))
  else (fX12_worth_P28 p0 p1 s1 (0 : Int32) (0 : Int32)))
def fX12_wrong_L9 (v1 : Int32) (k1 : Int32 → Option (Int32 × St)) (kb : Int32 → Int32 → Option (Int32 × St)) (σ : St) (v2 : Int32) (v3 : Int32) : Option (Int32 × St) :=
  if (zI σ 48) ≤ v3 then (k1 v2)
  else ((fX12_isWrong σ v3).bind fun x2 => if (bi x2) = 0 then (kb v2 (v3 + (1 : Int32)))
  else (if v2 = v1 then (some (v3, σ))
  else (kb (v2 + (1 : Int32)) (v3 + (1 : Int32)))))
def fX12_wrong_P9 (v1 : Int32) (k1 : Int32 → Option (Int32 × St)) (σ : St) (v2 : Int32) (v3 : Int32) : Option (Int32 × St) := it (fun (kb : (Int32 × Int32) → Option (Int32 × St)) (t : Int32 × Int32) => fX12_wrong_L9 v1 k1 (fun v2 v3 => kb (v2, v3)) σ t.1 t.2) FU (v2, v3)
def fX12_wrong (σ : St) (p0 : Int32) : Option (Int32 × St) :=
  (some (uI σ 30 (0 : Int32))).bind fun s1 => fX12_wrong_P9 p0 (fun x3 => if p0 = (-1 : Int32) then (some (x3, s1))
  else (some ((-1 : Int32), s1))) s1 (0 : Int32) (0 : Int32)
def fX5_needs_p (σ : St) (p0 : Int32) : Option St :=
  (fX5_sign_p σ).bind fun x1 => if x1 = p0 then ((some (uI σ 6 ((zI σ 6) + (1 : Int32)))).bind fun s3 => some s3)
  else ((fX5_spoil_p σ).bind fun s2 => some s2)
def fX5_value_p (σ : St) : Option Int64 :=
  if (zI σ 6) < 0 then (some (0 : Int64))
  else (isl (lenB σ (zR σ 1)) (if (Int32.ofNat (lenB σ (zR σ 1))) ≤ (zI σ 6) then (some (0 : Int64))
  else ((rd (zB σ (zR σ 1)) (lenB σ (zR σ 1)) (zI σ 6)).bind fun x1 => some (x1 - (1000 : Int64)))))
/-- the law's speech(): what it answers; its place in out, or an exception's cell -/
def fL_speech_88 (σ : St) (a b : Int32) : Option (Int32 × St) := (fX7_has σ a).bind fun h => if h = true ∧ 0 ≤ b ∧ b ≤ 2 then ((if b = 0 then fX7_wordsOf σ a else if b = 1 then fX7_cueWordsOf σ a else (fX7_lastWord σ a).bind fun w => fX10_letters w).bind fun v => some (0, uB σ 88 (vp_updL (zB σ 88) 0 (Int32.toInt64 v)))) else some (1, uN (uN σ 0 (zN σ 0 + 1)) 1 (zN σ 1 + 6))
def fL_law_300_J1543 (xs : Nat → Int32) (n : Nat) (kb : St → Int32 → Option (Bool × St)) (σ : St) (v4 : Int32) : Option (Bool × St) :=
  kb σ (v4 + (6 : Int32))
def fL_law_300_L23 (xs : Nat → Int32) (n : Nat) (kb : St → Int32 → Option (Bool × St)) (σ : St) (v4 : Int32) : Option (Bool × St) :=
  if ((Int32.ofNat n) - (6 : Int32)) < v4 then (some (true, σ))
  else ((rd xs n v4).bind fun x1 => if (x1 &&& (63 : Int32)) = 0 then ((rd xs n (v4 + (1 : Int32))).bind fun x2 => (rd xs n (v4 + (2 : Int32))).bind fun x3 => (rd xs n (v4 + (3 : Int32))).bind fun x4 => (rd xs n (v4 + (4 : Int32))).bind fun x5 => (rd xs n (v4 + (5 : Int32))).bind fun x6 => (fX11_feed σ x2 x3 x4 x5 x6).bind fun r7 => (rd xs n (v4 + (1 : Int32))).bind fun x8 => (rd xs n (v4 + (2 : Int32))).bind fun x9 => (rd xs n (v4 + (3 : Int32))).bind fun x10 => (rd xs n (v4 + (4 : Int32))).bind fun x11 => (rd xs n (v4 + (5 : Int32))).bind fun x12 => (fX12_feed r7.2 x8 x9 x10 x11 x12).bind fun r13 => if r7.1 = r13.1 then (fL_law_300_J1543 xs n kb r13.2 v4)
  else (some (false, r13.2)))
  else (if (x1 &&& (63 : Int32)) = 1 then ((rd xs n (v4 + (1 : Int32))).bind fun x14 => (fX11_end σ x14).bind fun r15 => (rd xs n (v4 + (1 : Int32))).bind fun x16 => (fX12_end r15.2 x16).bind fun r17 => if (bi r15.1) = (bi r17.1) then (fL_law_300_J1543 xs n kb r17.2 v4)
  else (some (false, r17.2)))
  else (if (x1 &&& (63 : Int32)) = 2 then ((rd xs n (v4 + (1 : Int32))).bind fun x18 => (fX11_fault σ x18).bind fun r19 => (rd xs n (v4 + (1 : Int32))).bind fun x20 => (fX12_fault r19.2 x20).bind fun r21 => if r19.1 = r21.1 then (fL_law_300_J1543 xs n kb r21.2 v4)
  else (some (false, r21.2)))
  else (if (x1 &&& (63 : Int32)) = 3 then ((rd xs n (v4 + (1 : Int32))).bind fun x22 => (fX11_text σ x22).bind fun r23 => (rd xs n (v4 + (1 : Int32))).bind fun x24 => (fX12_text r23.2 x24).bind fun r25 => if r23.1 = r25.1 then (fL_law_300_J1543 xs n kb r25.2 v4)
  else (some (false, r25.2)))
  else (if (x1 &&& (63 : Int32)) = 4 then ((rd xs n (v4 + (1 : Int32))).bind fun x26 => (rd xs n (v4 + (2 : Int32))).bind fun x27 => (fL_speech_88 σ x26 x27).bind fun r28 => (rd xs n (v4 + (1 : Int32))).bind fun x29 => (rd xs n (v4 + (2 : Int32))).bind fun x30 => (fX12_speech r28.2 x29 x30).bind fun r31 => (fX12_thrown r31.2).bind fun x32 => if x32 = r28.1 then (if r28.1 = 0 then ((rd (zB r31.2 88) 1 (0 : Int32)).bind fun x33 => if (lg_cmp x33 (Int32.toInt64 r31.1)) = 0 then (fL_law_300_J1543 xs n kb r31.2 v4)
  else (some (false, r31.2)))
  else (fL_law_300_J1543 xs n kb r31.2 v4))
  else (some (false, r31.2)))
  else (if (x1 &&& (63 : Int32)) = 5 then ((rd xs n (v4 + (1 : Int32))).bind fun x34 => (fX11_many σ x34).bind fun x35 => (rd xs n (v4 + (1 : Int32))).bind fun x36 => (fX12_many σ x36).bind fun r37 => if x35 = r37.1 then (fL_law_300_J1543 xs n kb r37.2 v4)
  else (some (false, r37.2)))
  else (if (x1 &&& (63 : Int32)) = 6 then ((rd xs n (v4 + (1 : Int32))).bind fun x38 => (rd xs n (v4 + (2 : Int32))).bind fun x39 => (fX11_ends σ x38 x39).bind fun x40 => (rd xs n (v4 + (1 : Int32))).bind fun x41 => (rd xs n (v4 + (2 : Int32))).bind fun x42 => (fX12_ends σ x41 x42).bind fun r43 => if x40 = r43.1 then (fL_law_300_J1543 xs n kb r43.2 v4)
  else (some (false, r43.2)))
  else (if (x1 &&& (63 : Int32)) = 7 then ((rd xs n (v4 + (1 : Int32))).bind fun x44 => (rd xs n (v4 + (2 : Int32))).bind fun x45 => (fX11_far σ x44 x45).bind fun r46 => (rd xs n (v4 + (1 : Int32))).bind fun x47 => (rd xs n (v4 + (2 : Int32))).bind fun x48 => (fX12_far r46.2 x47 x48).bind fun r49 => if r46.1 = r49.1 then (fL_law_300_J1543 xs n kb r49.2 v4)
  else (some (false, r49.2)))
  else (if (x1 &&& (63 : Int32)) = 8 then ((rd xs n (v4 + (1 : Int32))).bind fun x50 => (fX11_limit σ x50).bind fun r51 => (rd xs n (v4 + (1 : Int32))).bind fun x52 => (fX12_limit r51.2 x52).bind fun r53 => if (bi r51.1) = (bi r53.1) then (fL_law_300_J1543 xs n kb r53.2 v4)
  else (some (false, r53.2)))
  else (if (x1 &&& (63 : Int32)) = 9 then ((rd xs n (v4 + (1 : Int32))).bind fun x54 => (rd xs n (v4 + (2 : Int32))).bind fun x55 => (fX11_kind σ x54 x55).bind fun r56 => (rd xs n (v4 + (1 : Int32))).bind fun x57 => (rd xs n (v4 + (2 : Int32))).bind fun x58 => (fX12_kind r56.2 x57 x58).bind fun r59 => if r56.1 = r59.1 then (fL_law_300_J1543 xs n kb r59.2 v4)
  else (some (false, r59.2)))
  else (if (x1 &&& (63 : Int32)) = 10 then ((rd xs n (v4 + (1 : Int32))).bind fun x60 => (rd xs n (v4 + (2 : Int32))).bind fun x61 => (fX11_kinds σ x60 x61).bind fun r62 => (rd xs n (v4 + (1 : Int32))).bind fun x63 => (rd xs n (v4 + (2 : Int32))).bind fun x64 => (fX12_kinds r62.2 x63 x64).bind fun r65 => if r62.1 = r65.1 then (fL_law_300_J1543 xs n kb r65.2 v4)
  else (some (false, r65.2)))
  else (if (x1 &&& (63 : Int32)) = 11 then ((rd xs n (v4 + (1 : Int32))).bind fun x66 => (rd xs n (v4 + (2 : Int32))).bind fun x67 => (fX11_nearest σ x66 x67).bind fun r68 => (rd xs n (v4 + (1 : Int32))).bind fun x69 => (rd xs n (v4 + (2 : Int32))).bind fun x70 => (fX12_nearest r68.2 x69 x70).bind fun r71 => if r68.1 = r71.1 then (fL_law_300_J1543 xs n kb r71.2 v4)
  else (some (false, r71.2)))
  else (if (x1 &&& (63 : Int32)) = 12 then ((rd xs n (v4 + (1 : Int32))).bind fun x72 => (fX11_least σ x72).bind fun r73 => (rd xs n (v4 + (1 : Int32))).bind fun x74 => (fX12_least r73.2 x74).bind fun r75 => if r73.1 = r75.1 then (fL_law_300_J1543 xs n kb r75.2 v4)
  else (some (false, r75.2)))
  else (if (x1 &&& (63 : Int32)) = 13 then ((rd xs n (v4 + (1 : Int32))).bind fun x76 => (fX11_orders σ x76).bind fun r77 => (rd xs n (v4 + (1 : Int32))).bind fun x78 => (fX12_orders r77.2 x78).bind fun r79 => if (lg_cmp r77.1 r79.1) = 0 then (fL_law_300_J1543 xs n kb r79.2 v4)
  else (some (false, r79.2)))
  else (if (x1 &&& (63 : Int32)) = 14 then ((rd xs n (v4 + (1 : Int32))).bind fun x80 => (rd xs n (v4 + (2 : Int32))).bind fun x81 => (fX11_first σ x80 x81).bind fun r82 => (rd xs n (v4 + (1 : Int32))).bind fun x83 => (rd xs n (v4 + (2 : Int32))).bind fun x84 => (fX12_first r82.2 x83 x84).bind fun r85 => if r82.1 = r85.1 then (fL_law_300_J1543 xs n kb r85.2 v4)
  else (some (false, r85.2)))
  else (if (x1 &&& (63 : Int32)) = 15 then ((rd xs n (v4 + (1 : Int32))).bind fun x86 => (rd xs n (v4 + (2 : Int32))).bind fun x87 => (rd xs n (v4 + (3 : Int32))).bind fun x88 => (fX11_sure σ x86 x87 x88).bind fun r89 => (rd xs n (v4 + (1 : Int32))).bind fun x90 => (rd xs n (v4 + (2 : Int32))).bind fun x91 => (rd xs n (v4 + (3 : Int32))).bind fun x92 => (fX12_sure r89.2 x90 x91 x92).bind fun r93 => if r89.1 = r93.1 then (fL_law_300_J1543 xs n kb r93.2 v4)
  else (some (false, r93.2)))
  else (if (x1 &&& (63 : Int32)) = 16 then ((rd xs n (v4 + (1 : Int32))).bind fun x94 => (fX11_length σ x94).bind fun r95 => (rd xs n (v4 + (1 : Int32))).bind fun x96 => (fX12_length r95.2 x96).bind fun r97 => if r95.1 = r97.1 then (fL_law_300_J1543 xs n kb r97.2 v4)
  else (some (false, r97.2)))
  else (if (x1 &&& (63 : Int32)) = 17 then ((rd xs n (v4 + (1 : Int32))).bind fun x98 => (fX11_one σ x98).bind fun r99 => (rd xs n (v4 + (1 : Int32))).bind fun x100 => (fX12_one r99.2 x100).bind fun r101 => if r99.1 = r101.1 then (fL_law_300_J1543 xs n kb r101.2 v4)
  else (some (false, r101.2)))
  else (if (x1 &&& (63 : Int32)) = 18 then ((rd xs n (v4 + (1 : Int32))).bind fun x102 => (rd xs n (v4 + (2 : Int32))).bind fun x103 => (fX11_settles σ x102 x103).bind fun x104 => (rd xs n (v4 + (1 : Int32))).bind fun x105 => (rd xs n (v4 + (2 : Int32))).bind fun x106 => (fX12_settles σ x105 x106).bind fun r107 => if x104 = r107.1 then (fL_law_300_J1543 xs n kb r107.2 v4)
  else (some (false, r107.2)))
  else (if (x1 &&& (63 : Int32)) = 19 then ((rd xs n (v4 + (1 : Int32))).bind fun x108 => (fX11_next σ x108).bind fun x109 => (rd xs n (v4 + (1 : Int32))).bind fun x110 => (fX12_next σ x110).bind fun r111 => if x109 = r111.1 then (fL_law_300_J1543 xs n kb r111.2 v4)
  else (some (false, r111.2)))
  else (if (x1 &&& (63 : Int32)) = 20 then ((rd xs n (v4 + (1 : Int32))).bind fun x112 => (fX11_act σ x112).bind fun r113 => (rd xs n (v4 + (1 : Int32))).bind fun x114 => (fX12_act r113.2 x114).bind fun r115 => if r113.1 = r115.1 then (fL_law_300_J1543 xs n kb r115.2 v4)
  else (some (false, r115.2)))
  else (if (x1 &&& (63 : Int32)) = 21 then ((rd xs n (v4 + (1 : Int32))).bind fun x116 => (fX11_play σ x116).bind fun x117 => (rd xs n (v4 + (1 : Int32))).bind fun x118 => (fX12_play σ x118).bind fun r119 => if x117 = r119.1 then (fL_law_300_J1543 xs n kb r119.2 v4)
  else (some (false, r119.2)))
  else (if (x1 &&& (63 : Int32)) = 22 then ((rd xs n (v4 + (1 : Int32))).bind fun x120 => (fX11_wrong σ x120).bind fun x121 => (rd xs n (v4 + (1 : Int32))).bind fun x122 => (fX12_wrong σ x122).bind fun r123 => if x121 = r123.1 then (fL_law_300_J1543 xs n kb r123.2 v4)
  else (some (false, r123.2)))
  else (if (x1 &&& (63 : Int32)) = 23 then ((rd xs n (v4 + (1 : Int32))).bind fun x124 => (rd xs n (v4 + (2 : Int32))).bind fun x125 => (fX11_rehearse σ x124 x125).bind fun r126 => (rd xs n (v4 + (1 : Int32))).bind fun x127 => (rd xs n (v4 + (2 : Int32))).bind fun x128 => (fX12_rehearse r126.2 x127 x128).bind fun r129 => if r126.1 = r129.1 then (fL_law_300_J1543 xs n kb r129.2 v4)
  else (some (false, r129.2)))
  else (if (x1 &&& (63 : Int32)) = 24 then ((rd xs n (v4 + (1 : Int32))).bind fun x130 => (fX11_soon σ x130).bind fun r131 => (rd xs n (v4 + (1 : Int32))).bind fun x132 => (fX12_soon r131.2 x132).bind fun r133 => if r131.1 = r133.1 then (fL_law_300_J1543 xs n kb r133.2 v4)
  else (some (false, r133.2)))
  else (if (x1 &&& (63 : Int32)) = 25 then ((rd xs n (v4 + (1 : Int32))).bind fun x134 => (rd xs n (v4 + (2 : Int32))).bind fun x135 => (fX11_inside σ x134 x135).bind fun x136 => (rd xs n (v4 + (1 : Int32))).bind fun x137 => (rd xs n (v4 + (2 : Int32))).bind fun x138 => (fX12_inside σ x137 x138).bind fun r139 => if x136 = r139.1 then (fL_law_300_J1543 xs n kb r139.2 v4)
  else (some (false, r139.2)))
  else (if (x1 &&& (63 : Int32)) = 26 then ((rd xs n (v4 + (1 : Int32))).bind fun x140 => (fX11_tempted σ x140).bind fun x141 => (rd xs n (v4 + (1 : Int32))).bind fun x142 => (fX12_tempted σ x142).bind fun r143 => if x141 = r143.1 then (fL_law_300_J1543 xs n kb r143.2 v4)
  else (some (false, r143.2)))
  else (if (x1 &&& (63 : Int32)) = 27 then ((rd xs n (v4 + (1 : Int32))).bind fun x144 => (fX11_boys σ x144).bind fun r145 => (rd xs n (v4 + (1 : Int32))).bind fun x146 => (fX12_boys r145.2 x146).bind fun r147 => if (bi r145.1) = (bi r147.1) then (fL_law_300_J1543 xs n kb r147.2 v4)
  else (some (false, r147.2)))
  else (if (x1 &&& (63 : Int32)) = 28 then ((rd xs n (v4 + (1 : Int32))).bind fun x148 => (rd xs n (v4 + (2 : Int32))).bind fun x149 => (fX11_plot σ x148 x149).bind fun x150 => (rd xs n (v4 + (1 : Int32))).bind fun x151 => (rd xs n (v4 + (2 : Int32))).bind fun x152 => (fX12_plot σ x151 x152).bind fun r153 => if x150 = r153.1 then (fL_law_300_J1543 xs n kb r153.2 v4)
  else (some (false, r153.2)))
  else (if (x1 &&& (63 : Int32)) = 29 then ((rd xs n (v4 + (1 : Int32))).bind fun x154 => (rd xs n (v4 + (2 : Int32))).bind fun x155 => (rd xs n (v4 + (3 : Int32))).bind fun x156 => (rd xs n (v4 + (4 : Int32))).bind fun x157 => (fX11_bars σ x154 x155 x156 x157).bind fun r158 => (rd xs n (v4 + (1 : Int32))).bind fun x159 => (rd xs n (v4 + (2 : Int32))).bind fun x160 => (rd xs n (v4 + (3 : Int32))).bind fun x161 => (rd xs n (v4 + (4 : Int32))).bind fun x162 => (fX12_bars r158.2 x159 x160 x161 x162).bind fun r163 => if r158.1 = r163.1 then (fL_law_300_J1543 xs n kb r163.2 v4)
  else (some (false, r163.2)))
  else (if (x1 &&& (63 : Int32)) = 30 then ((rd xs n (v4 + (1 : Int32))).bind fun x164 => (rd xs n (v4 + (2 : Int32))).bind fun x165 => (rd xs n (v4 + (3 : Int32))).bind fun x166 => (fX11_cast σ x164 x165 x166).bind fun r167 => (rd xs n (v4 + (1 : Int32))).bind fun x168 => (rd xs n (v4 + (2 : Int32))).bind fun x169 => (rd xs n (v4 + (3 : Int32))).bind fun x170 => (fX12_cast r167.2 x168 x169 x170).bind fun r171 => if r167.1 = r171.1 then (fL_law_300_J1543 xs n kb r171.2 v4)
  else (some (false, r171.2)))
  else (if (x1 &&& (63 : Int32)) = 31 then ((rd xs n (v4 + (1 : Int32))).bind fun x172 => (rd xs n (v4 + (2 : Int32))).bind fun x173 => (fX11_crowd σ x172 x173).bind fun x174 => (rd xs n (v4 + (1 : Int32))).bind fun x175 => (rd xs n (v4 + (2 : Int32))).bind fun x176 => (fX12_crowd σ x175 x176).bind fun r177 => if x174 = r177.1 then (fL_law_300_J1543 xs n kb r177.2 v4)
  else (some (false, r177.2)))
  else (if (x1 &&& (63 : Int32)) = 32 then ((rd xs n (v4 + (1 : Int32))).bind fun x178 => (rd xs n (v4 + (2 : Int32))).bind fun x179 => (rd xs n (v4 + (3 : Int32))).bind fun x180 => (rd xs n (v4 + (4 : Int32))).bind fun x181 => (fX11_could σ x178 x179 x180 x181).bind fun r182 => (rd xs n (v4 + (1 : Int32))).bind fun x183 => (rd xs n (v4 + (2 : Int32))).bind fun x184 => (rd xs n (v4 + (3 : Int32))).bind fun x185 => (rd xs n (v4 + (4 : Int32))).bind fun x186 => (fX12_could r182.2 x183 x184 x185 x186).bind fun r187 => if r182.1 = r187.1 then (fL_law_300_J1543 xs n kb r187.2 v4)
  else (some (false, r187.2)))
  else (if (x1 &&& (63 : Int32)) = 33 then ((rd xs n (v4 + (1 : Int32))).bind fun x188 => (rd xs n (v4 + (2 : Int32))).bind fun x189 => (fX11_habit σ x188 x189).bind fun r190 => (rd xs n (v4 + (1 : Int32))).bind fun x191 => (rd xs n (v4 + (2 : Int32))).bind fun x192 => (fX12_habit r190.2 x191 x192).bind fun r193 => if (bi r190.1) = (bi r193.1) then (fL_law_300_J1543 xs n kb r193.2 v4)
  else (some (false, r193.2)))
  else (if (x1 &&& (63 : Int32)) = 34 then ((rd xs n (v4 + (1 : Int32))).bind fun x194 => (rd xs n (v4 + (2 : Int32))).bind fun x195 => (fX11_worth σ x194 x195).bind fun r196 => (rd xs n (v4 + (1 : Int32))).bind fun x197 => (rd xs n (v4 + (2 : Int32))).bind fun x198 => (fX12_worth r196.2 x197 x198).bind fun r199 => if r196.1 = r199.1 then (fL_law_300_J1543 xs n kb r199.2 v4)
  else (some (false, r199.2)))
  else (if (x1 &&& (63 : Int32)) = 35 then ((rd xs n (v4 + (1 : Int32))).bind fun x200 => (rd xs n (v4 + (2 : Int32))).bind fun x201 => (fX11_likely σ x200 x201).bind fun r202 => (rd xs n (v4 + (1 : Int32))).bind fun x203 => (rd xs n (v4 + (2 : Int32))).bind fun x204 => (fX12_likely r202.2 x203 x204).bind fun r205 => if r202.1 = r205.1 then (fL_law_300_J1543 xs n kb r205.2 v4)
  else (some (false, r205.2)))
  else (if (x1 &&& (63 : Int32)) = 36 then ((fX11_keep σ).bind fun r206 => (fX12_keep r206.2).bind fun r207 => if r206.1 = r207.1 then (fL_law_300_J1543 xs n kb r207.2 v4)
  else (some (false, r207.2)))
  else (if (x1 &&& (63 : Int32)) = 37 then ((fX11_back σ).bind fun r208 => (fX12_back r208.2).bind fun r209 => if r208.1 = r209.1 then (fL_law_300_J1543 xs n kb r209.2 v4)
  else (some (false, r209.2)))
  else (if (x1 &&& (63 : Int32)) = 38 then ((rd xs n (v4 + (1 : Int32))).bind fun x210 => (fX11_count σ x210).bind fun x211 => (rd xs n (v4 + (1 : Int32))).bind fun x212 => (fX12_count σ x212).bind fun r213 => if x211 = r213.1 then (fL_law_300_J1543 xs n kb r213.2 v4)
  else (some (false, r213.2)))
  else (fL_law_300_J1543 xs n kb σ v4))))))))))))))))))))))))))))))))))))))))
def fL_law_300_P23 (xs : Nat → Int32) (n : Nat) (σ : St) (v4 : Int32) : Option (Bool × St) := it (fun (kb : (St × Int32) → Option (Bool × St)) (t : St × Int32) => fL_law_300_L23 xs n (fun σ v4 => kb (σ, v4)) t.1 t.2) FU (σ, v4)
