theorem kLaw22 : chkR 0 990 45 = true := by decide +kernel
theorem kLaw23 : chkR 0 1035 45 = true := by decide +kernel
theorem kLaw24 : chkR 0 1080 45 = true := by decide +kernel
theorem kLaw25 : chkR 0 1125 45 = true := by decide +kernel
theorem kLaw26 : chkR 0 1170 45 = true := by decide +kernel
theorem kLaw27 : chkR 0 1215 45 = true := by decide +kernel
theorem kLaw28 : chkR 0 1260 45 = true := by decide +kernel
theorem kLaw29 : chkR 0 1305 45 = true := by decide +kernel
theorem kLawA : ∀ q, q < 30 → chkR 0 (45 * q) 45 = true := by
  intro q hq
  match q, hq with
  | 0, _ => exact kLaw0
  | 1, _ => exact kLaw1
  | 2, _ => exact kLaw2
  | 3, _ => exact kLaw3
  | 4, _ => exact kLaw4
  | 5, _ => exact kLaw5
  | 6, _ => exact kLaw6
  | 7, _ => exact kLaw7
  | 8, _ => exact kLaw8
  | 9, _ => exact kLaw9
  | 10, _ => exact kLaw10
  | 11, _ => exact kLaw11
  | 12, _ => exact kLaw12
  | 13, _ => exact kLaw13
  | 14, _ => exact kLaw14
  | 15, _ => exact kLaw15
  | 16, _ => exact kLaw16
  | 17, _ => exact kLaw17
  | 18, _ => exact kLaw18
  | 19, _ => exact kLaw19
  | 20, _ => exact kLaw20
  | 21, _ => exact kLaw21
  | 22, _ => exact kLaw22
  | 23, _ => exact kLaw23
  | 24, _ => exact kLaw24
  | 25, _ => exact kLaw25
  | 26, _ => exact kLaw26
  | 27, _ => exact kLaw27
  | 28, _ => exact kLaw28
  | 29, _ => exact kLaw29
  | q + 30, hq => exact absurd hq (by omega)
theorem kCL_law : okC 0 := okC_of2 45 30 (by decide) kLawA (by decide +kernel) (show ∀ pc, ¬ pc < 1350 → cdL_law pc = none from fun pc h => if_neg h)
