/-! a new model, at any geometry -/
def gM1 (G : GT) (c : Nat) : GT := putR (newA G 1 2) c 0 G.1
theorem gM1_1 {G : GT} {c : Nat} : (gM1 G c).1 = G.1 + 1 := rfl
theorem gM1_2 {G : GT} {c : Nat} : (gM1 G c).2.1 = G.2.1 + 2 := rfl
theorem gM1_s {G : GT} {c : Nat} (h : c < G.1) : shp (gM1 G c) c = shp G c := by
  unfold gM1
  rw [sh_pR, sh_nA h]
def gM2 (G : GT) (c : Nat) : GT := putR (newA (gM1 G c) 1 80) c 1 (G.1 + 1)
theorem gM2_1 {G : GT} {c : Nat} : (gM2 G c).1 = G.1 + 2 := rfl
theorem gM2_2 {G : GT} {c : Nat} : (gM2 G c).2.1 = G.2.1 + 82 := by
  have e := gM1_2 (G := G) (c := c)
  show (gM1 G c).2.1 + 80 = _
  omega
theorem gM2_s {G : GT} {c : Nat} (h : c < G.1) : shp (gM2 G c) c = shp G c := by
  unfold gM2
  rw [sh_pR, sh_nA (by rw [gM1_1]; omega), gM1_s h]
def gM3 (G : GT) (c : Nat) : GT := putR (newA (gM2 G c) 1 2) c 2 (G.1 + 2)
theorem gM3_1 {G : GT} {c : Nat} : (gM3 G c).1 = G.1 + 3 := rfl
theorem gM3_2 {G : GT} {c : Nat} : (gM3 G c).2.1 = G.2.1 + 84 := by
  have e := gM2_2 (G := G) (c := c)
  show (gM2 G c).2.1 + 2 = _
  omega
theorem gM3_s {G : GT} {c : Nat} (h : c < G.1) : shp (gM3 G c) c = shp G c := by
  unfold gM3
  rw [sh_pR, sh_nA (by rw [gM2_1]; omega), gM2_s h]
def gM4 (G : GT) (c : Nat) : GT := putR (newA (gM3 G c) 1 2) c 3 (G.1 + 3)
theorem gM4_1 {G : GT} {c : Nat} : (gM4 G c).1 = G.1 + 4 := rfl
theorem gM4_2 {G : GT} {c : Nat} : (gM4 G c).2.1 = G.2.1 + 86 := by
  have e := gM3_2 (G := G) (c := c)
  show (gM3 G c).2.1 + 2 = _
  omega
theorem gM4_s {G : GT} {c : Nat} (h : c < G.1) : shp (gM4 G c) c = shp G c := by
  unfold gM4
  rw [sh_pR, sh_nA (by rw [gM3_1]; omega), gM3_s h]
def gM5 (G : GT) (c : Nat) : GT := putR (newA (gM4 G c) 1 2) c 4 (G.1 + 4)
theorem gM5_1 {G : GT} {c : Nat} : (gM5 G c).1 = G.1 + 5 := rfl
theorem gM5_2 {G : GT} {c : Nat} : (gM5 G c).2.1 = G.2.1 + 88 := by
  have e := gM4_2 (G := G) (c := c)
  show (gM4 G c).2.1 + 2 = _
  omega
theorem gM5_s {G : GT} {c : Nat} (h : c < G.1) : shp (gM5 G c) c = shp G c := by
  unfold gM5
  rw [sh_pR, sh_nA (by rw [gM4_1]; omega), gM4_s h]
def gM6 (G : GT) (c : Nat) : GT := putR (newA (gM5 G c) 1 2) c 5 (G.1 + 5)
theorem gM6_1 {G : GT} {c : Nat} : (gM6 G c).1 = G.1 + 6 := rfl
theorem gM6_2 {G : GT} {c : Nat} : (gM6 G c).2.1 = G.2.1 + 90 := by
  have e := gM5_2 (G := G) (c := c)
  show (gM5 G c).2.1 + 2 = _
  omega
theorem gM6_s {G : GT} {c : Nat} (h : c < G.1) : shp (gM6 G c) c = shp G c := by
  unfold gM6
  rw [sh_pR, sh_nA (by rw [gM5_1]; omega), gM5_s h]
def gM7 (G : GT) (c : Nat) : GT := putR (newA (gM6 G c) 1 48) c 6 (G.1 + 6)
theorem gM7_1 {G : GT} {c : Nat} : (gM7 G c).1 = G.1 + 7 := rfl
theorem gM7_2 {G : GT} {c : Nat} : (gM7 G c).2.1 = G.2.1 + 138 := by
  have e := gM6_2 (G := G) (c := c)
  show (gM6 G c).2.1 + 48 = _
  omega
theorem gM7_s {G : GT} {c : Nat} (h : c < G.1) : shp (gM7 G c) c = shp G c := by
  unfold gM7
  rw [sh_pR, sh_nA (by rw [gM6_1]; omega), gM6_s h]
def gM8 (G : GT) (c : Nat) : GT := putR (newA (gM7 G c) 1 10) c 7 (G.1 + 7)
theorem gM8_1 {G : GT} {c : Nat} : (gM8 G c).1 = G.1 + 8 := rfl
theorem gM8_2 {G : GT} {c : Nat} : (gM8 G c).2.1 = G.2.1 + 148 := by
  have e := gM7_2 (G := G) (c := c)
  show (gM7 G c).2.1 + 10 = _
  omega
theorem gM8_s {G : GT} {c : Nat} (h : c < G.1) : shp (gM8 G c) c = shp G c := by
  unfold gM8
  rw [sh_pR, sh_nA (by rw [gM7_1]; omega), gM7_s h]
def gM9 (G : GT) (c : Nat) : GT := putR (newA (gM8 G c) 1 2) c 8 (G.1 + 8)
theorem gM9_1 {G : GT} {c : Nat} : (gM9 G c).1 = G.1 + 9 := rfl
theorem gM9_2 {G : GT} {c : Nat} : (gM9 G c).2.1 = G.2.1 + 150 := by
  have e := gM8_2 (G := G) (c := c)
  show (gM8 G c).2.1 + 2 = _
  omega
theorem gM9_s {G : GT} {c : Nat} (h : c < G.1) : shp (gM9 G c) c = shp G c := by
  unfold gM9
  rw [sh_pR, sh_nA (by rw [gM8_1]; omega), gM8_s h]
def gM10 (G : GT) (c : Nat) : GT := putR (newA (gM9 G c) 1 2) c 9 (G.1 + 9)
theorem gM10_1 {G : GT} {c : Nat} : (gM10 G c).1 = G.1 + 10 := rfl
theorem gM10_2 {G : GT} {c : Nat} : (gM10 G c).2.1 = G.2.1 + 152 := by
  have e := gM9_2 (G := G) (c := c)
  show (gM9 G c).2.1 + 2 = _
  omega
theorem gM10_s {G : GT} {c : Nat} (h : c < G.1) : shp (gM10 G c) c = shp G c := by
  unfold gM10
  rw [sh_pR, sh_nA (by rw [gM9_1]; omega), gM9_s h]
def gM11 (G : GT) (c : Nat) : GT := putR (newA (gM10 G c) 1 2) c 10 (G.1 + 10)
theorem gM11_1 {G : GT} {c : Nat} : (gM11 G c).1 = G.1 + 11 := rfl
theorem gM11_2 {G : GT} {c : Nat} : (gM11 G c).2.1 = G.2.1 + 154 := by
  have e := gM10_2 (G := G) (c := c)
  show (gM10 G c).2.1 + 2 = _
  omega
theorem gM11_s {G : GT} {c : Nat} (h : c < G.1) : shp (gM11 G c) c = shp G c := by
  unfold gM11
  rw [sh_pR, sh_nA (by rw [gM10_1]; omega), gM10_s h]
def gM12 (G : GT) (c : Nat) : GT := putR (newA (gM11 G c) 1 3000) c 11 (G.1 + 11)
theorem gM12_1 {G : GT} {c : Nat} : (gM12 G c).1 = G.1 + 12 := rfl
theorem gM12_2 {G : GT} {c : Nat} : (gM12 G c).2.1 = G.2.1 + 3154 := by
  have e := gM11_2 (G := G) (c := c)
  show (gM11 G c).2.1 + 3000 = _
  omega
theorem gM12_s {G : GT} {c : Nat} (h : c < G.1) : shp (gM12 G c) c = shp G c := by
  unfold gM12
  rw [sh_pR, sh_nA (by rw [gM11_1]; omega), gM11_s h]
def gM13 (G : GT) (c : Nat) : GT := putR (newA (gM12 G c) 1 3000) c 12 (G.1 + 12)
theorem gM13_1 {G : GT} {c : Nat} : (gM13 G c).1 = G.1 + 13 := rfl
theorem gM13_2 {G : GT} {c : Nat} : (gM13 G c).2.1 = G.2.1 + 6154 := by
  have e := gM12_2 (G := G) (c := c)
  show (gM12 G c).2.1 + 3000 = _
  omega
theorem gM13_s {G : GT} {c : Nat} (h : c < G.1) : shp (gM13 G c) c = shp G c := by
  unfold gM13
  rw [sh_pR, sh_nA (by rw [gM12_1]; omega), gM12_s h]
def gM14 (G : GT) (c : Nat) : GT := putR (newA (gM13 G c) 1 3000) c 13 (G.1 + 13)
theorem gM14_1 {G : GT} {c : Nat} : (gM14 G c).1 = G.1 + 14 := rfl
theorem gM14_2 {G : GT} {c : Nat} : (gM14 G c).2.1 = G.2.1 + 9154 := by
  have e := gM13_2 (G := G) (c := c)
  show (gM13 G c).2.1 + 3000 = _
  omega
theorem gM14_s {G : GT} {c : Nat} (h : c < G.1) : shp (gM14 G c) c = shp G c := by
  unfold gM14
  rw [sh_pR, sh_nA (by rw [gM13_1]; omega), gM13_s h]
def gM15 (G : GT) (c : Nat) : GT := putR (newA (gM14 G c) 1 3000) c 14 (G.1 + 14)
theorem gM15_1 {G : GT} {c : Nat} : (gM15 G c).1 = G.1 + 15 := rfl
theorem gM15_2 {G : GT} {c : Nat} : (gM15 G c).2.1 = G.2.1 + 12154 := by
  have e := gM14_2 (G := G) (c := c)
  show (gM14 G c).2.1 + 3000 = _
  omega
theorem gM15_s {G : GT} {c : Nat} (h : c < G.1) : shp (gM15 G c) c = shp G c := by
  unfold gM15
  rw [sh_pR, sh_nA (by rw [gM14_1]; omega), gM14_s h]
def gM16 (G : GT) (c : Nat) : GT := putR (newA (gM15 G c) 1 80000) c 15 (G.1 + 15)
theorem gM16_1 {G : GT} {c : Nat} : (gM16 G c).1 = G.1 + 16 := rfl
theorem gM16_2 {G : GT} {c : Nat} : (gM16 G c).2.1 = G.2.1 + 92154 := by
  have e := gM15_2 (G := G) (c := c)
  show (gM15 G c).2.1 + 80000 = _
  omega
theorem gM16_s {G : GT} {c : Nat} (h : c < G.1) : shp (gM16 G c) c = shp G c := by
  unfold gM16
  rw [sh_pR, sh_nA (by rw [gM15_1]; omega), gM15_s h]
def gM17 (G : GT) (c : Nat) : GT := putR (newA (gM16 G c) 1 2) c 16 (G.1 + 16)
theorem gM17_1 {G : GT} {c : Nat} : (gM17 G c).1 = G.1 + 17 := rfl
theorem gM17_2 {G : GT} {c : Nat} : (gM17 G c).2.1 = G.2.1 + 92156 := by
  have e := gM16_2 (G := G) (c := c)
  show (gM16 G c).2.1 + 2 = _
  omega
theorem gM17_s {G : GT} {c : Nat} (h : c < G.1) : shp (gM17 G c) c = shp G c := by
  unfold gM17
  rw [sh_pR, sh_nA (by rw [gM16_1]; omega), gM16_s h]
def gM18 (G : GT) (c : Nat) : GT := putR (newA (gM17 G c) 1 24) c 17 (G.1 + 17)
theorem gM18_1 {G : GT} {c : Nat} : (gM18 G c).1 = G.1 + 18 := rfl
theorem gM18_2 {G : GT} {c : Nat} : (gM18 G c).2.1 = G.2.1 + 92180 := by
  have e := gM17_2 (G := G) (c := c)
  show (gM17 G c).2.1 + 24 = _
  omega
theorem gM18_s {G : GT} {c : Nat} (h : c < G.1) : shp (gM18 G c) c = shp G c := by
  unfold gM18
  rw [sh_pR, sh_nA (by rw [gM17_1]; omega), gM17_s h]
def gM19 (G : GT) (c : Nat) : GT := putR (newA (gM18 G c) 1 560) c 19 (G.1 + 18)
theorem gM19_1 {G : GT} {c : Nat} : (gM19 G c).1 = G.1 + 19 := rfl
theorem gM19_2 {G : GT} {c : Nat} : (gM19 G c).2.1 = G.2.1 + 92740 := by
  have e := gM18_2 (G := G) (c := c)
  show (gM18 G c).2.1 + 560 = _
  omega
theorem gM19_s {G : GT} {c : Nat} (h : c < G.1) : shp (gM19 G c) c = shp G c := by
  unfold gM19
  rw [sh_pR, sh_nA (by rw [gM18_1]; omega), gM18_s h]
def gM20 (G : GT) (c : Nat) : GT := putR (newA (gM19 G c) 1 14) c 20 (G.1 + 19)
theorem gM20_1 {G : GT} {c : Nat} : (gM20 G c).1 = G.1 + 20 := rfl
theorem gM20_2 {G : GT} {c : Nat} : (gM20 G c).2.1 = G.2.1 + 92754 := by
  have e := gM19_2 (G := G) (c := c)
  show (gM19 G c).2.1 + 14 = _
  omega
theorem gM20_s {G : GT} {c : Nat} (h : c < G.1) : shp (gM20 G c) c = shp G c := by
  unfold gM20
  rw [sh_pR, sh_nA (by rw [gM19_1]; omega), gM19_s h]
def gM21 (G : GT) (c : Nat) : GT := putR (newA (gM20 G c) 1 168) c 21 (G.1 + 20)
theorem gM21_1 {G : GT} {c : Nat} : (gM21 G c).1 = G.1 + 21 := rfl
theorem gM21_2 {G : GT} {c : Nat} : (gM21 G c).2.1 = G.2.1 + 92922 := by
  have e := gM20_2 (G := G) (c := c)
  show (gM20 G c).2.1 + 168 = _
  omega
theorem gM21_s {G : GT} {c : Nat} (h : c < G.1) : shp (gM21 G c) c = shp G c := by
  unfold gM21
  rw [sh_pR, sh_nA (by rw [gM20_1]; omega), gM20_s h]
def gM22 (G : GT) (c : Nat) : GT := putR (newA (gM21 G c) 1 14) c 22 (G.1 + 21)
theorem gM22_1 {G : GT} {c : Nat} : (gM22 G c).1 = G.1 + 22 := rfl
theorem gM22_2 {G : GT} {c : Nat} : (gM22 G c).2.1 = G.2.1 + 92936 := by
  have e := gM21_2 (G := G) (c := c)
  show (gM21 G c).2.1 + 14 = _
  omega
theorem gM22_s {G : GT} {c : Nat} (h : c < G.1) : shp (gM22 G c) c = shp G c := by
  unfold gM22
  rw [sh_pR, sh_nA (by rw [gM21_1]; omega), gM21_s h]
def gM23 (G : GT) (c : Nat) : GT := putR (newA (gM22 G c) 1 560) c 23 (G.1 + 22)
theorem gM23_1 {G : GT} {c : Nat} : (gM23 G c).1 = G.1 + 23 := rfl
theorem gM23_2 {G : GT} {c : Nat} : (gM23 G c).2.1 = G.2.1 + 93496 := by
  have e := gM22_2 (G := G) (c := c)
  show (gM22 G c).2.1 + 560 = _
  omega
theorem gM23_s {G : GT} {c : Nat} (h : c < G.1) : shp (gM23 G c) c = shp G c := by
  unfold gM23
  rw [sh_pR, sh_nA (by rw [gM22_1]; omega), gM22_s h]
def gM24 (G : GT) (c : Nat) : GT := putR (newA (gM23 G c) 1 14) c 24 (G.1 + 23)
theorem gM24_1 {G : GT} {c : Nat} : (gM24 G c).1 = G.1 + 24 := rfl
theorem gM24_2 {G : GT} {c : Nat} : (gM24 G c).2.1 = G.2.1 + 93510 := by
  have e := gM23_2 (G := G) (c := c)
  show (gM23 G c).2.1 + 14 = _
  omega
theorem gM24_s {G : GT} {c : Nat} (h : c < G.1) : shp (gM24 G c) c = shp G c := by
  unfold gM24
  rw [sh_pR, sh_nA (by rw [gM23_1]; omega), gM23_s h]
def gM25 (G : GT) (c : Nat) : GT := putR (newA (gM24 G c) 1 14) c 25 (G.1 + 24)
theorem gM25_1 {G : GT} {c : Nat} : (gM25 G c).1 = G.1 + 25 := rfl
theorem gM25_2 {G : GT} {c : Nat} : (gM25 G c).2.1 = G.2.1 + 93524 := by
  have e := gM24_2 (G := G) (c := c)
  show (gM24 G c).2.1 + 14 = _
  omega
theorem gM25_s {G : GT} {c : Nat} (h : c < G.1) : shp (gM25 G c) c = shp G c := by
  unfold gM25
  rw [sh_pR, sh_nA (by rw [gM24_1]; omega), gM24_s h]
def gM26 (G : GT) (c : Nat) : GT := putR (newA (gM25 G c) 1 168) c 26 (G.1 + 25)
theorem gM26_1 {G : GT} {c : Nat} : (gM26 G c).1 = G.1 + 26 := rfl
theorem gM26_2 {G : GT} {c : Nat} : (gM26 G c).2.1 = G.2.1 + 93692 := by
  have e := gM25_2 (G := G) (c := c)
  show (gM25 G c).2.1 + 168 = _
  omega
theorem gM26_s {G : GT} {c : Nat} (h : c < G.1) : shp (gM26 G c) c = shp G c := by
  unfold gM26
  rw [sh_pR, sh_nA (by rw [gM25_1]; omega), gM25_s h]
def gM27 (G : GT) (c : Nat) : GT := putR (newA (gM26 G c) 1 560) c 27 (G.1 + 26)
theorem gM27_1 {G : GT} {c : Nat} : (gM27 G c).1 = G.1 + 27 := rfl
theorem gM27_2 {G : GT} {c : Nat} : (gM27 G c).2.1 = G.2.1 + 94252 := by
  have e := gM26_2 (G := G) (c := c)
  show (gM26 G c).2.1 + 560 = _
  omega
theorem gM27_s {G : GT} {c : Nat} (h : c < G.1) : shp (gM27 G c) c = shp G c := by
  unfold gM27
  rw [sh_pR, sh_nA (by rw [gM26_1]; omega), gM26_s h]
def gM28 (G : GT) (c : Nat) : GT := putR (newA (gM27 G c) 1 14) c 28 (G.1 + 27)
theorem gM28_1 {G : GT} {c : Nat} : (gM28 G c).1 = G.1 + 28 := rfl
theorem gM28_2 {G : GT} {c : Nat} : (gM28 G c).2.1 = G.2.1 + 94266 := by
  have e := gM27_2 (G := G) (c := c)
  show (gM27 G c).2.1 + 14 = _
  omega
theorem gM28_s {G : GT} {c : Nat} (h : c < G.1) : shp (gM28 G c) c = shp G c := by
  unfold gM28
  rw [sh_pR, sh_nA (by rw [gM27_1]; omega), gM27_s h]
def gM29 (G : GT) (c : Nat) : GT := putR (newA (gM28 G c) 1 14) c 29 (G.1 + 28)
theorem gM29_1 {G : GT} {c : Nat} : (gM29 G c).1 = G.1 + 29 := rfl
theorem gM29_2 {G : GT} {c : Nat} : (gM29 G c).2.1 = G.2.1 + 94280 := by
  have e := gM28_2 (G := G) (c := c)
  show (gM28 G c).2.1 + 14 = _
  omega
theorem gM29_s {G : GT} {c : Nat} (h : c < G.1) : shp (gM29 G c) c = shp G c := by
  unfold gM29
  rw [sh_pR, sh_nA (by rw [gM28_1]; omega), gM28_s h]
def gM30 (G : GT) (c : Nat) : GT := putR (newA (gM29 G c) 1 14) c 30 (G.1 + 29)
theorem gM30_1 {G : GT} {c : Nat} : (gM30 G c).1 = G.1 + 30 := rfl
theorem gM30_2 {G : GT} {c : Nat} : (gM30 G c).2.1 = G.2.1 + 94294 := by
  have e := gM29_2 (G := G) (c := c)
  show (gM29 G c).2.1 + 14 = _
  omega
theorem gM30_s {G : GT} {c : Nat} (h : c < G.1) : shp (gM30 G c) c = shp G c := by
  unfold gM30
  rw [sh_pR, sh_nA (by rw [gM29_1]; omega), gM29_s h]
def gM31 (G : GT) (c : Nat) : GT := putR (newA (gM30 G c) 1 14) c 31 (G.1 + 30)
theorem gM31_1 {G : GT} {c : Nat} : (gM31 G c).1 = G.1 + 31 := rfl
theorem gM31_2 {G : GT} {c : Nat} : (gM31 G c).2.1 = G.2.1 + 94308 := by
  have e := gM30_2 (G := G) (c := c)
  show (gM30 G c).2.1 + 14 = _
  omega
theorem gM31_s {G : GT} {c : Nat} (h : c < G.1) : shp (gM31 G c) c = shp G c := by
  unfold gM31
  rw [sh_pR, sh_nA (by rw [gM30_1]; omega), gM30_s h]
def gM32 (G : GT) (c : Nat) : GT := putR (newA (gM31 G c) 1 4200) c 32 (G.1 + 31)
theorem gM32_1 {G : GT} {c : Nat} : (gM32 G c).1 = G.1 + 32 := rfl
theorem gM32_2 {G : GT} {c : Nat} : (gM32 G c).2.1 = G.2.1 + 98508 := by
  have e := gM31_2 (G := G) (c := c)
  show (gM31 G c).2.1 + 4200 = _
  omega
theorem gM32_s {G : GT} {c : Nat} (h : c < G.1) : shp (gM32 G c) c = shp G c := by
  unfold gM32
  rw [sh_pR, sh_nA (by rw [gM31_1]; omega), gM31_s h]
def gM33 (G : GT) (c : Nat) : GT := putR (newA (gM32 G c) 1 4200) c 33 (G.1 + 32)
theorem gM33_1 {G : GT} {c : Nat} : (gM33 G c).1 = G.1 + 33 := rfl
theorem gM33_2 {G : GT} {c : Nat} : (gM33 G c).2.1 = G.2.1 + 102708 := by
  have e := gM32_2 (G := G) (c := c)
  show (gM32 G c).2.1 + 4200 = _
  omega
theorem gM33_s {G : GT} {c : Nat} (h : c < G.1) : shp (gM33 G c) c = shp G c := by
  unfold gM33
  rw [sh_pR, sh_nA (by rw [gM32_1]; omega), gM32_s h]
def gM34 (G : GT) (c : Nat) : GT := putR (newA (gM33 G c) 1 4200) c 34 (G.1 + 33)
theorem gM34_1 {G : GT} {c : Nat} : (gM34 G c).1 = G.1 + 34 := rfl
theorem gM34_2 {G : GT} {c : Nat} : (gM34 G c).2.1 = G.2.1 + 106908 := by
  have e := gM33_2 (G := G) (c := c)
  show (gM33 G c).2.1 + 4200 = _
  omega
theorem gM34_s {G : GT} {c : Nat} (h : c < G.1) : shp (gM34 G c) c = shp G c := by
  unfold gM34
  rw [sh_pR, sh_nA (by rw [gM33_1]; omega), gM33_s h]
def gM35 (G : GT) (c : Nat) : GT := putR (newA (gM34 G c) 1 168000) c 35 (G.1 + 34)
theorem gM35_1 {G : GT} {c : Nat} : (gM35 G c).1 = G.1 + 35 := rfl
theorem gM35_2 {G : GT} {c : Nat} : (gM35 G c).2.1 = G.2.1 + 274908 := by
  have e := gM34_2 (G := G) (c := c)
  show (gM34 G c).2.1 + 168000 = _
  omega
theorem gM35_s {G : GT} {c : Nat} (h : c < G.1) : shp (gM35 G c) c = shp G c := by
  unfold gM35
  rw [sh_pR, sh_nA (by rw [gM34_1]; omega), gM34_s h]
def gM36 (G : GT) (c : Nat) : GT := putR (newA (gM35 G c) 1 1500) c 40 (G.1 + 35)
theorem gM36_1 {G : GT} {c : Nat} : (gM36 G c).1 = G.1 + 36 := rfl
theorem gM36_2 {G : GT} {c : Nat} : (gM36 G c).2.1 = G.2.1 + 276408 := by
  have e := gM35_2 (G := G) (c := c)
  show (gM35 G c).2.1 + 1500 = _
  omega
theorem gM36_s {G : GT} {c : Nat} (h : c < G.1) : shp (gM36 G c) c = shp G c := by
  unfold gM36
  rw [sh_pR, sh_nA (by rw [gM35_1]; omega), gM35_s h]
def gM37 (G : GT) (c : Nat) : GT := putR (newA (gM36 G c) 3 8192) c 41 (G.1 + 36)
theorem gM37_1 {G : GT} {c : Nat} : (gM37 G c).1 = G.1 + 37 := rfl
theorem gM37_2 {G : GT} {c : Nat} : (gM37 G c).2.1 = G.2.1 + 284600 := by
  have e := gM36_2 (G := G) (c := c)
  show (gM36 G c).2.1 + 8192 = _
  omega
theorem gM37_s {G : GT} {c : Nat} (h : c < G.1) : shp (gM37 G c) c = shp G c := by
  unfold gM37
  rw [sh_pR, sh_nA (by rw [gM36_1]; omega), gM36_s h]
def gM38 (G : GT) (c : Nat) : GT := putR (newA (gM37 G c) 3 1500) c 42 (G.1 + 37)
theorem gM38_1 {G : GT} {c : Nat} : (gM38 G c).1 = G.1 + 38 := rfl
theorem gM38_2 {G : GT} {c : Nat} : (gM38 G c).2.1 = G.2.1 + 286100 := by
  have e := gM37_2 (G := G) (c := c)
  show (gM37 G c).2.1 + 1500 = _
  omega
theorem gM38_s {G : GT} {c : Nat} (h : c < G.1) : shp (gM38 G c) c = shp G c := by
  unfold gM38
  rw [sh_pR, sh_nA (by rw [gM37_1]; omega), gM37_s h]
def gM39 (G : GT) (c : Nat) : GT := putR (newA (gM38 G c) 3 2) c 43 (G.1 + 38)
theorem gM39_1 {G : GT} {c : Nat} : (gM39 G c).1 = G.1 + 39 := rfl
theorem gM39_2 {G : GT} {c : Nat} : (gM39 G c).2.1 = G.2.1 + 286102 := by
  have e := gM38_2 (G := G) (c := c)
  show (gM38 G c).2.1 + 2 = _
  omega
theorem gM39_s {G : GT} {c : Nat} (h : c < G.1) : shp (gM39 G c) c = shp G c := by
  unfold gM39
  rw [sh_pR, sh_nA (by rw [gM38_1]; omega), gM38_s h]
def gM40 (G : GT) (c : Nat) : GT := putR (newA (gM39 G c) 3 4096) c 45 (G.1 + 39)
theorem gM40_1 {G : GT} {c : Nat} : (gM40 G c).1 = G.1 + 40 := rfl
theorem gM40_2 {G : GT} {c : Nat} : (gM40 G c).2.1 = G.2.1 + 290198 := by
  have e := gM39_2 (G := G) (c := c)
  show (gM39 G c).2.1 + 4096 = _
  omega
theorem gM40_s {G : GT} {c : Nat} (h : c < G.1) : shp (gM40 G c) c = shp G c := by
  unfold gM40
  rw [sh_pR, sh_nA (by rw [gM39_1]; omega), gM39_s h]
def gM41 (G : GT) (c : Nat) : GT := putR (newA (gM40 G c) 1 5) c 46 (G.1 + 40)
theorem gM41_1 {G : GT} {c : Nat} : (gM41 G c).1 = G.1 + 41 := rfl
theorem gM41_2 {G : GT} {c : Nat} : (gM41 G c).2.1 = G.2.1 + 290203 := by
  have e := gM40_2 (G := G) (c := c)
  show (gM40 G c).2.1 + 5 = _
  omega
theorem gM41_s {G : GT} {c : Nat} (h : c < G.1) : shp (gM41 G c) c = shp G c := by
  unfold gM41
  rw [sh_pR, sh_nA (by rw [gM40_1]; omega), gM40_s h]
def gM42 (G : GT) (c : Nat) : GT := putR (newA (gM41 G c) 1 5) c 47 (G.1 + 41)
theorem gM42_1 {G : GT} {c : Nat} : (gM42 G c).1 = G.1 + 42 := rfl
theorem gM42_2 {G : GT} {c : Nat} : (gM42 G c).2.1 = G.2.1 + 290208 := by
  have e := gM41_2 (G := G) (c := c)
  show (gM41 G c).2.1 + 5 = _
  omega
theorem gM42_s {G : GT} {c : Nat} (h : c < G.1) : shp (gM42 G c) c = shp G c := by
  unfold gM42
  rw [sh_pR, sh_nA (by rw [gM41_1]; omega), gM41_s h]
theorem vp_12 : vp_in 1 2 ↔ True := au_in (n := 1) (by decide) (by decide)
section MkMod
variable {d c : Nat} {G : GT} {I : IT} {J : JT} {K : KT}
theorem N_mod (hG : G.1 < 1000) (hc : shp G c = (0, 7)) (hlt : c < G.1) (hk : ∀ I', frI G.1 c I I' → (∀ k, k < 2 → I' G.1 k = 8) → (∀ p, p < 48 → I' (G.1 + 6) p = 1) → (∀ j k, (j = 2 ∨ j = 3 ∨ j = 4 ∨ j = 5 ∨ j = 7 ∨ j = 8) → I' (G.1 + j) k = 0) → I' c 44 = -1 → I' c 48 = -1 → K none (gM42 G c) I' J) : ACall (d + 1) 123 [.ref c] G I J K := by
  refine ACall_entry.mpr ⟨⟨rfl, Nat.le_of_ble_eq_true rfl⟩, ?_⟩
  rw [show entL 123 [.ref c] = [.ref c, nv] from rfl]
  have s0 := hc
  have s1 : shp (gM1 G c) c = (0, 7) := (gM1_s hlt).trans hc
  have v1 : putR (newA G 1 2) c 0 G.1 = gM1 G c := rfl
  simp (disch := first | omega | (simp only [nA_1, nO_1, pR_1]; omega)) only [Nat.reduceAdd, aw_aload_0 (pc2 := 1) D123_0 rfl, aw_obj (pc2 := 4) D123_1 rfl cT_7_1, aw_aload_0 (pc2 := 5) D123_4 rfl, aw_iconst (pc2 := 6) (y := 2) D123_5 rfl (by decide), aw_newa_int (pc2 := 8) (x := 2) (N := 2) D123_6 rfl (by decide) (by decide), aw_dup (pc2 := 9) D123_8 rfl, aw_iconst (pc2 := 10) (y := 0) D123_9 rfl (by decide), aw_bipush (pc2 := 12) (y := 8) D123_10 rfl (by decide), aw_iastore (pc2 := 13) D123_12 rfl, aw_dup (pc2 := 14) D123_13 rfl, aw_iconst (pc2 := 15) (y := 1) D123_14 rfl (by decide), aw_bipush (pc2 := 17) (y := 8) D123_15 rfl (by decide), aw_iastore (pc2 := 18) D123_17 rfl, aw_putR (pc2 := 21) (ci := 7) (fk := 0) D123_18 rfl fT_7_7 ⟨rfl, rfl, rfl⟩, refV_s, refV_n, psh_s, psh_n, kil_i, kil_r, kil_n, kil_l, cat_i, cat_r, iOK_1, iOK_5, jOK_2, jOK_6, wOK_e, lOK_1, lOK_2, lOK_3, lOK_4, lOK_5, lOK_6, catS_0, catS_1, catS_2, catS_3, catS_4, and_self, true_and, and_true, true_or, or_true, false_or, or_false, not_true_eq_false, not_false_eq_true, if_true, if_false, ite_int, ite_int0, au_10, eq_self, decide_true, decide_false, Bool.true_and, Bool.false_and, au_in, au_le, au_lt, au_eq, au_lt0, au_ge0, au_le0, au_gt0, au_eq0, au_leT, au_leF, au_ltT, au_ltF, au_eqT, au_eqF, nI_clamp, nI_1, nI_add, pk_mul, au_sub1, au_subc, au_up2e, au_up2n, lit_of, vp_0, nc_0, vp_12, nA_1, nA_2, nO_1, nO_2, pR_1, pR_2, sh_pR, sh_nA, sh_nAe, mc_123, hc, v1, Nat.add_assoc]
  have l1 : c < (gM1 G c).1 := by rw [gM1_1]; omega
  have s2 : shp (gM2 G c) c = (0, 7) := (gM2_s hlt).trans hc
  have v2 : putR (newA (gM1 G c) 1 80) c 1 (G.1 + 1) = gM2 G c := rfl
  simp (disch := first | omega | (simp only [nA_1, nO_1, pR_1]; omega)) only [Nat.reduceAdd, aw_aload_0 (pc2 := 22) D123_21 rfl, aw_bipush (pc2 := 24) (y := 80) D123_22 rfl (by decide), aw_newa_int (pc2 := 26) (x := 80) (N := 80) D123_24 rfl (by decide) (by decide), aw_putR (pc2 := 29) (ci := 7) (fk := 1) D123_26 rfl fT_7_13 ⟨rfl, rfl, rfl⟩, refV_s, refV_n, psh_s, psh_n, kil_i, kil_r, kil_n, kil_l, cat_i, cat_r, iOK_1, iOK_5, jOK_2, jOK_6, wOK_e, lOK_1, lOK_2, lOK_3, lOK_4, lOK_5, lOK_6, catS_0, catS_1, catS_2, catS_3, catS_4, and_self, true_and, and_true, true_or, or_true, false_or, or_false, not_true_eq_false, not_false_eq_true, if_true, if_false, ite_int, ite_int0, au_10, eq_self, decide_true, decide_false, Bool.true_and, Bool.false_and, au_in, au_le, au_lt, au_eq, au_lt0, au_ge0, au_le0, au_gt0, au_eq0, au_leT, au_leF, au_ltT, au_ltF, au_eqT, au_eqF, nI_clamp, nI_1, nI_add, pk_mul, au_sub1, au_subc, au_up2e, au_up2n, lit_of, nA_1, nA_2, nO_1, nO_2, pR_1, pR_2, sh_pR, sh_nA, sh_nAe, mc_123, s1, v2, gM1_1, gM1_2, Nat.add_assoc]
  have l2 : c < (gM2 G c).1 := by rw [gM2_1]; omega
  have s3 : shp (gM3 G c) c = (0, 7) := (gM3_s hlt).trans hc
  have v3 : putR (newA (gM2 G c) 1 2) c 2 (G.1 + 2) = gM3 G c := rfl
  simp (disch := first | omega | (simp only [nA_1, nO_1, pR_1]; omega)) only [Nat.reduceAdd, aw_aload_0 (pc2 := 30) D123_29 rfl, aw_iconst (pc2 := 31) (y := 2) D123_30 rfl (by decide), aw_newa_int (pc2 := 33) (x := 2) (N := 2) D123_31 rfl (by decide) (by decide), aw_putR (pc2 := 36) (ci := 7) (fk := 2) D123_33 rfl fT_7_16 ⟨rfl, rfl, rfl⟩, refV_s, refV_n, psh_s, psh_n, kil_i, kil_r, kil_n, kil_l, cat_i, cat_r, iOK_1, iOK_5, jOK_2, jOK_6, wOK_e, lOK_1, lOK_2, lOK_3, lOK_4, lOK_5, lOK_6, catS_0, catS_1, catS_2, catS_3, catS_4, and_self, true_and, and_true, true_or, or_true, false_or, or_false, not_true_eq_false, not_false_eq_true, if_true, if_false, ite_int, ite_int0, au_10, eq_self, decide_true, decide_false, Bool.true_and, Bool.false_and, au_in, au_le, au_lt, au_eq, au_lt0, au_ge0, au_le0, au_gt0, au_eq0, au_leT, au_leF, au_ltT, au_ltF, au_eqT, au_eqF, nI_clamp, nI_1, nI_add, pk_mul, au_sub1, au_subc, au_up2e, au_up2n, lit_of, nA_1, nA_2, nO_1, nO_2, pR_1, pR_2, sh_pR, sh_nA, sh_nAe, mc_123, s2, v3, gM2_1, gM2_2, Nat.add_assoc]
  have l3 : c < (gM3 G c).1 := by rw [gM3_1]; omega
  have s4 : shp (gM4 G c) c = (0, 7) := (gM4_s hlt).trans hc
  have v4 : putR (newA (gM3 G c) 1 2) c 3 (G.1 + 3) = gM4 G c := rfl
  simp (disch := first | omega | (simp only [nA_1, nO_1, pR_1]; omega)) only [Nat.reduceAdd, aw_aload_0 (pc2 := 37) D123_36 rfl, aw_iconst (pc2 := 38) (y := 2) D123_37 rfl (by decide), aw_newa_int (pc2 := 40) (x := 2) (N := 2) D123_38 rfl (by decide) (by decide), aw_putR (pc2 := 43) (ci := 7) (fk := 3) D123_40 rfl fT_7_19 ⟨rfl, rfl, rfl⟩, refV_s, refV_n, psh_s, psh_n, kil_i, kil_r, kil_n, kil_l, cat_i, cat_r, iOK_1, iOK_5, jOK_2, jOK_6, wOK_e, lOK_1, lOK_2, lOK_3, lOK_4, lOK_5, lOK_6, catS_0, catS_1, catS_2, catS_3, catS_4, and_self, true_and, and_true, true_or, or_true, false_or, or_false, not_true_eq_false, not_false_eq_true, if_true, if_false, ite_int, ite_int0, au_10, eq_self, decide_true, decide_false, Bool.true_and, Bool.false_and, au_in, au_le, au_lt, au_eq, au_lt0, au_ge0, au_le0, au_gt0, au_eq0, au_leT, au_leF, au_ltT, au_ltF, au_eqT, au_eqF, nI_clamp, nI_1, nI_add, pk_mul, au_sub1, au_subc, au_up2e, au_up2n, lit_of, nA_1, nA_2, nO_1, nO_2, pR_1, pR_2, sh_pR, sh_nA, sh_nAe, mc_123, s3, v4, gM3_1, gM3_2, Nat.add_assoc]
  have l4 : c < (gM4 G c).1 := by rw [gM4_1]; omega
  have s5 : shp (gM5 G c) c = (0, 7) := (gM5_s hlt).trans hc
  have v5 : putR (newA (gM4 G c) 1 2) c 4 (G.1 + 4) = gM5 G c := rfl
  simp (disch := first | omega | (simp only [nA_1, nO_1, pR_1]; omega)) only [Nat.reduceAdd, aw_aload_0 (pc2 := 44) D123_43 rfl, aw_iconst (pc2 := 45) (y := 2) D123_44 rfl (by decide), aw_newa_int (pc2 := 47) (x := 2) (N := 2) D123_45 rfl (by decide) (by decide), aw_putR (pc2 := 50) (ci := 7) (fk := 4) D123_47 rfl fT_7_22 ⟨rfl, rfl, rfl⟩, refV_s, refV_n, psh_s, psh_n, kil_i, kil_r, kil_n, kil_l, cat_i, cat_r, iOK_1, iOK_5, jOK_2, jOK_6, wOK_e, lOK_1, lOK_2, lOK_3, lOK_4, lOK_5, lOK_6, catS_0, catS_1, catS_2, catS_3, catS_4, and_self, true_and, and_true, true_or, or_true, false_or, or_false, not_true_eq_false, not_false_eq_true, if_true, if_false, ite_int, ite_int0, au_10, eq_self, decide_true, decide_false, Bool.true_and, Bool.false_and, au_in, au_le, au_lt, au_eq, au_lt0, au_ge0, au_le0, au_gt0, au_eq0, au_leT, au_leF, au_ltT, au_ltF, au_eqT, au_eqF, nI_clamp, nI_1, nI_add, pk_mul, au_sub1, au_subc, au_up2e, au_up2n, lit_of, nA_1, nA_2, nO_1, nO_2, pR_1, pR_2, sh_pR, sh_nA, sh_nAe, mc_123, s4, v5, gM4_1, gM4_2, Nat.add_assoc]
  have l5 : c < (gM5 G c).1 := by rw [gM5_1]; omega
  have s6 : shp (gM6 G c) c = (0, 7) := (gM6_s hlt).trans hc
  have v6 : putR (newA (gM5 G c) 1 2) c 5 (G.1 + 5) = gM6 G c := rfl
  simp (disch := first | omega | (simp only [nA_1, nO_1, pR_1]; omega)) only [Nat.reduceAdd, aw_aload_0 (pc2 := 51) D123_50 rfl, aw_iconst (pc2 := 52) (y := 2) D123_51 rfl (by decide), aw_newa_int (pc2 := 54) (x := 2) (N := 2) D123_52 rfl (by decide) (by decide), aw_putR (pc2 := 57) (ci := 7) (fk := 5) D123_54 rfl fT_7_25 ⟨rfl, rfl, rfl⟩, refV_s, refV_n, psh_s, psh_n, kil_i, kil_r, kil_n, kil_l, cat_i, cat_r, iOK_1, iOK_5, jOK_2, jOK_6, wOK_e, lOK_1, lOK_2, lOK_3, lOK_4, lOK_5, lOK_6, catS_0, catS_1, catS_2, catS_3, catS_4, and_self, true_and, and_true, true_or, or_true, false_or, or_false, not_true_eq_false, not_false_eq_true, if_true, if_false, ite_int, ite_int0, au_10, eq_self, decide_true, decide_false, Bool.true_and, Bool.false_and, au_in, au_le, au_lt, au_eq, au_lt0, au_ge0, au_le0, au_gt0, au_eq0, au_leT, au_leF, au_ltT, au_ltF, au_eqT, au_eqF, nI_clamp, nI_1, nI_add, pk_mul, au_sub1, au_subc, au_up2e, au_up2n, lit_of, nA_1, nA_2, nO_1, nO_2, pR_1, pR_2, sh_pR, sh_nA, sh_nAe, mc_123, s5, v6, gM5_1, gM5_2, Nat.add_assoc]
  have l6 : c < (gM6 G c).1 := by rw [gM6_1]; omega
  have s7 : shp (gM7 G c) c = (0, 7) := (gM7_s hlt).trans hc
  have v7 : putR (newA (gM6 G c) 1 48) c 6 (G.1 + 6) = gM7 G c := rfl
  simp (disch := first | omega | (simp only [nA_1, nO_1, pR_1]; omega)) only [Nat.reduceAdd, aw_aload_0 (pc2 := 58) D123_57 rfl, aw_bipush (pc2 := 60) (y := 48) D123_58 rfl (by decide), aw_newa_int (pc2 := 62) (x := 48) (N := 48) D123_60 rfl (by decide) (by decide), aw_putR (pc2 := 65) (ci := 7) (fk := 6) D123_62 rfl fT_7_28 ⟨rfl, rfl, rfl⟩, refV_s, refV_n, psh_s, psh_n, kil_i, kil_r, kil_n, kil_l, cat_i, cat_r, iOK_1, iOK_5, jOK_2, jOK_6, wOK_e, lOK_1, lOK_2, lOK_3, lOK_4, lOK_5, lOK_6, catS_0, catS_1, catS_2, catS_3, catS_4, and_self, true_and, and_true, true_or, or_true, false_or, or_false, not_true_eq_false, not_false_eq_true, if_true, if_false, ite_int, ite_int0, au_10, eq_self, decide_true, decide_false, Bool.true_and, Bool.false_and, au_in, au_le, au_lt, au_eq, au_lt0, au_ge0, au_le0, au_gt0, au_eq0, au_leT, au_leF, au_ltT, au_ltF, au_eqT, au_eqF, nI_clamp, nI_1, nI_add, pk_mul, au_sub1, au_subc, au_up2e, au_up2n, lit_of, nA_1, nA_2, nO_1, nO_2, pR_1, pR_2, sh_pR, sh_nA, sh_nAe, mc_123, s6, v7, gM6_1, gM6_2, Nat.add_assoc]
  have l7 : c < (gM7 G c).1 := by rw [gM7_1]; omega
  have s8 : shp (gM8 G c) c = (0, 7) := (gM8_s hlt).trans hc
  have v8 : putR (newA (gM7 G c) 1 10) c 7 (G.1 + 7) = gM8 G c := rfl
  simp (disch := first | omega | (simp only [nA_1, nO_1, pR_1]; omega)) only [Nat.reduceAdd, aw_aload_0 (pc2 := 66) D123_65 rfl, aw_bipush (pc2 := 68) (y := 10) D123_66 rfl (by decide), aw_newa_int (pc2 := 70) (x := 10) (N := 10) D123_68 rfl (by decide) (by decide), aw_putR (pc2 := 73) (ci := 7) (fk := 7) D123_70 rfl fT_7_31 ⟨rfl, rfl, rfl⟩, refV_s, refV_n, psh_s, psh_n, kil_i, kil_r, kil_n, kil_l, cat_i, cat_r, iOK_1, iOK_5, jOK_2, jOK_6, wOK_e, lOK_1, lOK_2, lOK_3, lOK_4, lOK_5, lOK_6, catS_0, catS_1, catS_2, catS_3, catS_4, and_self, true_and, and_true, true_or, or_true, false_or, or_false, not_true_eq_false, not_false_eq_true, if_true, if_false, ite_int, ite_int0, au_10, eq_self, decide_true, decide_false, Bool.true_and, Bool.false_and, au_in, au_le, au_lt, au_eq, au_lt0, au_ge0, au_le0, au_gt0, au_eq0, au_leT, au_leF, au_ltT, au_ltF, au_eqT, au_eqF, nI_clamp, nI_1, nI_add, pk_mul, au_sub1, au_subc, au_up2e, au_up2n, lit_of, nA_1, nA_2, nO_1, nO_2, pR_1, pR_2, sh_pR, sh_nA, sh_nAe, mc_123, s7, v8, gM7_1, gM7_2, Nat.add_assoc]
  have l8 : c < (gM8 G c).1 := by rw [gM8_1]; omega
  have s9 : shp (gM9 G c) c = (0, 7) := (gM9_s hlt).trans hc
  have v9 : putR (newA (gM8 G c) 1 2) c 8 (G.1 + 8) = gM9 G c := rfl
  simp (disch := first | omega | (simp only [nA_1, nO_1, pR_1]; omega)) only [Nat.reduceAdd, aw_aload_0 (pc2 := 74) D123_73 rfl, aw_iconst (pc2 := 75) (y := 2) D123_74 rfl (by decide), aw_newa_int (pc2 := 77) (x := 2) (N := 2) D123_75 rfl (by decide) (by decide), aw_putR (pc2 := 80) (ci := 7) (fk := 8) D123_77 rfl fT_7_34 ⟨rfl, rfl, rfl⟩, refV_s, refV_n, psh_s, psh_n, kil_i, kil_r, kil_n, kil_l, cat_i, cat_r, iOK_1, iOK_5, jOK_2, jOK_6, wOK_e, lOK_1, lOK_2, lOK_3, lOK_4, lOK_5, lOK_6, catS_0, catS_1, catS_2, catS_3, catS_4, and_self, true_and, and_true, true_or, or_true, false_or, or_false, not_true_eq_false, not_false_eq_true, if_true, if_false, ite_int, ite_int0, au_10, eq_self, decide_true, decide_false, Bool.true_and, Bool.false_and, au_in, au_le, au_lt, au_eq, au_lt0, au_ge0, au_le0, au_gt0, au_eq0, au_leT, au_leF, au_ltT, au_ltF, au_eqT, au_eqF, nI_clamp, nI_1, nI_add, pk_mul, au_sub1, au_subc, au_up2e, au_up2n, lit_of, nA_1, nA_2, nO_1, nO_2, pR_1, pR_2, sh_pR, sh_nA, sh_nAe, mc_123, s8, v9, gM8_1, gM8_2, Nat.add_assoc]
  have l9 : c < (gM9 G c).1 := by rw [gM9_1]; omega
  have s10 : shp (gM10 G c) c = (0, 7) := (gM10_s hlt).trans hc
  have v10 : putR (newA (gM9 G c) 1 2) c 9 (G.1 + 9) = gM10 G c := rfl
  simp (disch := first | omega | (simp only [nA_1, nO_1, pR_1]; omega)) only [Nat.reduceAdd, aw_aload_0 (pc2 := 81) D123_80 rfl, aw_iconst (pc2 := 82) (y := 2) D123_81 rfl (by decide), aw_newa_int (pc2 := 84) (x := 2) (N := 2) D123_82 rfl (by decide) (by decide), aw_putR (pc2 := 87) (ci := 7) (fk := 9) D123_84 rfl fT_7_37 ⟨rfl, rfl, rfl⟩, refV_s, refV_n, psh_s, psh_n, kil_i, kil_r, kil_n, kil_l, cat_i, cat_r, iOK_1, iOK_5, jOK_2, jOK_6, wOK_e, lOK_1, lOK_2, lOK_3, lOK_4, lOK_5, lOK_6, catS_0, catS_1, catS_2, catS_3, catS_4, and_self, true_and, and_true, true_or, or_true, false_or, or_false, not_true_eq_false, not_false_eq_true, if_true, if_false, ite_int, ite_int0, au_10, eq_self, decide_true, decide_false, Bool.true_and, Bool.false_and, au_in, au_le, au_lt, au_eq, au_lt0, au_ge0, au_le0, au_gt0, au_eq0, au_leT, au_leF, au_ltT, au_ltF, au_eqT, au_eqF, nI_clamp, nI_1, nI_add, pk_mul, au_sub1, au_subc, au_up2e, au_up2n, lit_of, nA_1, nA_2, nO_1, nO_2, pR_1, pR_2, sh_pR, sh_nA, sh_nAe, mc_123, s9, v10, gM9_1, gM9_2, Nat.add_assoc]
  have l10 : c < (gM10 G c).1 := by rw [gM10_1]; omega
  have s11 : shp (gM11 G c) c = (0, 7) := (gM11_s hlt).trans hc
  have v11 : putR (newA (gM10 G c) 1 2) c 10 (G.1 + 10) = gM11 G c := rfl
  simp (disch := first | omega | (simp only [nA_1, nO_1, pR_1]; omega)) only [Nat.reduceAdd, aw_aload_0 (pc2 := 88) D123_87 rfl, aw_iconst (pc2 := 89) (y := 2) D123_88 rfl (by decide), aw_newa_int (pc2 := 91) (x := 2) (N := 2) D123_89 rfl (by decide) (by decide), aw_putR (pc2 := 94) (ci := 7) (fk := 10) D123_91 rfl fT_7_40 ⟨rfl, rfl, rfl⟩, refV_s, refV_n, psh_s, psh_n, kil_i, kil_r, kil_n, kil_l, cat_i, cat_r, iOK_1, iOK_5, jOK_2, jOK_6, wOK_e, lOK_1, lOK_2, lOK_3, lOK_4, lOK_5, lOK_6, catS_0, catS_1, catS_2, catS_3, catS_4, and_self, true_and, and_true, true_or, or_true, false_or, or_false, not_true_eq_false, not_false_eq_true, if_true, if_false, ite_int, ite_int0, au_10, eq_self, decide_true, decide_false, Bool.true_and, Bool.false_and, au_in, au_le, au_lt, au_eq, au_lt0, au_ge0, au_le0, au_gt0, au_eq0, au_leT, au_leF, au_ltT, au_ltF, au_eqT, au_eqF, nI_clamp, nI_1, nI_add, pk_mul, au_sub1, au_subc, au_up2e, au_up2n, lit_of, nA_1, nA_2, nO_1, nO_2, pR_1, pR_2, sh_pR, sh_nA, sh_nAe, mc_123, s10, v11, gM10_1, gM10_2, Nat.add_assoc]
  have l11 : c < (gM11 G c).1 := by rw [gM11_1]; omega
  have s12 : shp (gM12 G c) c = (0, 7) := (gM12_s hlt).trans hc
  have v12 : putR (newA (gM11 G c) 1 3000) c 11 (G.1 + 11) = gM12 G c := rfl
  simp (disch := first | omega | (simp only [nA_1, nO_1, pR_1]; omega)) only [Nat.reduceAdd, aw_aload_0 (pc2 := 95) D123_94 rfl, aw_sipush (pc2 := 98) (y := 3000) D123_95 rfl (by decide), aw_newa_int (pc2 := 100) (x := 3000) (N := 3000) D123_98 rfl (by decide) (by decide), aw_putR (pc2 := 103) (ci := 7) (fk := 11) D123_100 rfl fT_7_43 ⟨rfl, rfl, rfl⟩, refV_s, refV_n, psh_s, psh_n, kil_i, kil_r, kil_n, kil_l, cat_i, cat_r, iOK_1, iOK_5, jOK_2, jOK_6, wOK_e, lOK_1, lOK_2, lOK_3, lOK_4, lOK_5, lOK_6, catS_0, catS_1, catS_2, catS_3, catS_4, and_self, true_and, and_true, true_or, or_true, false_or, or_false, not_true_eq_false, not_false_eq_true, if_true, if_false, ite_int, ite_int0, au_10, eq_self, decide_true, decide_false, Bool.true_and, Bool.false_and, au_in, au_le, au_lt, au_eq, au_lt0, au_ge0, au_le0, au_gt0, au_eq0, au_leT, au_leF, au_ltT, au_ltF, au_eqT, au_eqF, nI_clamp, nI_1, nI_add, pk_mul, au_sub1, au_subc, au_up2e, au_up2n, lit_of, nA_1, nA_2, nO_1, nO_2, pR_1, pR_2, sh_pR, sh_nA, sh_nAe, mc_123, s11, v12, gM11_1, gM11_2, Nat.add_assoc]
  have l12 : c < (gM12 G c).1 := by rw [gM12_1]; omega
  have s13 : shp (gM13 G c) c = (0, 7) := (gM13_s hlt).trans hc
  have v13 : putR (newA (gM12 G c) 1 3000) c 12 (G.1 + 12) = gM13 G c := rfl
  simp (disch := first | omega | (simp only [nA_1, nO_1, pR_1]; omega)) only [Nat.reduceAdd, aw_aload_0 (pc2 := 104) D123_103 rfl, aw_sipush (pc2 := 107) (y := 3000) D123_104 rfl (by decide), aw_newa_int (pc2 := 109) (x := 3000) (N := 3000) D123_107 rfl (by decide) (by decide), aw_putR (pc2 := 112) (ci := 7) (fk := 12) D123_109 rfl fT_7_46 ⟨rfl, rfl, rfl⟩, refV_s, refV_n, psh_s, psh_n, kil_i, kil_r, kil_n, kil_l, cat_i, cat_r, iOK_1, iOK_5, jOK_2, jOK_6, wOK_e, lOK_1, lOK_2, lOK_3, lOK_4, lOK_5, lOK_6, catS_0, catS_1, catS_2, catS_3, catS_4, and_self, true_and, and_true, true_or, or_true, false_or, or_false, not_true_eq_false, not_false_eq_true, if_true, if_false, ite_int, ite_int0, au_10, eq_self, decide_true, decide_false, Bool.true_and, Bool.false_and, au_in, au_le, au_lt, au_eq, au_lt0, au_ge0, au_le0, au_gt0, au_eq0, au_leT, au_leF, au_ltT, au_ltF, au_eqT, au_eqF, nI_clamp, nI_1, nI_add, pk_mul, au_sub1, au_subc, au_up2e, au_up2n, lit_of, nA_1, nA_2, nO_1, nO_2, pR_1, pR_2, sh_pR, sh_nA, sh_nAe, mc_123, s12, v13, gM12_1, gM12_2, Nat.add_assoc]
  have l13 : c < (gM13 G c).1 := by rw [gM13_1]; omega
  have s14 : shp (gM14 G c) c = (0, 7) := (gM14_s hlt).trans hc
  have v14 : putR (newA (gM13 G c) 1 3000) c 13 (G.1 + 13) = gM14 G c := rfl
  simp (disch := first | omega | (simp only [nA_1, nO_1, pR_1]; omega)) only [Nat.reduceAdd, aw_aload_0 (pc2 := 113) D123_112 rfl, aw_sipush (pc2 := 116) (y := 3000) D123_113 rfl (by decide), aw_newa_int (pc2 := 118) (x := 3000) (N := 3000) D123_116 rfl (by decide) (by decide), aw_putR (pc2 := 121) (ci := 7) (fk := 13) D123_118 rfl fT_7_49 ⟨rfl, rfl, rfl⟩, refV_s, refV_n, psh_s, psh_n, kil_i, kil_r, kil_n, kil_l, cat_i, cat_r, iOK_1, iOK_5, jOK_2, jOK_6, wOK_e, lOK_1, lOK_2, lOK_3, lOK_4, lOK_5, lOK_6, catS_0, catS_1, catS_2, catS_3, catS_4, and_self, true_and, and_true, true_or, or_true, false_or, or_false, not_true_eq_false, not_false_eq_true, if_true, if_false, ite_int, ite_int0, au_10, eq_self, decide_true, decide_false, Bool.true_and, Bool.false_and, au_in, au_le, au_lt, au_eq, au_lt0, au_ge0, au_le0, au_gt0, au_eq0, au_leT, au_leF, au_ltT, au_ltF, au_eqT, au_eqF, nI_clamp, nI_1, nI_add, pk_mul, au_sub1, au_subc, au_up2e, au_up2n, lit_of, nA_1, nA_2, nO_1, nO_2, pR_1, pR_2, sh_pR, sh_nA, sh_nAe, mc_123, s13, v14, gM13_1, gM13_2, Nat.add_assoc]
  have l14 : c < (gM14 G c).1 := by rw [gM14_1]; omega
  have s15 : shp (gM15 G c) c = (0, 7) := (gM15_s hlt).trans hc
  have v15 : putR (newA (gM14 G c) 1 3000) c 14 (G.1 + 14) = gM15 G c := rfl
  simp (disch := first | omega | (simp only [nA_1, nO_1, pR_1]; omega)) only [Nat.reduceAdd, aw_aload_0 (pc2 := 122) D123_121 rfl, aw_sipush (pc2 := 125) (y := 3000) D123_122 rfl (by decide), aw_newa_int (pc2 := 127) (x := 3000) (N := 3000) D123_125 rfl (by decide) (by decide), aw_putR (pc2 := 130) (ci := 7) (fk := 14) D123_127 rfl fT_7_52 ⟨rfl, rfl, rfl⟩, refV_s, refV_n, psh_s, psh_n, kil_i, kil_r, kil_n, kil_l, cat_i, cat_r, iOK_1, iOK_5, jOK_2, jOK_6, wOK_e, lOK_1, lOK_2, lOK_3, lOK_4, lOK_5, lOK_6, catS_0, catS_1, catS_2, catS_3, catS_4, and_self, true_and, and_true, true_or, or_true, false_or, or_false, not_true_eq_false, not_false_eq_true, if_true, if_false, ite_int, ite_int0, au_10, eq_self, decide_true, decide_false, Bool.true_and, Bool.false_and, au_in, au_le, au_lt, au_eq, au_lt0, au_ge0, au_le0, au_gt0, au_eq0, au_leT, au_leF, au_ltT, au_ltF, au_eqT, au_eqF, nI_clamp, nI_1, nI_add, pk_mul, au_sub1, au_subc, au_up2e, au_up2n, lit_of, nA_1, nA_2, nO_1, nO_2, pR_1, pR_2, sh_pR, sh_nA, sh_nAe, mc_123, s14, v15, gM14_1, gM14_2, Nat.add_assoc]
  have l15 : c < (gM15 G c).1 := by rw [gM15_1]; omega
  have s16 : shp (gM16 G c) c = (0, 7) := (gM16_s hlt).trans hc
  have v16 : putR (newA (gM15 G c) 1 80000) c 15 (G.1 + 15) = gM16 G c := rfl
  simp (disch := first | omega | (simp only [nA_1, nO_1, pR_1]; omega)) only [Nat.reduceAdd, aw_aload_0 (pc2 := 131) D123_130 rfl, aw_ldc (pc2 := 133) (v := 80000) D123_131 rfl (by decide), aw_newa_int (pc2 := 135) (x := 80000) (N := 80000) D123_133 rfl (by decide) (by decide), aw_putR (pc2 := 138) (ci := 7) (fk := 15) D123_135 rfl fT_7_56 ⟨rfl, rfl, rfl⟩, refV_s, refV_n, psh_s, psh_n, kil_i, kil_r, kil_n, kil_l, cat_i, cat_r, iOK_1, iOK_5, jOK_2, jOK_6, wOK_e, lOK_1, lOK_2, lOK_3, lOK_4, lOK_5, lOK_6, catS_0, catS_1, catS_2, catS_3, catS_4, and_self, true_and, and_true, true_or, or_true, false_or, or_false, not_true_eq_false, not_false_eq_true, if_true, if_false, ite_int, ite_int0, au_10, eq_self, decide_true, decide_false, Bool.true_and, Bool.false_and, au_in, au_le, au_lt, au_eq, au_lt0, au_ge0, au_le0, au_gt0, au_eq0, au_leT, au_leF, au_ltT, au_ltF, au_eqT, au_eqF, nI_clamp, nI_1, nI_add, pk_mul, au_sub1, au_subc, au_up2e, au_up2n, lit_of, nA_1, nA_2, nO_1, nO_2, pR_1, pR_2, sh_pR, sh_nA, sh_nAe, mc_123, s15, v16, gM15_1, gM15_2, Nat.add_assoc]
  have l16 : c < (gM16 G c).1 := by rw [gM16_1]; omega
  have s17 : shp (gM17 G c) c = (0, 7) := (gM17_s hlt).trans hc
  have v17 : putR (newA (gM16 G c) 1 2) c 16 (G.1 + 16) = gM17 G c := rfl
  simp (disch := first | omega | (simp only [nA_1, nO_1, pR_1]; omega)) only [Nat.reduceAdd, aw_aload_0 (pc2 := 139) D123_138 rfl, aw_iconst (pc2 := 140) (y := 2) D123_139 rfl (by decide), aw_newa_int (pc2 := 142) (x := 2) (N := 2) D123_140 rfl (by decide) (by decide), aw_putR (pc2 := 145) (ci := 7) (fk := 16) D123_142 rfl fT_7_59 ⟨rfl, rfl, rfl⟩, refV_s, refV_n, psh_s, psh_n, kil_i, kil_r, kil_n, kil_l, cat_i, cat_r, iOK_1, iOK_5, jOK_2, jOK_6, wOK_e, lOK_1, lOK_2, lOK_3, lOK_4, lOK_5, lOK_6, catS_0, catS_1, catS_2, catS_3, catS_4, and_self, true_and, and_true, true_or, or_true, false_or, or_false, not_true_eq_false, not_false_eq_true, if_true, if_false, ite_int, ite_int0, au_10, eq_self, decide_true, decide_false, Bool.true_and, Bool.false_and, au_in, au_le, au_lt, au_eq, au_lt0, au_ge0, au_le0, au_gt0, au_eq0, au_leT, au_leF, au_ltT, au_ltF, au_eqT, au_eqF, nI_clamp, nI_1, nI_add, pk_mul, au_sub1, au_subc, au_up2e, au_up2n, lit_of, nA_1, nA_2, nO_1, nO_2, pR_1, pR_2, sh_pR, sh_nA, sh_nAe, mc_123, s16, v17, gM16_1, gM16_2, Nat.add_assoc]
  have l17 : c < (gM17 G c).1 := by rw [gM17_1]; omega
  have s18 : shp (gM18 G c) c = (0, 7) := (gM18_s hlt).trans hc
  have v18 : putR (newA (gM17 G c) 1 24) c 17 (G.1 + 17) = gM18 G c := rfl
  simp (disch := first | omega | (simp only [nA_1, nO_1, pR_1]; omega)) only [Nat.reduceAdd, aw_aload_0 (pc2 := 146) D123_145 rfl, aw_bipush (pc2 := 148) (y := 24) D123_146 rfl (by decide), aw_newa_int (pc2 := 150) (x := 24) (N := 24) D123_148 rfl (by decide) (by decide), aw_putR (pc2 := 153) (ci := 7) (fk := 17) D123_150 rfl fT_7_62 ⟨rfl, rfl, rfl⟩, refV_s, refV_n, psh_s, psh_n, kil_i, kil_r, kil_n, kil_l, cat_i, cat_r, iOK_1, iOK_5, jOK_2, jOK_6, wOK_e, lOK_1, lOK_2, lOK_3, lOK_4, lOK_5, lOK_6, catS_0, catS_1, catS_2, catS_3, catS_4, and_self, true_and, and_true, true_or, or_true, false_or, or_false, not_true_eq_false, not_false_eq_true, if_true, if_false, ite_int, ite_int0, au_10, eq_self, decide_true, decide_false, Bool.true_and, Bool.false_and, au_in, au_le, au_lt, au_eq, au_lt0, au_ge0, au_le0, au_gt0, au_eq0, au_leT, au_leF, au_ltT, au_ltF, au_eqT, au_eqF, nI_clamp, nI_1, nI_add, pk_mul, au_sub1, au_subc, au_up2e, au_up2n, lit_of, nA_1, nA_2, nO_1, nO_2, pR_1, pR_2, sh_pR, sh_nA, sh_nAe, mc_123, s17, v18, gM17_1, gM17_2, Nat.add_assoc]
  have l18 : c < (gM18 G c).1 := by rw [gM18_1]; omega
  have s19 : shp (gM19 G c) c = (0, 7) := (gM19_s hlt).trans hc
  have v19 : putR (newA (gM18 G c) 1 560) c 19 (G.1 + 18) = gM19 G c := rfl
  simp (disch := first | omega | (simp only [nA_1, nO_1, pR_1]; omega)) only [Nat.reduceAdd, aw_aload_0 (pc2 := 154) D123_153 rfl, aw_sipush (pc2 := 157) (y := 560) D123_154 rfl (by decide), aw_newa_int (pc2 := 159) (x := 560) (N := 560) D123_157 rfl (by decide) (by decide), aw_putR (pc2 := 162) (ci := 7) (fk := 19) D123_159 rfl fT_7_65 ⟨rfl, rfl, rfl⟩, refV_s, refV_n, psh_s, psh_n, kil_i, kil_r, kil_n, kil_l, cat_i, cat_r, iOK_1, iOK_5, jOK_2, jOK_6, wOK_e, lOK_1, lOK_2, lOK_3, lOK_4, lOK_5, lOK_6, catS_0, catS_1, catS_2, catS_3, catS_4, and_self, true_and, and_true, true_or, or_true, false_or, or_false, not_true_eq_false, not_false_eq_true, if_true, if_false, ite_int, ite_int0, au_10, eq_self, decide_true, decide_false, Bool.true_and, Bool.false_and, au_in, au_le, au_lt, au_eq, au_lt0, au_ge0, au_le0, au_gt0, au_eq0, au_leT, au_leF, au_ltT, au_ltF, au_eqT, au_eqF, nI_clamp, nI_1, nI_add, pk_mul, au_sub1, au_subc, au_up2e, au_up2n, lit_of, nA_1, nA_2, nO_1, nO_2, pR_1, pR_2, sh_pR, sh_nA, sh_nAe, mc_123, s18, v19, gM18_1, gM18_2, Nat.add_assoc]
  have l19 : c < (gM19 G c).1 := by rw [gM19_1]; omega
  have s20 : shp (gM20 G c) c = (0, 7) := (gM20_s hlt).trans hc
  have v20 : putR (newA (gM19 G c) 1 14) c 20 (G.1 + 19) = gM20 G c := rfl
  simp (disch := first | omega | (simp only [nA_1, nO_1, pR_1]; omega)) only [Nat.reduceAdd, aw_aload_0 (pc2 := 163) D123_162 rfl, aw_bipush (pc2 := 165) (y := 14) D123_163 rfl (by decide), aw_newa_int (pc2 := 167) (x := 14) (N := 14) D123_165 rfl (by decide) (by decide), aw_putR (pc2 := 170) (ci := 7) (fk := 20) D123_167 rfl fT_7_68 ⟨rfl, rfl, rfl⟩, refV_s, refV_n, psh_s, psh_n, kil_i, kil_r, kil_n, kil_l, cat_i, cat_r, iOK_1, iOK_5, jOK_2, jOK_6, wOK_e, lOK_1, lOK_2, lOK_3, lOK_4, lOK_5, lOK_6, catS_0, catS_1, catS_2, catS_3, catS_4, and_self, true_and, and_true, true_or, or_true, false_or, or_false, not_true_eq_false, not_false_eq_true, if_true, if_false, ite_int, ite_int0, au_10, eq_self, decide_true, decide_false, Bool.true_and, Bool.false_and, au_in, au_le, au_lt, au_eq, au_lt0, au_ge0, au_le0, au_gt0, au_eq0, au_leT, au_leF, au_ltT, au_ltF, au_eqT, au_eqF, nI_clamp, nI_1, nI_add, pk_mul, au_sub1, au_subc, au_up2e, au_up2n, lit_of, nA_1, nA_2, nO_1, nO_2, pR_1, pR_2, sh_pR, sh_nA, sh_nAe, mc_123, s19, v20, gM19_1, gM19_2, Nat.add_assoc]
  have l20 : c < (gM20 G c).1 := by rw [gM20_1]; omega
  have s21 : shp (gM21 G c) c = (0, 7) := (gM21_s hlt).trans hc
  have v21 : putR (newA (gM20 G c) 1 168) c 21 (G.1 + 20) = gM21 G c := rfl
  simp (disch := first | omega | (simp only [nA_1, nO_1, pR_1]; omega)) only [Nat.reduceAdd, aw_aload_0 (pc2 := 171) D123_170 rfl, aw_sipush (pc2 := 174) (y := 168) D123_171 rfl (by decide), aw_newa_int (pc2 := 176) (x := 168) (N := 168) D123_174 rfl (by decide) (by decide), aw_putR (pc2 := 179) (ci := 7) (fk := 21) D123_176 rfl fT_7_71 ⟨rfl, rfl, rfl⟩, refV_s, refV_n, psh_s, psh_n, kil_i, kil_r, kil_n, kil_l, cat_i, cat_r, iOK_1, iOK_5, jOK_2, jOK_6, wOK_e, lOK_1, lOK_2, lOK_3, lOK_4, lOK_5, lOK_6, catS_0, catS_1, catS_2, catS_3, catS_4, and_self, true_and, and_true, true_or, or_true, false_or, or_false, not_true_eq_false, not_false_eq_true, if_true, if_false, ite_int, ite_int0, au_10, eq_self, decide_true, decide_false, Bool.true_and, Bool.false_and, au_in, au_le, au_lt, au_eq, au_lt0, au_ge0, au_le0, au_gt0, au_eq0, au_leT, au_leF, au_ltT, au_ltF, au_eqT, au_eqF, nI_clamp, nI_1, nI_add, pk_mul, au_sub1, au_subc, au_up2e, au_up2n, lit_of, nA_1, nA_2, nO_1, nO_2, pR_1, pR_2, sh_pR, sh_nA, sh_nAe, mc_123, s20, v21, gM20_1, gM20_2, Nat.add_assoc]
  have l21 : c < (gM21 G c).1 := by rw [gM21_1]; omega
  have s22 : shp (gM22 G c) c = (0, 7) := (gM22_s hlt).trans hc
  have v22 : putR (newA (gM21 G c) 1 14) c 22 (G.1 + 21) = gM22 G c := rfl
  simp (disch := first | omega | (simp only [nA_1, nO_1, pR_1]; omega)) only [Nat.reduceAdd, aw_aload_0 (pc2 := 180) D123_179 rfl, aw_bipush (pc2 := 182) (y := 14) D123_180 rfl (by decide), aw_newa_int (pc2 := 184) (x := 14) (N := 14) D123_182 rfl (by decide) (by decide), aw_putR (pc2 := 187) (ci := 7) (fk := 22) D123_184 rfl fT_7_74 ⟨rfl, rfl, rfl⟩, refV_s, refV_n, psh_s, psh_n, kil_i, kil_r, kil_n, kil_l, cat_i, cat_r, iOK_1, iOK_5, jOK_2, jOK_6, wOK_e, lOK_1, lOK_2, lOK_3, lOK_4, lOK_5, lOK_6, catS_0, catS_1, catS_2, catS_3, catS_4, and_self, true_and, and_true, true_or, or_true, false_or, or_false, not_true_eq_false, not_false_eq_true, if_true, if_false, ite_int, ite_int0, au_10, eq_self, decide_true, decide_false, Bool.true_and, Bool.false_and, au_in, au_le, au_lt, au_eq, au_lt0, au_ge0, au_le0, au_gt0, au_eq0, au_leT, au_leF, au_ltT, au_ltF, au_eqT, au_eqF, nI_clamp, nI_1, nI_add, pk_mul, au_sub1, au_subc, au_up2e, au_up2n, lit_of, nA_1, nA_2, nO_1, nO_2, pR_1, pR_2, sh_pR, sh_nA, sh_nAe, mc_123, s21, v22, gM21_1, gM21_2, Nat.add_assoc]
  have l22 : c < (gM22 G c).1 := by rw [gM22_1]; omega
  have s23 : shp (gM23 G c) c = (0, 7) := (gM23_s hlt).trans hc
  have v23 : putR (newA (gM22 G c) 1 560) c 23 (G.1 + 22) = gM23 G c := rfl
  simp (disch := first | omega | (simp only [nA_1, nO_1, pR_1]; omega)) only [Nat.reduceAdd, aw_aload_0 (pc2 := 188) D123_187 rfl, aw_sipush (pc2 := 191) (y := 560) D123_188 rfl (by decide), aw_newa_int (pc2 := 193) (x := 560) (N := 560) D123_191 rfl (by decide) (by decide), aw_putR (pc2 := 196) (ci := 7) (fk := 23) D123_193 rfl fT_7_77 ⟨rfl, rfl, rfl⟩, refV_s, refV_n, psh_s, psh_n, kil_i, kil_r, kil_n, kil_l, cat_i, cat_r, iOK_1, iOK_5, jOK_2, jOK_6, wOK_e, lOK_1, lOK_2, lOK_3, lOK_4, lOK_5, lOK_6, catS_0, catS_1, catS_2, catS_3, catS_4, and_self, true_and, and_true, true_or, or_true, false_or, or_false, not_true_eq_false, not_false_eq_true, if_true, if_false, ite_int, ite_int0, au_10, eq_self, decide_true, decide_false, Bool.true_and, Bool.false_and, au_in, au_le, au_lt, au_eq, au_lt0, au_ge0, au_le0, au_gt0, au_eq0, au_leT, au_leF, au_ltT, au_ltF, au_eqT, au_eqF, nI_clamp, nI_1, nI_add, pk_mul, au_sub1, au_subc, au_up2e, au_up2n, lit_of, nA_1, nA_2, nO_1, nO_2, pR_1, pR_2, sh_pR, sh_nA, sh_nAe, mc_123, s22, v23, gM22_1, gM22_2, Nat.add_assoc]
  have l23 : c < (gM23 G c).1 := by rw [gM23_1]; omega
  have s24 : shp (gM24 G c) c = (0, 7) := (gM24_s hlt).trans hc
  have v24 : putR (newA (gM23 G c) 1 14) c 24 (G.1 + 23) = gM24 G c := rfl
  simp (disch := first | omega | (simp only [nA_1, nO_1, pR_1]; omega)) only [Nat.reduceAdd, aw_aload_0 (pc2 := 197) D123_196 rfl, aw_bipush (pc2 := 199) (y := 14) D123_197 rfl (by decide), aw_newa_int (pc2 := 201) (x := 14) (N := 14) D123_199 rfl (by decide) (by decide), aw_putR (pc2 := 204) (ci := 7) (fk := 24) D123_201 rfl fT_7_80 ⟨rfl, rfl, rfl⟩, refV_s, refV_n, psh_s, psh_n, kil_i, kil_r, kil_n, kil_l, cat_i, cat_r, iOK_1, iOK_5, jOK_2, jOK_6, wOK_e, lOK_1, lOK_2, lOK_3, lOK_4, lOK_5, lOK_6, catS_0, catS_1, catS_2, catS_3, catS_4, and_self, true_and, and_true, true_or, or_true, false_or, or_false, not_true_eq_false, not_false_eq_true, if_true, if_false, ite_int, ite_int0, au_10, eq_self, decide_true, decide_false, Bool.true_and, Bool.false_and, au_in, au_le, au_lt, au_eq, au_lt0, au_ge0, au_le0, au_gt0, au_eq0, au_leT, au_leF, au_ltT, au_ltF, au_eqT, au_eqF, nI_clamp, nI_1, nI_add, pk_mul, au_sub1, au_subc, au_up2e, au_up2n, lit_of, nA_1, nA_2, nO_1, nO_2, pR_1, pR_2, sh_pR, sh_nA, sh_nAe, mc_123, s23, v24, gM23_1, gM23_2, Nat.add_assoc]
  have l24 : c < (gM24 G c).1 := by rw [gM24_1]; omega
  have s25 : shp (gM25 G c) c = (0, 7) := (gM25_s hlt).trans hc
  have v25 : putR (newA (gM24 G c) 1 14) c 25 (G.1 + 24) = gM25 G c := rfl
  simp (disch := first | omega | (simp only [nA_1, nO_1, pR_1]; omega)) only [Nat.reduceAdd, aw_aload_0 (pc2 := 205) D123_204 rfl, aw_bipush (pc2 := 207) (y := 14) D123_205 rfl (by decide), aw_newa_int (pc2 := 209) (x := 14) (N := 14) D123_207 rfl (by decide) (by decide), aw_putR (pc2 := 212) (ci := 7) (fk := 25) D123_209 rfl fT_7_83 ⟨rfl, rfl, rfl⟩, refV_s, refV_n, psh_s, psh_n, kil_i, kil_r, kil_n, kil_l, cat_i, cat_r, iOK_1, iOK_5, jOK_2, jOK_6, wOK_e, lOK_1, lOK_2, lOK_3, lOK_4, lOK_5, lOK_6, catS_0, catS_1, catS_2, catS_3, catS_4, and_self, true_and, and_true, true_or, or_true, false_or, or_false, not_true_eq_false, not_false_eq_true, if_true, if_false, ite_int, ite_int0, au_10, eq_self, decide_true, decide_false, Bool.true_and, Bool.false_and, au_in, au_le, au_lt, au_eq, au_lt0, au_ge0, au_le0, au_gt0, au_eq0, au_leT, au_leF, au_ltT, au_ltF, au_eqT, au_eqF, nI_clamp, nI_1, nI_add, pk_mul, au_sub1, au_subc, au_up2e, au_up2n, lit_of, nA_1, nA_2, nO_1, nO_2, pR_1, pR_2, sh_pR, sh_nA, sh_nAe, mc_123, s24, v25, gM24_1, gM24_2, Nat.add_assoc]
  have l25 : c < (gM25 G c).1 := by rw [gM25_1]; omega
  have s26 : shp (gM26 G c) c = (0, 7) := (gM26_s hlt).trans hc
  have v26 : putR (newA (gM25 G c) 1 168) c 26 (G.1 + 25) = gM26 G c := rfl
  simp (disch := first | omega | (simp only [nA_1, nO_1, pR_1]; omega)) only [Nat.reduceAdd, aw_aload_0 (pc2 := 213) D123_212 rfl, aw_sipush (pc2 := 216) (y := 168) D123_213 rfl (by decide), aw_newa_int (pc2 := 218) (x := 168) (N := 168) D123_216 rfl (by decide) (by decide), aw_putR (pc2 := 221) (ci := 7) (fk := 26) D123_218 rfl fT_7_86 ⟨rfl, rfl, rfl⟩, refV_s, refV_n, psh_s, psh_n, kil_i, kil_r, kil_n, kil_l, cat_i, cat_r, iOK_1, iOK_5, jOK_2, jOK_6, wOK_e, lOK_1, lOK_2, lOK_3, lOK_4, lOK_5, lOK_6, catS_0, catS_1, catS_2, catS_3, catS_4, and_self, true_and, and_true, true_or, or_true, false_or, or_false, not_true_eq_false, not_false_eq_true, if_true, if_false, ite_int, ite_int0, au_10, eq_self, decide_true, decide_false, Bool.true_and, Bool.false_and, au_in, au_le, au_lt, au_eq, au_lt0, au_ge0, au_le0, au_gt0, au_eq0, au_leT, au_leF, au_ltT, au_ltF, au_eqT, au_eqF, nI_clamp, nI_1, nI_add, pk_mul, au_sub1, au_subc, au_up2e, au_up2n, lit_of, nA_1, nA_2, nO_1, nO_2, pR_1, pR_2, sh_pR, sh_nA, sh_nAe, mc_123, s25, v26, gM25_1, gM25_2, Nat.add_assoc]
  have l26 : c < (gM26 G c).1 := by rw [gM26_1]; omega
  have s27 : shp (gM27 G c) c = (0, 7) := (gM27_s hlt).trans hc
  have v27 : putR (newA (gM26 G c) 1 560) c 27 (G.1 + 26) = gM27 G c := rfl
  simp (disch := first | omega | (simp only [nA_1, nO_1, pR_1]; omega)) only [Nat.reduceAdd, aw_aload_0 (pc2 := 222) D123_221 rfl, aw_sipush (pc2 := 225) (y := 560) D123_222 rfl (by decide), aw_newa_int (pc2 := 227) (x := 560) (N := 560) D123_225 rfl (by decide) (by decide), aw_putR (pc2 := 230) (ci := 7) (fk := 27) D123_227 rfl fT_7_89 ⟨rfl, rfl, rfl⟩, refV_s, refV_n, psh_s, psh_n, kil_i, kil_r, kil_n, kil_l, cat_i, cat_r, iOK_1, iOK_5, jOK_2, jOK_6, wOK_e, lOK_1, lOK_2, lOK_3, lOK_4, lOK_5, lOK_6, catS_0, catS_1, catS_2, catS_3, catS_4, and_self, true_and, and_true, true_or, or_true, false_or, or_false, not_true_eq_false, not_false_eq_true, if_true, if_false, ite_int, ite_int0, au_10, eq_self, decide_true, decide_false, Bool.true_and, Bool.false_and, au_in, au_le, au_lt, au_eq, au_lt0, au_ge0, au_le0, au_gt0, au_eq0, au_leT, au_leF, au_ltT, au_ltF, au_eqT, au_eqF, nI_clamp, nI_1, nI_add, pk_mul, au_sub1, au_subc, au_up2e, au_up2n, lit_of, nA_1, nA_2, nO_1, nO_2, pR_1, pR_2, sh_pR, sh_nA, sh_nAe, mc_123, s26, v27, gM26_1, gM26_2, Nat.add_assoc]
  have l27 : c < (gM27 G c).1 := by rw [gM27_1]; omega
  have s28 : shp (gM28 G c) c = (0, 7) := (gM28_s hlt).trans hc
  have v28 : putR (newA (gM27 G c) 1 14) c 28 (G.1 + 27) = gM28 G c := rfl
  simp (disch := first | omega | (simp only [nA_1, nO_1, pR_1]; omega)) only [Nat.reduceAdd, aw_aload_0 (pc2 := 231) D123_230 rfl, aw_bipush (pc2 := 233) (y := 14) D123_231 rfl (by decide), aw_newa_int (pc2 := 235) (x := 14) (N := 14) D123_233 rfl (by decide) (by decide), aw_putR (pc2 := 238) (ci := 7) (fk := 28) D123_235 rfl fT_7_92 ⟨rfl, rfl, rfl⟩, refV_s, refV_n, psh_s, psh_n, kil_i, kil_r, kil_n, kil_l, cat_i, cat_r, iOK_1, iOK_5, jOK_2, jOK_6, wOK_e, lOK_1, lOK_2, lOK_3, lOK_4, lOK_5, lOK_6, catS_0, catS_1, catS_2, catS_3, catS_4, and_self, true_and, and_true, true_or, or_true, false_or, or_false, not_true_eq_false, not_false_eq_true, if_true, if_false, ite_int, ite_int0, au_10, eq_self, decide_true, decide_false, Bool.true_and, Bool.false_and, au_in, au_le, au_lt, au_eq, au_lt0, au_ge0, au_le0, au_gt0, au_eq0, au_leT, au_leF, au_ltT, au_ltF, au_eqT, au_eqF, nI_clamp, nI_1, nI_add, pk_mul, au_sub1, au_subc, au_up2e, au_up2n, lit_of, nA_1, nA_2, nO_1, nO_2, pR_1, pR_2, sh_pR, sh_nA, sh_nAe, mc_123, s27, v28, gM27_1, gM27_2, Nat.add_assoc]
  have l28 : c < (gM28 G c).1 := by rw [gM28_1]; omega
  have s29 : shp (gM29 G c) c = (0, 7) := (gM29_s hlt).trans hc
  have v29 : putR (newA (gM28 G c) 1 14) c 29 (G.1 + 28) = gM29 G c := rfl
  simp (disch := first | omega | (simp only [nA_1, nO_1, pR_1]; omega)) only [Nat.reduceAdd, aw_aload_0 (pc2 := 239) D123_238 rfl, aw_bipush (pc2 := 241) (y := 14) D123_239 rfl (by decide), aw_newa_int (pc2 := 243) (x := 14) (N := 14) D123_241 rfl (by decide) (by decide), aw_putR (pc2 := 246) (ci := 7) (fk := 29) D123_243 rfl fT_7_95 ⟨rfl, rfl, rfl⟩, refV_s, refV_n, psh_s, psh_n, kil_i, kil_r, kil_n, kil_l, cat_i, cat_r, iOK_1, iOK_5, jOK_2, jOK_6, wOK_e, lOK_1, lOK_2, lOK_3, lOK_4, lOK_5, lOK_6, catS_0, catS_1, catS_2, catS_3, catS_4, and_self, true_and, and_true, true_or, or_true, false_or, or_false, not_true_eq_false, not_false_eq_true, if_true, if_false, ite_int, ite_int0, au_10, eq_self, decide_true, decide_false, Bool.true_and, Bool.false_and, au_in, au_le, au_lt, au_eq, au_lt0, au_ge0, au_le0, au_gt0, au_eq0, au_leT, au_leF, au_ltT, au_ltF, au_eqT, au_eqF, nI_clamp, nI_1, nI_add, pk_mul, au_sub1, au_subc, au_up2e, au_up2n, lit_of, nA_1, nA_2, nO_1, nO_2, pR_1, pR_2, sh_pR, sh_nA, sh_nAe, mc_123, s28, v29, gM28_1, gM28_2, Nat.add_assoc]
  have l29 : c < (gM29 G c).1 := by rw [gM29_1]; omega
  have s30 : shp (gM30 G c) c = (0, 7) := (gM30_s hlt).trans hc
  have v30 : putR (newA (gM29 G c) 1 14) c 30 (G.1 + 29) = gM30 G c := rfl
  simp (disch := first | omega | (simp only [nA_1, nO_1, pR_1]; omega)) only [Nat.reduceAdd, aw_aload_0 (pc2 := 247) D123_246 rfl, aw_bipush (pc2 := 249) (y := 14) D123_247 rfl (by decide), aw_newa_int (pc2 := 251) (x := 14) (N := 14) D123_249 rfl (by decide) (by decide), aw_putR (pc2 := 254) (ci := 7) (fk := 30) D123_251 rfl fT_7_98 ⟨rfl, rfl, rfl⟩, refV_s, refV_n, psh_s, psh_n, kil_i, kil_r, kil_n, kil_l, cat_i, cat_r, iOK_1, iOK_5, jOK_2, jOK_6, wOK_e, lOK_1, lOK_2, lOK_3, lOK_4, lOK_5, lOK_6, catS_0, catS_1, catS_2, catS_3, catS_4, and_self, true_and, and_true, true_or, or_true, false_or, or_false, not_true_eq_false, not_false_eq_true, if_true, if_false, ite_int, ite_int0, au_10, eq_self, decide_true, decide_false, Bool.true_and, Bool.false_and, au_in, au_le, au_lt, au_eq, au_lt0, au_ge0, au_le0, au_gt0, au_eq0, au_leT, au_leF, au_ltT, au_ltF, au_eqT, au_eqF, nI_clamp, nI_1, nI_add, pk_mul, au_sub1, au_subc, au_up2e, au_up2n, lit_of, nA_1, nA_2, nO_1, nO_2, pR_1, pR_2, sh_pR, sh_nA, sh_nAe, mc_123, s29, v30, gM29_1, gM29_2, Nat.add_assoc]
  have l30 : c < (gM30 G c).1 := by rw [gM30_1]; omega
  have s31 : shp (gM31 G c) c = (0, 7) := (gM31_s hlt).trans hc
  have v31 : putR (newA (gM30 G c) 1 14) c 31 (G.1 + 30) = gM31 G c := rfl
  simp (disch := first | omega | (simp only [nA_1, nO_1, pR_1]; omega)) only [Nat.reduceAdd, aw_aload_0 (pc2 := 255) D123_254 rfl, aw_bipush (pc2 := 257) (y := 14) D123_255 rfl (by decide), aw_newa_int (pc2 := 259) (x := 14) (N := 14) D123_257 rfl (by decide) (by decide), aw_putR (pc2 := 262) (ci := 7) (fk := 31) D123_259 rfl fT_7_101 ⟨rfl, rfl, rfl⟩, refV_s, refV_n, psh_s, psh_n, kil_i, kil_r, kil_n, kil_l, cat_i, cat_r, iOK_1, iOK_5, jOK_2, jOK_6, wOK_e, lOK_1, lOK_2, lOK_3, lOK_4, lOK_5, lOK_6, catS_0, catS_1, catS_2, catS_3, catS_4, and_self, true_and, and_true, true_or, or_true, false_or, or_false, not_true_eq_false, not_false_eq_true, if_true, if_false, ite_int, ite_int0, au_10, eq_self, decide_true, decide_false, Bool.true_and, Bool.false_and, au_in, au_le, au_lt, au_eq, au_lt0, au_ge0, au_le0, au_gt0, au_eq0, au_leT, au_leF, au_ltT, au_ltF, au_eqT, au_eqF, nI_clamp, nI_1, nI_add, pk_mul, au_sub1, au_subc, au_up2e, au_up2n, lit_of, nA_1, nA_2, nO_1, nO_2, pR_1, pR_2, sh_pR, sh_nA, sh_nAe, mc_123, s30, v31, gM30_1, gM30_2, Nat.add_assoc]
  have l31 : c < (gM31 G c).1 := by rw [gM31_1]; omega
  have s32 : shp (gM32 G c) c = (0, 7) := (gM32_s hlt).trans hc
  have v32 : putR (newA (gM31 G c) 1 4200) c 32 (G.1 + 31) = gM32 G c := rfl
  simp (disch := first | omega | (simp only [nA_1, nO_1, pR_1]; omega)) only [Nat.reduceAdd, aw_aload_0 (pc2 := 263) D123_262 rfl, aw_sipush (pc2 := 266) (y := 4200) D123_263 rfl (by decide), aw_newa_int (pc2 := 268) (x := 4200) (N := 4200) D123_266 rfl (by decide) (by decide), aw_putR (pc2 := 271) (ci := 7) (fk := 32) D123_268 rfl fT_7_104 ⟨rfl, rfl, rfl⟩, refV_s, refV_n, psh_s, psh_n, kil_i, kil_r, kil_n, kil_l, cat_i, cat_r, iOK_1, iOK_5, jOK_2, jOK_6, wOK_e, lOK_1, lOK_2, lOK_3, lOK_4, lOK_5, lOK_6, catS_0, catS_1, catS_2, catS_3, catS_4, and_self, true_and, and_true, true_or, or_true, false_or, or_false, not_true_eq_false, not_false_eq_true, if_true, if_false, ite_int, ite_int0, au_10, eq_self, decide_true, decide_false, Bool.true_and, Bool.false_and, au_in, au_le, au_lt, au_eq, au_lt0, au_ge0, au_le0, au_gt0, au_eq0, au_leT, au_leF, au_ltT, au_ltF, au_eqT, au_eqF, nI_clamp, nI_1, nI_add, pk_mul, au_sub1, au_subc, au_up2e, au_up2n, lit_of, nA_1, nA_2, nO_1, nO_2, pR_1, pR_2, sh_pR, sh_nA, sh_nAe, mc_123, s31, v32, gM31_1, gM31_2, Nat.add_assoc]
  have l32 : c < (gM32 G c).1 := by rw [gM32_1]; omega
  have s33 : shp (gM33 G c) c = (0, 7) := (gM33_s hlt).trans hc
  have v33 : putR (newA (gM32 G c) 1 4200) c 33 (G.1 + 32) = gM33 G c := rfl
  simp (disch := first | omega | (simp only [nA_1, nO_1, pR_1]; omega)) only [Nat.reduceAdd, aw_aload_0 (pc2 := 272) D123_271 rfl, aw_sipush (pc2 := 275) (y := 4200) D123_272 rfl (by decide), aw_newa_int (pc2 := 277) (x := 4200) (N := 4200) D123_275 rfl (by decide) (by decide), aw_putR (pc2 := 280) (ci := 7) (fk := 33) D123_277 rfl fT_7_107 ⟨rfl, rfl, rfl⟩, refV_s, refV_n, psh_s, psh_n, kil_i, kil_r, kil_n, kil_l, cat_i, cat_r, iOK_1, iOK_5, jOK_2, jOK_6, wOK_e, lOK_1, lOK_2, lOK_3, lOK_4, lOK_5, lOK_6, catS_0, catS_1, catS_2, catS_3, catS_4, and_self, true_and, and_true, true_or, or_true, false_or, or_false, not_true_eq_false, not_false_eq_true, if_true, if_false, ite_int, ite_int0, au_10, eq_self, decide_true, decide_false, Bool.true_and, Bool.false_and, au_in, au_le, au_lt, au_eq, au_lt0, au_ge0, au_le0, au_gt0, au_eq0, au_leT, au_leF, au_ltT, au_ltF, au_eqT, au_eqF, nI_clamp, nI_1, nI_add, pk_mul, au_sub1, au_subc, au_up2e, au_up2n, lit_of, nA_1, nA_2, nO_1, nO_2, pR_1, pR_2, sh_pR, sh_nA, sh_nAe, mc_123, s32, v33, gM32_1, gM32_2, Nat.add_assoc]
  have l33 : c < (gM33 G c).1 := by rw [gM33_1]; omega
  have s34 : shp (gM34 G c) c = (0, 7) := (gM34_s hlt).trans hc
  have v34 : putR (newA (gM33 G c) 1 4200) c 34 (G.1 + 33) = gM34 G c := rfl
  simp (disch := first | omega | (simp only [nA_1, nO_1, pR_1]; omega)) only [Nat.reduceAdd, aw_aload_0 (pc2 := 281) D123_280 rfl, aw_sipush (pc2 := 284) (y := 4200) D123_281 rfl (by decide), aw_newa_int (pc2 := 286) (x := 4200) (N := 4200) D123_284 rfl (by decide) (by decide), aw_putR (pc2 := 289) (ci := 7) (fk := 34) D123_286 rfl fT_7_110 ⟨rfl, rfl, rfl⟩, refV_s, refV_n, psh_s, psh_n, kil_i, kil_r, kil_n, kil_l, cat_i, cat_r, iOK_1, iOK_5, jOK_2, jOK_6, wOK_e, lOK_1, lOK_2, lOK_3, lOK_4, lOK_5, lOK_6, catS_0, catS_1, catS_2, catS_3, catS_4, and_self, true_and, and_true, true_or, or_true, false_or, or_false, not_true_eq_false, not_false_eq_true, if_true, if_false, ite_int, ite_int0, au_10, eq_self, decide_true, decide_false, Bool.true_and, Bool.false_and, au_in, au_le, au_lt, au_eq, au_lt0, au_ge0, au_le0, au_gt0, au_eq0, au_leT, au_leF, au_ltT, au_ltF, au_eqT, au_eqF, nI_clamp, nI_1, nI_add, pk_mul, au_sub1, au_subc, au_up2e, au_up2n, lit_of, nA_1, nA_2, nO_1, nO_2, pR_1, pR_2, sh_pR, sh_nA, sh_nAe, mc_123, s33, v34, gM33_1, gM33_2, Nat.add_assoc]
  have l34 : c < (gM34 G c).1 := by rw [gM34_1]; omega
  have s35 : shp (gM35 G c) c = (0, 7) := (gM35_s hlt).trans hc
  have v35 : putR (newA (gM34 G c) 1 168000) c 35 (G.1 + 34) = gM35 G c := rfl
  simp (disch := first | omega | (simp only [nA_1, nO_1, pR_1]; omega)) only [Nat.reduceAdd, aw_aload_0 (pc2 := 290) D123_289 rfl, aw_ldc (pc2 := 292) (v := 168000) D123_290 rfl (by decide), aw_newa_int (pc2 := 294) (x := 168000) (N := 168000) D123_292 rfl (by decide) (by decide), aw_putR (pc2 := 297) (ci := 7) (fk := 35) D123_294 rfl fT_7_114 ⟨rfl, rfl, rfl⟩, refV_s, refV_n, psh_s, psh_n, kil_i, kil_r, kil_n, kil_l, cat_i, cat_r, iOK_1, iOK_5, jOK_2, jOK_6, wOK_e, lOK_1, lOK_2, lOK_3, lOK_4, lOK_5, lOK_6, catS_0, catS_1, catS_2, catS_3, catS_4, and_self, true_and, and_true, true_or, or_true, false_or, or_false, not_true_eq_false, not_false_eq_true, if_true, if_false, ite_int, ite_int0, au_10, eq_self, decide_true, decide_false, Bool.true_and, Bool.false_and, au_in, au_le, au_lt, au_eq, au_lt0, au_ge0, au_le0, au_gt0, au_eq0, au_leT, au_leF, au_ltT, au_ltF, au_eqT, au_eqF, nI_clamp, nI_1, nI_add, pk_mul, au_sub1, au_subc, au_up2e, au_up2n, lit_of, nA_1, nA_2, nO_1, nO_2, pR_1, pR_2, sh_pR, sh_nA, sh_nAe, mc_123, s34, v35, gM34_1, gM34_2, Nat.add_assoc]
  have l35 : c < (gM35 G c).1 := by rw [gM35_1]; omega
  have s36 : shp (gM36 G c) c = (0, 7) := (gM36_s hlt).trans hc
  have v36 : putR (newA (gM35 G c) 1 1500) c 40 (G.1 + 35) = gM36 G c := rfl
  simp (disch := first | omega | (simp only [nA_1, nO_1, pR_1]; omega)) only [Nat.reduceAdd, aw_aload_0 (pc2 := 298) D123_297 rfl, aw_sipush (pc2 := 301) (y := 1500) D123_298 rfl (by decide), aw_newa_int (pc2 := 303) (x := 1500) (N := 1500) D123_301 rfl (by decide) (by decide), aw_putR (pc2 := 306) (ci := 7) (fk := 40) D123_303 rfl fT_7_117 ⟨rfl, rfl, rfl⟩, refV_s, refV_n, psh_s, psh_n, kil_i, kil_r, kil_n, kil_l, cat_i, cat_r, iOK_1, iOK_5, jOK_2, jOK_6, wOK_e, lOK_1, lOK_2, lOK_3, lOK_4, lOK_5, lOK_6, catS_0, catS_1, catS_2, catS_3, catS_4, and_self, true_and, and_true, true_or, or_true, false_or, or_false, not_true_eq_false, not_false_eq_true, if_true, if_false, ite_int, ite_int0, au_10, eq_self, decide_true, decide_false, Bool.true_and, Bool.false_and, au_in, au_le, au_lt, au_eq, au_lt0, au_ge0, au_le0, au_gt0, au_eq0, au_leT, au_leF, au_ltT, au_ltF, au_eqT, au_eqF, nI_clamp, nI_1, nI_add, pk_mul, au_sub1, au_subc, au_up2e, au_up2n, lit_of, nA_1, nA_2, nO_1, nO_2, pR_1, pR_2, sh_pR, sh_nA, sh_nAe, mc_123, s35, v36, gM35_1, gM35_2, Nat.add_assoc]
  have l36 : c < (gM36 G c).1 := by rw [gM36_1]; omega
  have s37 : shp (gM37 G c) c = (0, 7) := (gM37_s hlt).trans hc
  have v37 : putR (newA (gM36 G c) 3 8192) c 41 (G.1 + 36) = gM37 G c := rfl
  simp (disch := first | omega | (simp only [nA_1, nO_1, pR_1]; omega)) only [Nat.reduceAdd, aw_aload_0 (pc2 := 307) D123_306 rfl, aw_sipush (pc2 := 310) (y := 8192) D123_307 rfl (by decide), aw_newa_boolean (pc2 := 312) (x := 8192) (N := 8192) D123_310 rfl (by decide) (by decide), aw_putR (pc2 := 315) (ci := 7) (fk := 41) D123_312 rfl fT_7_120 ⟨rfl, rfl, rfl⟩, refV_s, refV_n, psh_s, psh_n, kil_i, kil_r, kil_n, kil_l, cat_i, cat_r, iOK_1, iOK_5, jOK_2, jOK_6, wOK_e, lOK_1, lOK_2, lOK_3, lOK_4, lOK_5, lOK_6, catS_0, catS_1, catS_2, catS_3, catS_4, and_self, true_and, and_true, true_or, or_true, false_or, or_false, not_true_eq_false, not_false_eq_true, if_true, if_false, ite_int, ite_int0, au_10, eq_self, decide_true, decide_false, Bool.true_and, Bool.false_and, au_in, au_le, au_lt, au_eq, au_lt0, au_ge0, au_le0, au_gt0, au_eq0, au_leT, au_leF, au_ltT, au_ltF, au_eqT, au_eqF, nI_clamp, nI_1, nI_add, pk_mul, au_sub1, au_subc, au_up2e, au_up2n, lit_of, nA_1, nA_2, nO_1, nO_2, pR_1, pR_2, sh_pR, sh_nA, sh_nAe, mc_123, s36, v37, gM36_1, gM36_2, Nat.add_assoc]
  have l37 : c < (gM37 G c).1 := by rw [gM37_1]; omega
  have s38 : shp (gM38 G c) c = (0, 7) := (gM38_s hlt).trans hc
  have v38 : putR (newA (gM37 G c) 3 1500) c 42 (G.1 + 37) = gM38 G c := rfl
  simp (disch := first | omega | (simp only [nA_1, nO_1, pR_1]; omega)) only [Nat.reduceAdd, aw_aload_0 (pc2 := 316) D123_315 rfl, aw_sipush (pc2 := 319) (y := 1500) D123_316 rfl (by decide), aw_newa_boolean (pc2 := 321) (x := 1500) (N := 1500) D123_319 rfl (by decide) (by decide), aw_putR (pc2 := 324) (ci := 7) (fk := 42) D123_321 rfl fT_7_124 ⟨rfl, rfl, rfl⟩, refV_s, refV_n, psh_s, psh_n, kil_i, kil_r, kil_n, kil_l, cat_i, cat_r, iOK_1, iOK_5, jOK_2, jOK_6, wOK_e, lOK_1, lOK_2, lOK_3, lOK_4, lOK_5, lOK_6, catS_0, catS_1, catS_2, catS_3, catS_4, and_self, true_and, and_true, true_or, or_true, false_or, or_false, not_true_eq_false, not_false_eq_true, if_true, if_false, ite_int, ite_int0, au_10, eq_self, decide_true, decide_false, Bool.true_and, Bool.false_and, au_in, au_le, au_lt, au_eq, au_lt0, au_ge0, au_le0, au_gt0, au_eq0, au_leT, au_leF, au_ltT, au_ltF, au_eqT, au_eqF, nI_clamp, nI_1, nI_add, pk_mul, au_sub1, au_subc, au_up2e, au_up2n, lit_of, nA_1, nA_2, nO_1, nO_2, pR_1, pR_2, sh_pR, sh_nA, sh_nAe, mc_123, s37, v38, gM37_1, gM37_2, Nat.add_assoc]
  have l38 : c < (gM38 G c).1 := by rw [gM38_1]; omega
  have s39 : shp (gM39 G c) c = (0, 7) := (gM39_s hlt).trans hc
  have v39 : putR (newA (gM38 G c) 3 2) c 43 (G.1 + 38) = gM39 G c := rfl
  simp (disch := first | omega | (simp only [nA_1, nO_1, pR_1]; omega)) only [Nat.reduceAdd, aw_aload_0 (pc2 := 325) D123_324 rfl, aw_iconst (pc2 := 326) (y := 2) D123_325 rfl (by decide), aw_newa_boolean (pc2 := 328) (x := 2) (N := 2) D123_326 rfl (by decide) (by decide), aw_putR (pc2 := 331) (ci := 7) (fk := 43) D123_328 rfl fT_7_127 ⟨rfl, rfl, rfl⟩, refV_s, refV_n, psh_s, psh_n, kil_i, kil_r, kil_n, kil_l, cat_i, cat_r, iOK_1, iOK_5, jOK_2, jOK_6, wOK_e, lOK_1, lOK_2, lOK_3, lOK_4, lOK_5, lOK_6, catS_0, catS_1, catS_2, catS_3, catS_4, and_self, true_and, and_true, true_or, or_true, false_or, or_false, not_true_eq_false, not_false_eq_true, if_true, if_false, ite_int, ite_int0, au_10, eq_self, decide_true, decide_false, Bool.true_and, Bool.false_and, au_in, au_le, au_lt, au_eq, au_lt0, au_ge0, au_le0, au_gt0, au_eq0, au_leT, au_leF, au_ltT, au_ltF, au_eqT, au_eqF, nI_clamp, nI_1, nI_add, pk_mul, au_sub1, au_subc, au_up2e, au_up2n, lit_of, nA_1, nA_2, nO_1, nO_2, pR_1, pR_2, sh_pR, sh_nA, sh_nAe, mc_123, s38, v39, gM38_1, gM38_2, Nat.add_assoc]
  have l39 : c < (gM39 G c).1 := by rw [gM39_1]; omega
  have s40 : shp (gM40 G c) c = (0, 7) := (gM40_s hlt).trans hc
  have v40 : putR (newA (gM39 G c) 3 4096) c 45 (G.1 + 39) = gM40 G c := rfl
  simp (disch := first | omega | (simp only [nA_1, nO_1, pR_1]; omega)) only [Nat.reduceAdd, aw_aload_0 (pc2 := 332) D123_331 rfl, aw_iconst (pc2 := 333) (y := -1) D123_332 rfl (by decide), aw_putI (pc2 := 336) (ci := 7) (fk := 44) D123_333 rfl fT_7_130 rfl, aw_aload_0 (pc2 := 337) D123_336 rfl, aw_sipush (pc2 := 340) (y := 4096) D123_337 rfl (by decide), aw_newa_boolean (pc2 := 342) (x := 4096) (N := 4096) D123_340 rfl (by decide) (by decide), aw_putR (pc2 := 345) (ci := 7) (fk := 45) D123_342 rfl fT_7_134 ⟨rfl, rfl, rfl⟩, refV_s, refV_n, psh_s, psh_n, kil_i, kil_r, kil_n, kil_l, cat_i, cat_r, iOK_1, iOK_5, jOK_2, jOK_6, wOK_e, lOK_1, lOK_2, lOK_3, lOK_4, lOK_5, lOK_6, catS_0, catS_1, catS_2, catS_3, catS_4, and_self, true_and, and_true, true_or, or_true, false_or, or_false, not_true_eq_false, not_false_eq_true, if_true, if_false, ite_int, ite_int0, au_10, eq_self, decide_true, decide_false, Bool.true_and, Bool.false_and, au_in, au_le, au_lt, au_eq, au_lt0, au_ge0, au_le0, au_gt0, au_eq0, au_leT, au_leF, au_ltT, au_ltF, au_eqT, au_eqF, nI_clamp, nI_1, nI_add, pk_mul, au_sub1, au_subc, au_up2e, au_up2n, lit_of, nA_1, nA_2, nO_1, nO_2, pR_1, pR_2, sh_pR, sh_nA, sh_nAe, mc_123, s39, v40, gM39_1, gM39_2, Nat.add_assoc]
  have l40 : c < (gM40 G c).1 := by rw [gM40_1]; omega
  have s41 : shp (gM41 G c) c = (0, 7) := (gM41_s hlt).trans hc
  have v41 : putR (newA (gM40 G c) 1 5) c 46 (G.1 + 40) = gM41 G c := rfl
  simp (disch := first | omega | (simp only [nA_1, nO_1, pR_1]; omega)) only [Nat.reduceAdd, aw_aload_0 (pc2 := 346) D123_345 rfl, aw_iconst (pc2 := 347) (y := 5) D123_346 rfl (by decide), aw_newa_int (pc2 := 349) (x := 5) (N := 5) D123_347 rfl (by decide) (by decide), aw_putR (pc2 := 352) (ci := 7) (fk := 46) D123_349 rfl fT_7_137 ⟨rfl, rfl, rfl⟩, refV_s, refV_n, psh_s, psh_n, kil_i, kil_r, kil_n, kil_l, cat_i, cat_r, iOK_1, iOK_5, jOK_2, jOK_6, wOK_e, lOK_1, lOK_2, lOK_3, lOK_4, lOK_5, lOK_6, catS_0, catS_1, catS_2, catS_3, catS_4, and_self, true_and, and_true, true_or, or_true, false_or, or_false, not_true_eq_false, not_false_eq_true, if_true, if_false, ite_int, ite_int0, au_10, eq_self, decide_true, decide_false, Bool.true_and, Bool.false_and, au_in, au_le, au_lt, au_eq, au_lt0, au_ge0, au_le0, au_gt0, au_eq0, au_leT, au_leF, au_ltT, au_ltF, au_eqT, au_eqF, nI_clamp, nI_1, nI_add, pk_mul, au_sub1, au_subc, au_up2e, au_up2n, lit_of, nA_1, nA_2, nO_1, nO_2, pR_1, pR_2, sh_pR, sh_nA, sh_nAe, mc_123, s40, v41, gM40_1, gM40_2, Nat.add_assoc]
  have l41 : c < (gM41 G c).1 := by rw [gM41_1]; omega
  have s42 : shp (gM42 G c) c = (0, 7) := (gM42_s hlt).trans hc
  have v42 : putR (newA (gM41 G c) 1 5) c 47 (G.1 + 41) = gM42 G c := rfl
  simp (disch := first | omega | (simp only [nA_1, nO_1, pR_1]; omega)) only [Nat.reduceAdd, aw_aload_0 (pc2 := 353) D123_352 rfl, aw_iconst (pc2 := 354) (y := 5) D123_353 rfl (by decide), aw_newa_int (pc2 := 356) (x := 5) (N := 5) D123_354 rfl (by decide) (by decide), aw_putR (pc2 := 359) (ci := 7) (fk := 47) D123_356 rfl fT_7_140 ⟨rfl, rfl, rfl⟩, refV_s, refV_n, psh_s, psh_n, kil_i, kil_r, kil_n, kil_l, cat_i, cat_r, iOK_1, iOK_5, jOK_2, jOK_6, wOK_e, lOK_1, lOK_2, lOK_3, lOK_4, lOK_5, lOK_6, catS_0, catS_1, catS_2, catS_3, catS_4, and_self, true_and, and_true, true_or, or_true, false_or, or_false, not_true_eq_false, not_false_eq_true, if_true, if_false, ite_int, ite_int0, au_10, eq_self, decide_true, decide_false, Bool.true_and, Bool.false_and, au_in, au_le, au_lt, au_eq, au_lt0, au_ge0, au_le0, au_gt0, au_eq0, au_leT, au_leF, au_ltT, au_ltF, au_eqT, au_eqF, nI_clamp, nI_1, nI_add, pk_mul, au_sub1, au_subc, au_up2e, au_up2n, lit_of, nA_1, nA_2, nO_1, nO_2, pR_1, pR_2, sh_pR, sh_nA, sh_nAe, mc_123, s41, v42, gM41_1, gM41_2, Nat.add_assoc]
  simp (disch := first | omega | (simp only [nA_1, nO_1, pR_1]; omega)) only [Nat.reduceAdd, aw_aload_0 (pc2 := 360) D123_359 rfl, aw_iconst (pc2 := 361) (y := -1) D123_360 rfl (by decide), aw_putI (pc2 := 364) (ci := 7) (fk := 48) D123_361 rfl fT_7_143 rfl, aw_iconst (pc2 := 365) (y := 0) D123_364 rfl (by decide), aw_istore_1 (pc2 := 366) D123_365 rfl, refV_s, refV_n, psh_s, psh_n, kil_i, kil_r, kil_n, kil_l, cat_i, cat_r, iOK_1, iOK_5, jOK_2, jOK_6, wOK_e, lOK_1, lOK_2, lOK_3, lOK_4, lOK_5, lOK_6, catS_0, catS_1, catS_2, catS_3, catS_4, and_self, true_and, and_true, true_or, or_true, false_or, or_false, not_true_eq_false, not_false_eq_true, if_true, if_false, ite_int, ite_int0, au_10, eq_self, decide_true, decide_false, Bool.true_and, Bool.false_and, au_in, au_le, au_lt, au_eq, au_lt0, au_ge0, au_le0, au_gt0, au_eq0, au_leT, au_leF, au_ltT, au_ltF, au_eqT, au_eqF, nI_clamp, nI_1, nI_add, pk_mul, au_sub1, au_subc, au_up2e, au_up2n, lit_of, s42]
  have hr6 : (gM42 G c).2.2.2 c 6 = some (G.1 + 6) := by
    unfold gM42; rw [rR_n (Or.inr (by decide)), rA_n (by rw [gM41_1]; omega)]
    unfold gM41; rw [rR_n (Or.inr (by decide)), rA_n (by rw [gM40_1]; omega)]
    unfold gM40; rw [rR_n (Or.inr (by decide)), rA_n (by rw [gM39_1]; omega)]
    unfold gM39; rw [rR_n (Or.inr (by decide)), rA_n (by rw [gM38_1]; omega)]
    unfold gM38; rw [rR_n (Or.inr (by decide)), rA_n (by rw [gM37_1]; omega)]
    unfold gM37; rw [rR_n (Or.inr (by decide)), rA_n (by rw [gM36_1]; omega)]
    unfold gM36; rw [rR_n (Or.inr (by decide)), rA_n (by rw [gM35_1]; omega)]
    unfold gM35; rw [rR_n (Or.inr (by decide)), rA_n (by rw [gM34_1]; omega)]
    unfold gM34; rw [rR_n (Or.inr (by decide)), rA_n (by rw [gM33_1]; omega)]
    unfold gM33; rw [rR_n (Or.inr (by decide)), rA_n (by rw [gM32_1]; omega)]
    unfold gM32; rw [rR_n (Or.inr (by decide)), rA_n (by rw [gM31_1]; omega)]
    unfold gM31; rw [rR_n (Or.inr (by decide)), rA_n (by rw [gM30_1]; omega)]
    unfold gM30; rw [rR_n (Or.inr (by decide)), rA_n (by rw [gM29_1]; omega)]
    unfold gM29; rw [rR_n (Or.inr (by decide)), rA_n (by rw [gM28_1]; omega)]
    unfold gM28; rw [rR_n (Or.inr (by decide)), rA_n (by rw [gM27_1]; omega)]
    unfold gM27; rw [rR_n (Or.inr (by decide)), rA_n (by rw [gM26_1]; omega)]
    unfold gM26; rw [rR_n (Or.inr (by decide)), rA_n (by rw [gM25_1]; omega)]
    unfold gM25; rw [rR_n (Or.inr (by decide)), rA_n (by rw [gM24_1]; omega)]
    unfold gM24; rw [rR_n (Or.inr (by decide)), rA_n (by rw [gM23_1]; omega)]
    unfold gM23; rw [rR_n (Or.inr (by decide)), rA_n (by rw [gM22_1]; omega)]
    unfold gM22; rw [rR_n (Or.inr (by decide)), rA_n (by rw [gM21_1]; omega)]
    unfold gM21; rw [rR_n (Or.inr (by decide)), rA_n (by rw [gM20_1]; omega)]
    unfold gM20; rw [rR_n (Or.inr (by decide)), rA_n (by rw [gM19_1]; omega)]
    unfold gM19; rw [rR_n (Or.inr (by decide)), rA_n (by rw [gM18_1]; omega)]
    unfold gM18; rw [rR_n (Or.inr (by decide)), rA_n (by rw [gM17_1]; omega)]
    unfold gM17; rw [rR_n (Or.inr (by decide)), rA_n (by rw [gM16_1]; omega)]
    unfold gM16; rw [rR_n (Or.inr (by decide)), rA_n (by rw [gM15_1]; omega)]
    unfold gM15; rw [rR_n (Or.inr (by decide)), rA_n (by rw [gM14_1]; omega)]
    unfold gM14; rw [rR_n (Or.inr (by decide)), rA_n (by rw [gM13_1]; omega)]
    unfold gM13; rw [rR_n (Or.inr (by decide)), rA_n (by rw [gM12_1]; omega)]
    unfold gM12; rw [rR_n (Or.inr (by decide)), rA_n (by rw [gM11_1]; omega)]
    unfold gM11; rw [rR_n (Or.inr (by decide)), rA_n (by rw [gM10_1]; omega)]
    unfold gM10; rw [rR_n (Or.inr (by decide)), rA_n (by rw [gM9_1]; omega)]
    unfold gM9; rw [rR_n (Or.inr (by decide)), rA_n (by rw [gM8_1]; omega)]
    unfold gM8; rw [rR_n (Or.inr (by decide)), rA_n (by rw [gM7_1]; omega)]
    unfold gM7; exact rR_e
  have hs6 : shp (gM42 G c) (G.1 + 6) = (1, 48) := by
    unfold gM42; rw [sh_pR, sh_nA (by rw [gM41_1]; omega)]
    unfold gM41; rw [sh_pR, sh_nA (by rw [gM40_1]; omega)]
    unfold gM40; rw [sh_pR, sh_nA (by rw [gM39_1]; omega)]
    unfold gM39; rw [sh_pR, sh_nA (by rw [gM38_1]; omega)]
    unfold gM38; rw [sh_pR, sh_nA (by rw [gM37_1]; omega)]
    unfold gM37; rw [sh_pR, sh_nA (by rw [gM36_1]; omega)]
    unfold gM36; rw [sh_pR, sh_nA (by rw [gM35_1]; omega)]
    unfold gM35; rw [sh_pR, sh_nA (by rw [gM34_1]; omega)]
    unfold gM34; rw [sh_pR, sh_nA (by rw [gM33_1]; omega)]
    unfold gM33; rw [sh_pR, sh_nA (by rw [gM32_1]; omega)]
    unfold gM32; rw [sh_pR, sh_nA (by rw [gM31_1]; omega)]
    unfold gM31; rw [sh_pR, sh_nA (by rw [gM30_1]; omega)]
    unfold gM30; rw [sh_pR, sh_nA (by rw [gM29_1]; omega)]
    unfold gM29; rw [sh_pR, sh_nA (by rw [gM28_1]; omega)]
    unfold gM28; rw [sh_pR, sh_nA (by rw [gM27_1]; omega)]
    unfold gM27; rw [sh_pR, sh_nA (by rw [gM26_1]; omega)]
    unfold gM26; rw [sh_pR, sh_nA (by rw [gM25_1]; omega)]
    unfold gM25; rw [sh_pR, sh_nA (by rw [gM24_1]; omega)]
    unfold gM24; rw [sh_pR, sh_nA (by rw [gM23_1]; omega)]
    unfold gM23; rw [sh_pR, sh_nA (by rw [gM22_1]; omega)]
    unfold gM22; rw [sh_pR, sh_nA (by rw [gM21_1]; omega)]
    unfold gM21; rw [sh_pR, sh_nA (by rw [gM20_1]; omega)]
    unfold gM20; rw [sh_pR, sh_nA (by rw [gM19_1]; omega)]
    unfold gM19; rw [sh_pR, sh_nA (by rw [gM18_1]; omega)]
    unfold gM18; rw [sh_pR, sh_nA (by rw [gM17_1]; omega)]
    unfold gM17; rw [sh_pR, sh_nA (by rw [gM16_1]; omega)]
    unfold gM16; rw [sh_pR, sh_nA (by rw [gM15_1]; omega)]
    unfold gM15; rw [sh_pR, sh_nA (by rw [gM14_1]; omega)]
    unfold gM14; rw [sh_pR, sh_nA (by rw [gM13_1]; omega)]
    unfold gM13; rw [sh_pR, sh_nA (by rw [gM12_1]; omega)]
    unfold gM12; rw [sh_pR, sh_nA (by rw [gM11_1]; omega)]
    unfold gM11; rw [sh_pR, sh_nA (by rw [gM10_1]; omega)]
    unfold gM10; rw [sh_pR, sh_nA (by rw [gM9_1]; omega)]
    unfold gM9; rw [sh_pR, sh_nA (by rw [gM8_1]; omega)]
    unfold gM8; rw [sh_pR, sh_nA (by rw [gM7_1]; omega)]
    unfold gM7; rw [sh_pR]; exact sh_nAe rfl
  have key : ∀ n i I', i + n = 48 → frI G.1 c I I' → (∀ k, k < 2 → I' G.1 k = 8) → (∀ p, p < i → I' (G.1 + 6) p = 1) → (∀ j k, (j = 2 ∨ j = 3 ∨ j = 4 ∨ j = 5 ∨ j = 7 ∨ j = 8) → I' (G.1 + j) k = 0) → I' c 44 = -1 → I' c 48 = -1 → AW d (G.1 + 42, G.2.1 + 290208) K 123 366 [.ref c, .int (nI i)] [] (gM42 G c) I' J := by
    intro n
    induction n with
    | zero =>
      intro i I' hi f h8 hw hz h44 h48
      have e : i = 48 := by omega
      subst e
      simp (disch := omega) only [aw_iload_1 (pc2 := 367) D123_366 rfl, aw_bipush (pc2 := 369) (y := 48) D123_367 rfl (by decide), aw_icmp_ge (pc2 := 372) (t := 385) D123_369 (by decide) rfl, aw_vret D123_385 rfl, refV_s, refV_n, psh_s, psh_n, kil_i, kil_r, kil_n, kil_l, cat_i, cat_r, iOK_1, iOK_5, jOK_2, jOK_6, wOK_e, lOK_1, lOK_2, lOK_3, lOK_4, lOK_5, lOK_6, catS_0, catS_1, catS_2, catS_3, catS_4, and_self, true_and, and_true, true_or, or_true, false_or, or_false, not_true_eq_false, not_false_eq_true, if_true, if_false, ite_int, ite_int0, au_10, eq_self, decide_true, decide_false, Bool.true_and, Bool.false_and, au_in, au_le, au_lt, au_eq, au_lt0, au_ge0, au_le0, au_gt0, au_eq0, au_leT, au_leF, au_ltT, au_ltF, au_eqT, au_eqF, nI_clamp, nI_1, nI_add, pk_mul, au_sub1, au_subc, au_up2e, au_up2n, lit_of, show (48 : Int32) = nI 48 from rfl, gM42_1, gM42_2]
      exact hk I' f h8 hw hz h44 h48
    | succ n ih =>
      intro i I' hi f h8 hw hz h44 h48
      have ihn := ih (i + 1)
      rw [aw_iload_1 (pc2 := 367) D123_366 rfl]
      simp (disch := omega) only [aw_bipush (pc2 := 369) (y := 48) D123_367 rfl (by decide), aw_icmp_ge (pc2 := 372) (t := 385) D123_369 (by decide) rfl, aw_aload_0 (pc2 := 373) D123_372 rfl, aw_getR (pc2 := 376) (ci := 7) (fk := 6) D123_373 rfl fT_7_28 rfl, aw_iload_1 (pc2 := 377) D123_376 rfl, aw_iconst (pc2 := 378) (y := 1) D123_377 rfl (by decide), aw_iastore (pc2 := 379) D123_378 rfl, aw_iinc_1 (pc2 := 382) (y := 1) D123_379 rfl (by decide), aw_goto (t := 366) D123_382 (by decide), refV_s, refV_n, psh_s, psh_n, kil_i, kil_r, kil_n, kil_l, cat_i, cat_r, iOK_1, iOK_5, jOK_2, jOK_6, wOK_e, lOK_1, lOK_2, lOK_3, lOK_4, lOK_5, lOK_6, catS_0, catS_1, catS_2, catS_3, catS_4, and_self, true_and, and_true, true_or, or_true, false_or, or_false, not_true_eq_false, not_false_eq_true, if_true, if_false, ite_int, ite_int0, au_10, eq_self, decide_true, decide_false, Bool.true_and, Bool.false_and, au_in, au_le, au_lt, au_eq, au_lt0, au_ge0, au_le0, au_gt0, au_eq0, au_leT, au_leF, au_ltT, au_ltF, au_eqT, au_eqF, nI_clamp, nI_1, nI_add, pk_mul, au_sub1, au_subc, au_up2e, au_up2n, lit_of, show (48 : Int32) = nI 48 from rfl, s42, hr6, hs6]
      refine ihn _ (by omega) (fun a a1 a2 => ?_) (fun k hk2 => ?_) (fun p hp => ?_) (fun j k hj => ?_) ?_ ?_
      · rw [up2_off (by unfold scrC at a1; omega)]; exact f a a1 a2
      · rw [up2_off (by omega)]; exact h8 k hk2
      · by_cases e : p = i
        · simp (disch := omega) only [e, au_up2e]
        · simp (disch := omega) only [au_up2n]; exact hw p (by omega)
      · rw [up2_off (by omega)]; exact hz j k hj
      · rw [up2_off (by omega)]; exact h44
      · rw [up2_off (by omega)]; exact h48
  refine key 48 0 _ rfl (fun a a1 a2 => ?_) (fun k hk2 => ?_) (fun p hp => absurd hp (Nat.not_lt_zero _)) (fun j k hj => ?_) ?_ ?_
  · unfold scrC at a1
    simp (disch := omega) only [up2_off, up1_off]
  · simp (disch := omega) only [up2_off, up1_off]
    rcases (show k = 0 ∨ k = 1 by omega) with rfl | rfl
    · simp (disch := omega) only [show Int32.toNatClampNeg 1 = 1 from rfl, au_up2n, au_up2e]
    · simp (disch := omega) only [show Int32.toNatClampNeg 1 = 1 from rfl, au_up2n, au_up2e]
  · rcases hj with rfl | rfl | rfl | rfl | rfl | rfl <;> simp (disch := omega) only [up2_off, up1_off, up1_at]
  · simp (disch := omega) only [au_up2n, au_up2e, up1_off]
  · simp (disch := omega) only [au_up2n, au_up2e, up1_off]
end MkMod
