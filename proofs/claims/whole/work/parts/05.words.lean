/-! Words of four bytes; the operations on them byte by byte. -/
theorem wz_step (f : Nat → Nat → Nat) (hd : ∀ a b, f a b / 256 = f (a / 256) (b / 256)) (hm : ∀ a b, f a b % 256 = f (a % 256) (b % 256)) {x y x' y' : Nat} (h : y < 256) (h' : y' < 256) : f (x * 256 + y) (x' * 256 + y') = f x x' * 256 + f y y' := by
  have e1 := hd (x * 256 + y) (x' * 256 + y')
  have e2 := hm (x * 256 + y) (x' * 256 + y')
  rw [show (x * 256 + y) / 256 = x by omega, show (x' * 256 + y') / 256 = x' by omega] at e1
  rw [show (x * 256 + y) % 256 = y by omega, show (x' * 256 + y') % 256 = y' by omega] at e2
  omega
theorem wz_xd (a b : Nat) : (a ^^^ b) / 256 = a / 256 ^^^ b / 256 := Nat.xor_div_two_pow (n := 8)
theorem wz_xm (a b : Nat) : (a ^^^ b) % 256 = a % 256 ^^^ b % 256 := Nat.xor_mod_two_pow (n := 8)
theorem wz_od (a b : Nat) : (a ||| b) / 256 = a / 256 ||| b / 256 := Nat.or_div_two_pow (n := 8)
theorem wz_om (a b : Nat) : (a ||| b) % 256 = a % 256 ||| b % 256 := Nat.or_mod_two_pow (n := 8)
theorem wz_ad (a b : Nat) : (a &&& b) / 256 = a / 256 &&& b / 256 := Nat.and_div_two_pow (n := 8)
theorem wz_am (a b : Nat) : (a &&& b) % 256 = (a % 256) &&& (b % 256) := Nat.and_mod_two_pow (n := 8)
theorem wz_x8 {a b : Nat} (ha : a < 256) (hb : b < 256) : a ^^^ b < 256 := Nat.xor_lt_two_pow (n := 8) ha hb
theorem wz_o8 {a b : Nat} (ha : a < 256) (hb : b < 256) : a ||| b < 256 := Nat.or_lt_two_pow (n := 8) ha hb
theorem wz_a8 (a : Nat) {b : Nat} (hb : b < 256) : a &&& b < 256 := Nat.and_lt_two_pow (n := 8) a hb
theorem wz_x32 {a b : Nat} (ha : a < 4294967296) (hb : b < 4294967296) : a ^^^ b < 4294967296 := Nat.xor_lt_two_pow (n := 32) ha hb
theorem wz_o32 {a b : Nat} (ha : a < 4294967296) (hb : b < 4294967296) : a ||| b < 4294967296 := Nat.or_lt_two_pow (n := 32) ha hb
theorem wz_255 (a : Nat) : a &&& 255 = a % 256 := Nat.and_two_pow_sub_one_eq_mod a 8
def pk (a b c d : Nat) : Nat := ((a * 256 + b) * 256 + c) * 256 + d
theorem pkw_lt {a b c d : Nat} (ha : a < 256) (hb : b < 256) (hc : c < 256) (hd : d < 256) : pk a b c d < 4294967296 := by unfold pk; omega
theorem pkw_0 {a b c d : Nat} (hb : b < 256) (hc : c < 256) (hd : d < 256) : pk a b c d / 16777216 = a := by unfold pk; omega
theorem pkw_1 {a b c d : Nat} (hb : b < 256) (hc : c < 256) (hd : d < 256) : pk a b c d / 65536 % 256 = b := by unfold pk; omega
theorem pkw_2 {a b c d : Nat} (hc : c < 256) (hd : d < 256) : pk a b c d / 256 % 256 = c := by unfold pk; omega
theorem pkw_3 {a b c d : Nat} (hd : d < 256) : pk a b c d % 256 = d := by unfold pk; omega
theorem pkw_bin (f : Nat → Nat → Nat) (hd : ∀ a b, f a b / 256 = f (a / 256) (b / 256)) (hm : ∀ a b, f a b % 256 = f (a % 256) (b % 256)) {a b c d a' b' c' d' : Nat} (h1 : b < 256) (h2 : c < 256) (h3 : d < 256) (h1' : b' < 256) (h2' : c' < 256) (h3' : d' < 256) : f (pk a b c d) (pk a' b' c' d') = pk (f a a') (f b b') (f c c') (f d d') := by
  unfold pk
  rw [wz_step f hd hm h3 h3', wz_step f hd hm h2 h2', wz_step f hd hm h1 h1']
theorem pkw_xor {a b c d a' b' c' d' : Nat} (h1 : b < 256) (h2 : c < 256) (h3 : d < 256) (h1' : b' < 256) (h2' : c' < 256) (h3' : d' < 256) : pk a b c d ^^^ pk a' b' c' d' = pk (a ^^^ a') (b ^^^ b') (c ^^^ c') (d ^^^ d') := pkw_bin (fun x y => x ^^^ y) wz_xd wz_xm h1 h2 h3 h1' h2' h3'
theorem pkw_or {a b c d a' b' c' d' : Nat} (h1 : b < 256) (h2 : c < 256) (h3 : d < 256) (h1' : b' < 256) (h2' : c' < 256) (h3' : d' < 256) : pk a b c d ||| pk a' b' c' d' = pk (a ||| a') (b ||| b') (c ||| c') (d ||| d') := pkw_bin (fun x y => x ||| y) wz_od wz_om h1 h2 h3 h1' h2' h3'
theorem pkw_anw {a b c d a' b' c' d' : Nat} (h1 : b < 256) (h2 : c < 256) (h3 : d < 256) (h1' : b' < 256) (h2' : c' < 256) (h3' : d' < 256) : pk a b c d &&& pk a' b' c' d' = pk (a &&& a') (b &&& b') (c &&& c') (d &&& d') := pkw_bin (fun x y => x &&& y) wz_ad wz_am h1 h2 h3 h1' h2' h3'
theorem pkw_e0 (a : Nat) : a * 16777216 = pk a 0 0 0 := by show _ = ((a * 256 + 0) * 256 + 0) * 256 + 0; omega
theorem pkw_e1 (b : Nat) : b * 65536 = pk 0 b 0 0 := by show _ = ((0 * 256 + b) * 256 + 0) * 256 + 0; omega
theorem pkw_e2 (c : Nat) : c * 256 = pk 0 0 c 0 := by show _ = ((0 * 256 + 0) * 256 + c) * 256 + 0; omega
theorem pkw_e3 (d : Nat) : d = pk 0 0 0 d := by show _ = ((0 * 256 + 0) * 256 + 0) * 256 + d; omega
/-- four bytes put together by '|' -/
theorem pkw_lay {a b c d : Nat} (ha : a < 256) (hb : b < 256) (hc : c < 256) (hd : d < 256) : a * 16777216 ||| b * 65536 ||| c * 256 ||| d = pk a b c d := by
  have e1 := pkw_e0 a
  have e2 := pkw_e1 b
  have e3 := pkw_e2 c
  have e4 := pkw_e3 d
  have z : (0 : Nat) < 256 := by decide
  rw [e1, e2, e3, pkw_or z z z hb z z]
  conv => lhs; rhs; rw [e4]
  simp only [Nat.or_zero, Nat.zero_or]
  rw [pkw_or hb z z z hc z]
  simp only [Nat.or_zero, Nat.zero_or]
  rw [pkw_or hb hc z z z hd]
  simp only [Nat.or_zero, Nat.zero_or]
/-- every word is four bytes -/
theorem pkw_of {w : Nat} (h : w < 4294967296) : ∃ a b c d, a < 256 ∧ b < 256 ∧ c < 256 ∧ d < 256 ∧ w = pk a b c d := ⟨w / 16777216, w / 65536 % 256, w / 256 % 256, w % 256, by omega, by omega, by omega, by omega, by unfold pk; omega⟩
theorem pkw_inj {a b c d a' b' c' d' : Nat} (hb : b < 256) (hc : c < 256) (hd : d < 256) (hb' : b' < 256) (hc' : c' < 256) (hd' : d' < 256) (h : pk a b c d = pk a' b' c' d') : a = a' ∧ b = b' ∧ c = c' ∧ d = d' := by unfold pk at h; omega
/-- rotating -/
def rotW (w k : Nat) : Nat := w * 2 ^ k ||| w / 2 ^ (32 - k)
theorem rot8 {a b c d : Nat} (ha : a < 256) (hb : b < 256) (hc : c < 256) (hd : d < 256) : nI (rotW (pk a b c d) 8) = nI (pk b c d a) := by
  rw [← gz_mod (rotW _ _)]
  congr 1
  unfold rotW
  have e0 : pk a b c d / 2 ^ (32 - 8) = pk 0 0 0 a := by unfold pk; show _ / 16777216 = _; omega
  have e1 : pk a b c d * 2 ^ 8 = a * 4294967296 + pk b c d 0 := by unfold pk; show _ * 256 = _; omega
  have e2 : ∀ x y : Nat, (x ||| y) % 4294967296 = x % 4294967296 ||| y % 4294967296 := fun x y => Nat.or_mod_two_pow (n := 32)
  have z : (0 : Nat) < 256 := by decide
  rw [e0, e1, e2, show (a * 4294967296 + pk b c d 0) % 4294967296 = pk b c d 0 by have := pkw_lt hb hc hd z; omega, show pk 0 0 0 a % 4294967296 = pk 0 0 0 a by unfold pk; omega, pkw_or hc hd z z z ha]
  simp only [Nat.or_zero, Nat.zero_or]
theorem rot16 {a b c d : Nat} (ha : a < 256) (hb : b < 256) (hc : c < 256) (hd : d < 256) : nI (rotW (pk a b c d) 16) = nI (pk c d a b) := by
  rw [← gz_mod (rotW _ _)]
  congr 1
  unfold rotW
  have e0 : pk a b c d / 2 ^ (32 - 16) = pk 0 0 a b := by unfold pk; show _ / 65536 = _; omega
  have e1 : pk a b c d * 2 ^ 16 = (a * 256 + b) * 4294967296 + pk c d 0 0 := by unfold pk; show _ * 65536 = _; omega
  have e2 : ∀ x y : Nat, (x ||| y) % 4294967296 = x % 4294967296 ||| y % 4294967296 := fun x y => Nat.or_mod_two_pow (n := 32)
  have z : (0 : Nat) < 256 := by decide
  rw [e0, e1, e2, show ((a * 256 + b) * 4294967296 + pk c d 0 0) % 4294967296 = pk c d 0 0 by have := pkw_lt hc hd z z; omega, show pk 0 0 a b % 4294967296 = pk 0 0 a b by unfold pk; omega, pkw_or hd z z z ha hb]
  simp only [Nat.or_zero, Nat.zero_or]
theorem rot24 {a b c d : Nat} (ha : a < 256) (hb : b < 256) (hc : c < 256) (hd : d < 256) : nI (rotW (pk a b c d) 24) = nI (pk d a b c) := by
  rw [← gz_mod (rotW _ _)]
  congr 1
  unfold rotW
  have e0 : pk a b c d / 2 ^ (32 - 24) = pk 0 a b c := by unfold pk; show _ / 256 = _; omega
  have e1 : pk a b c d * 2 ^ 24 = ((a * 256 + b) * 256 + c) * 4294967296 + pk d 0 0 0 := by unfold pk; show _ * 16777216 = _; omega
  have e2 : ∀ x y : Nat, (x ||| y) % 4294967296 = x % 4294967296 ||| y % 4294967296 := fun x y => Nat.or_mod_two_pow (n := 32)
  have z : (0 : Nat) < 256 := by decide
  rw [e0, e1, e2, show (((a * 256 + b) * 256 + c) * 4294967296 + pk d 0 0 0) % 4294967296 = pk d 0 0 0 by have := pkw_lt hd z z z; omega, show pk 0 a b c % 4294967296 = pk 0 a b c by unfold pk; omega, pkw_or z z z ha hb hc]
  simp only [Nat.or_zero, Nat.zero_or]
/-- twice a byte, modulo [11b] -/
def x2 (a : Nat) : Nat := ((a &&& 127) * 2) ^^^ (a / 128 * 27)
theorem x2_lt : ∀ a, a < 256 → x2 a < 256 := by decide +kernel
theorem x2_w : ∀ a, a < 256 → (a &&& 127) * 2 < 256 ∧ a / 128 * 27 < 256 ∧ a / 128 < 2 := by decide +kernel
theorem and1_2 (x y : Nat) (hy : y < 2) : (x * 2 + y) &&& 1 = y := by rw [Nat.and_one_is_mod]; omega
def dblW (w : Nat) : Nat := (w &&& 2139062143) * 2 ^^^ ((w / 128 &&& 16843009) * 27)
theorem dbl_pk {a b c d : Nat} (ha : a < 256) (hb : b < 256) (hc : c < 256) (hd : d < 256) : dblW (pk a b c d) = pk (x2 a) (x2 b) (x2 c) (x2 d) := by
  have k127 : (127 : Nat) < 256 := by decide
  have e1 : (2139062143 : Nat) = pk 127 127 127 127 := by decide
  have e2 : (16843009 : Nat) = pk 1 1 1 1 := by decide
  have h1 : (1 : Nat) < 256 := by decide
  obtain ⟨a1, a2, a3⟩ := x2_w a ha
  obtain ⟨b1, b2, b3⟩ := x2_w b hb
  obtain ⟨c1, c2, c3⟩ := x2_w c hc
  obtain ⟨d1, d2, d3⟩ := x2_w d hd
  have e3 : pk a b c d / 128 = pk (a / 128) ((a % 128) * 2 + b / 128) ((b % 128) * 2 + c / 128) ((c % 128) * 2 + d / 128) := by unfold pk; omega
  unfold dblW
  rw [e3, e2, pkw_anw (by omega) (by omega) (by omega) h1 h1 h1, and1_2 _ _ b3, and1_2 _ _ c3, and1_2 _ _ d3, e1, pkw_anw hb hc hd k127 k127 k127]
  have e4 : a / 128 &&& 1 = a / 128 := by rw [Nat.and_one_is_mod]; omega
  rw [e4]
  have e5 : pk (a &&& 127) (b &&& 127) (c &&& 127) (d &&& 127) * 2 = pk ((a &&& 127) * 2) ((b &&& 127) * 2) ((c &&& 127) * 2) ((d &&& 127) * 2) := by unfold pk; omega
  have e6 : pk (a / 128) (b / 128) (c / 128) (d / 128) * 27 = pk (a / 128 * 27) (b / 128 * 27) (c / 128 * 27) (d / 128 * 27) := by unfold pk; omega
  rw [e5, e6, pkw_xor b1 c1 d1 b2 c2 d2]
  rfl
/-- a byte mixed with the three others of its four -/
def mxB (a b c d : Nat) : Nat := x2 a ^^^ (x2 b ^^^ b) ^^^ c ^^^ d
theorem mxB_lt {a b c d : Nat} (ha : a < 256) (hb : b < 256) (hc : c < 256) (hd : d < 256) : mxB a b c d < 256 := wz_x8 (wz_x8 (wz_x8 (x2_lt a ha) (wz_x8 (x2_lt b hb) hb)) hc) hd
/-- the class's way to mix a word -/
theorem mix_pk {a b c d : Nat} (ha : a < 256) (hb : b < 256) (hc : c < 256) (hd : d < 256) : pk (x2 a) (x2 b) (x2 c) (x2 d) ^^^ pk (x2 b ^^^ b) (x2 c ^^^ c) (x2 d ^^^ d) (x2 a ^^^ a) ^^^ pk c d a b ^^^ pk d a b c = pk (mxB a b c d) (mxB b c d a) (mxB c d a b) (mxB d a b c) := by
  have a2 := x2_lt a ha
  have b2 := x2_lt b hb
  have c2 := x2_lt c hc
  have d2 := x2_lt d hd
  rw [pkw_xor b2 c2 d2 (wz_x8 c2 hc) (wz_x8 d2 hd) (wz_x8 a2 ha), pkw_xor (wz_x8 b2 (wz_x8 c2 hc)) (wz_x8 c2 (wz_x8 d2 hd)) (wz_x8 d2 (wz_x8 a2 ha)) hd ha hb, pkw_xor (wz_x8 (wz_x8 b2 (wz_x8 c2 hc)) hd) (wz_x8 (wz_x8 c2 (wz_x8 d2 hd)) ha) (wz_x8 (wz_x8 d2 (wz_x8 a2 ha)) hb) ha hb hc]
  rfl
/-- the bytes of a word turned round -/
theorem trn_pk {a b c d : Nat} (ha : a < 256) (hb : b < 256) (hc : c < 256) (hd : d < 256) : (pk b c d a &&& 16711935) ||| (pk d a b c &&& 4278255360) = pk d c b a := by
  have z : (0 : Nat) < 256 := by decide
  have f : (255 : Nat) < 256 := by decide
  have e1 : (16711935 : Nat) = pk 0 255 0 255 := by decide
  have e2 : (4278255360 : Nat) = pk 255 0 255 0 := by decide
  rw [e1, e2, pkw_anw hc hd ha f z f, pkw_anw ha hb hc z f z]
  simp only [Nat.and_zero, wz_255]
  rw [pkw_or (by omega) z (by omega) z (by omega) z]
  simp only [Nat.or_zero, Nat.zero_or]
  rw [Nat.mod_eq_of_lt ha, Nat.mod_eq_of_lt hb, Nat.mod_eq_of_lt hc, Nat.mod_eq_of_lt hd]
/-- a word under a mask of one byte; four such together -/
theorem pkw_m0 {a b c d : Nat} (ha : a < 256) (hb : b < 256) (hc : c < 256) (hd : d < 256) : pk a b c d &&& 4278190080 = pk a 0 0 0 := by
  have z : (0 : Nat) < 256 := by decide
  rw [show (4278190080 : Nat) = pk 255 0 0 0 from by decide, pkw_anw hb hc hd z z z, wz_255, Nat.mod_eq_of_lt ha]
  simp only [Nat.and_zero]
theorem pkw_m1 {a b c d : Nat} (hb : b < 256) (hc : c < 256) (hd : d < 256) : pk a b c d &&& 16711680 = pk 0 b 0 0 := by
  have z : (0 : Nat) < 256 := by decide
  rw [show (16711680 : Nat) = pk 0 255 0 0 from by decide, pkw_anw hb hc hd (by decide) z z, wz_255, Nat.mod_eq_of_lt hb]
  simp only [Nat.and_zero]
theorem pkw_m2 {a b c d : Nat} (hb : b < 256) (hc : c < 256) (hd : d < 256) : pk a b c d &&& 65280 = pk 0 0 c 0 := by
  have z : (0 : Nat) < 256 := by decide
  rw [show (65280 : Nat) = pk 0 0 255 0 from by decide, pkw_anw hb hc hd z (by decide) z, wz_255, Nat.mod_eq_of_lt hc]
  simp only [Nat.and_zero]
theorem pkw_m3 {a b c d : Nat} (hb : b < 256) (hc : c < 256) (hd : d < 256) : pk a b c d &&& 255 = pk 0 0 0 d := by
  have z : (0 : Nat) < 256 := by decide
  rw [show (255 : Nat) = pk 0 0 0 255 from by decide, pkw_anw hb hc hd z z (by decide), wz_255, Nat.mod_eq_of_lt hd]
  simp only [Nat.and_zero]
theorem pkw_lay2 {a b c d : Nat} (hb : b < 256) (hc : c < 256) (hd : d < 256) : pk a 0 0 0 ||| pk 0 b 0 0 ||| pk 0 0 c 0 ||| pk 0 0 0 d = pk a b c d := by
  have z : (0 : Nat) < 256 := by decide
  rw [pkw_or z z z hb z z]
  simp only [Nat.or_zero, Nat.zero_or]
  rw [pkw_or hb z z z hc z]
  simp only [Nat.or_zero, Nat.zero_or]
  rw [pkw_or hb hc z z z hd]
  simp only [Nat.or_zero, Nat.zero_or]
