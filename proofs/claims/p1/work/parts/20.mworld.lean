
def stf : Nat → Int32 := upd (upd (upd (upd (upd (fun _ => 0) (0 : Int32).toNatClampNeg 0) (1 : Int32).toNatClampNeg 1) (2 : Int32).toNatClampNeg 4) (3 : Int32).toNatClampNeg 0) (4 : Int32).toNatClampNeg 2
def modW (b r1 r2 : Nat → Nat) (g : Nat → ClassId) (th : Int32) : va_W := [((b 0), .inr (15, [.int th, .ref (b 1), .ref (b 2), .int 0, .ref (b 3), .ref (b 4), .ref (b 5), .null, .ref (b 6), .int 0, .int 0, .int 0, .int 0, .int 0])),
  ((b 1), .inl (g 0, 200, .inl (fun _ => 0))),
  ((b 2), .inl (g 0, 200, .inl (fun _ => 0))),
  ((b 3), .inl (g 4, 8, .inr (.inr (.inr (.inr (fun i => if i < 8 then some (r1 i) else none)))))),
  ((b 4), .inl (g 4, 8, .inr (.inr (.inr (.inr (fun i => if i < 8 then some (r2 i) else none)))))),
  ((b 5), .inl (g 0, 5, .inl stf)),
  ((b 6), .inl (g 0, 160, .inl (fun _ => 0))),
  ((r1 0), .inl (g 0, 0, .inl (fun _ => 0))),
  ((r1 1), .inl (g 0, 0, .inl (fun _ => 0))),
  ((r1 2), .inl (g 0, 0, .inl (fun _ => 0))),
  ((r1 3), .inl (g 0, 0, .inl (fun _ => 0))),
  ((r1 4), .inl (g 0, 0, .inl (fun _ => 0))),
  ((r1 5), .inl (g 0, 0, .inl (fun _ => 0))),
  ((r1 6), .inl (g 0, 0, .inl (fun _ => 0))),
  ((r1 7), .inl (g 0, 0, .inl (fun _ => 0))),
  ((r2 0), .inl (g 0, 0, .inl (fun _ => 0))),
  ((r2 1), .inl (g 0, 0, .inl (fun _ => 0))),
  ((r2 2), .inl (g 0, 0, .inl (fun _ => 0))),
  ((r2 3), .inl (g 0, 0, .inl (fun _ => 0))),
  ((r2 4), .inl (g 0, 0, .inl (fun _ => 0))),
  ((r2 5), .inl (g 0, 0, .inl (fun _ => 0))),
  ((r2 6), .inl (g 0, 0, .inl (fun _ => 0))),
  ((r2 7), .inl (g 0, 0, .inl (fun _ => 0)))]
theorem m_0 (b r1 r2 : Nat → Nat) (g : Nat → ClassId) (th : Int32) : (modW b r1 r2 g th)[0]? = some ((b 0), .inr (15, [.int th, .ref (b 1), .ref (b 2), .int 0, .ref (b 3), .ref (b 4), .ref (b 5), .null, .ref (b 6), .int 0, .int 0, .int 0, .int 0, .int 0])) := rfl
theorem m_1 (b r1 r2 : Nat → Nat) (g : Nat → ClassId) (th : Int32) : (modW b r1 r2 g th)[1]? = some ((b 1), .inl (g 0, 200, .inl (fun _ => 0))) := rfl
theorem m_2 (b r1 r2 : Nat → Nat) (g : Nat → ClassId) (th : Int32) : (modW b r1 r2 g th)[2]? = some ((b 2), .inl (g 0, 200, .inl (fun _ => 0))) := rfl
theorem m_3 (b r1 r2 : Nat → Nat) (g : Nat → ClassId) (th : Int32) : (modW b r1 r2 g th)[3]? = some ((b 3), .inl (g 4, 8, .inr (.inr (.inr (.inr (fun i => if i < 8 then some (r1 i) else none)))))) := rfl
theorem m_4 (b r1 r2 : Nat → Nat) (g : Nat → ClassId) (th : Int32) : (modW b r1 r2 g th)[4]? = some ((b 4), .inl (g 4, 8, .inr (.inr (.inr (.inr (fun i => if i < 8 then some (r2 i) else none)))))) := rfl
theorem m_5 (b r1 r2 : Nat → Nat) (g : Nat → ClassId) (th : Int32) : (modW b r1 r2 g th)[5]? = some ((b 5), .inl (g 0, 5, .inl stf)) := rfl
theorem m_6 (b r1 r2 : Nat → Nat) (g : Nat → ClassId) (th : Int32) : (modW b r1 r2 g th)[6]? = some ((b 6), .inl (g 0, 160, .inl (fun _ => 0))) := rfl
theorem m_7 (b r1 r2 : Nat → Nat) (g : Nat → ClassId) (th : Int32) : (modW b r1 r2 g th)[7]? = some ((r1 0), .inl (g 0, 0, .inl (fun _ => 0))) := rfl
theorem m_8 (b r1 r2 : Nat → Nat) (g : Nat → ClassId) (th : Int32) : (modW b r1 r2 g th)[8]? = some ((r1 1), .inl (g 0, 0, .inl (fun _ => 0))) := rfl
theorem m_9 (b r1 r2 : Nat → Nat) (g : Nat → ClassId) (th : Int32) : (modW b r1 r2 g th)[9]? = some ((r1 2), .inl (g 0, 0, .inl (fun _ => 0))) := rfl
theorem m_10 (b r1 r2 : Nat → Nat) (g : Nat → ClassId) (th : Int32) : (modW b r1 r2 g th)[10]? = some ((r1 3), .inl (g 0, 0, .inl (fun _ => 0))) := rfl
theorem m_11 (b r1 r2 : Nat → Nat) (g : Nat → ClassId) (th : Int32) : (modW b r1 r2 g th)[11]? = some ((r1 4), .inl (g 0, 0, .inl (fun _ => 0))) := rfl
theorem m_12 (b r1 r2 : Nat → Nat) (g : Nat → ClassId) (th : Int32) : (modW b r1 r2 g th)[12]? = some ((r1 5), .inl (g 0, 0, .inl (fun _ => 0))) := rfl
theorem m_13 (b r1 r2 : Nat → Nat) (g : Nat → ClassId) (th : Int32) : (modW b r1 r2 g th)[13]? = some ((r1 6), .inl (g 0, 0, .inl (fun _ => 0))) := rfl
theorem m_14 (b r1 r2 : Nat → Nat) (g : Nat → ClassId) (th : Int32) : (modW b r1 r2 g th)[14]? = some ((r1 7), .inl (g 0, 0, .inl (fun _ => 0))) := rfl
theorem m_15 (b r1 r2 : Nat → Nat) (g : Nat → ClassId) (th : Int32) : (modW b r1 r2 g th)[15]? = some ((r2 0), .inl (g 0, 0, .inl (fun _ => 0))) := rfl
theorem m_16 (b r1 r2 : Nat → Nat) (g : Nat → ClassId) (th : Int32) : (modW b r1 r2 g th)[16]? = some ((r2 1), .inl (g 0, 0, .inl (fun _ => 0))) := rfl
theorem m_17 (b r1 r2 : Nat → Nat) (g : Nat → ClassId) (th : Int32) : (modW b r1 r2 g th)[17]? = some ((r2 2), .inl (g 0, 0, .inl (fun _ => 0))) := rfl
theorem m_18 (b r1 r2 : Nat → Nat) (g : Nat → ClassId) (th : Int32) : (modW b r1 r2 g th)[18]? = some ((r2 3), .inl (g 0, 0, .inl (fun _ => 0))) := rfl
theorem m_19 (b r1 r2 : Nat → Nat) (g : Nat → ClassId) (th : Int32) : (modW b r1 r2 g th)[19]? = some ((r2 4), .inl (g 0, 0, .inl (fun _ => 0))) := rfl
theorem m_20 (b r1 r2 : Nat → Nat) (g : Nat → ClassId) (th : Int32) : (modW b r1 r2 g th)[20]? = some ((r2 5), .inl (g 0, 0, .inl (fun _ => 0))) := rfl
theorem m_21 (b r1 r2 : Nat → Nat) (g : Nat → ClassId) (th : Int32) : (modW b r1 r2 g th)[21]? = some ((r2 6), .inl (g 0, 0, .inl (fun _ => 0))) := rfl
theorem m_22 (b r1 r2 : Nat → Nat) (g : Nat → ClassId) (th : Int32) : (modW b r1 r2 g th)[22]? = some ((r2 7), .inl (g 0, 0, .inl (fun _ => 0))) := rfl
theorem m_row1 (b r1 r2 : Nat → Nat) (g : Nat → ClassId) (th : Int32) (j : Nat) (h : j < 8) : (modW b r1 r2 g th)[7 + j]? = some (r1 j, .inl (g 0, 0, .inl (fun _ => 0))) := by
  match j, h with
  | 0, _ => rfl
  | 1, _ => rfl
  | 2, _ => rfl
  | 3, _ => rfl
  | 4, _ => rfl
  | 5, _ => rfl
  | 6, _ => rfl
  | 7, _ => rfl
theorem m_row2 (b r1 r2 : Nat → Nat) (g : Nat → ClassId) (th : Int32) (j : Nat) (h : j < 8) : (modW b r1 r2 g th)[15 + j]? = some (r2 j, .inl (g 0, 0, .inl (fun _ => 0))) := by
  match j, h with
  | 0, _ => rfl
  | 1, _ => rfl
  | 2, _ => rfl
  | 3, _ => rfl
  | 4, _ => rfl
  | 5, _ => rfl
  | 6, _ => rfl
  | 7, _ => rfl
theorem va_D_th {A : Nat → Prop} {b r1 r2 : Nat → Nat} {g : Nat → ClassId} {th th2 : Int32} (hD : va_D A (modW b r1 r2 g th)) : va_D A (modW b r1 r2 g th2) := hD.set (m_0 b r1 r2 g th)
