/-! the first world: both objects as they are made -/
def lw_w0 : ab_W := [
  .inr (8, [.int 0, .ref 1, .ref 13, .ref 14, .ref 15, .int 0, .ref 27, .ref 29, .ref 33, .ref 41, .ref 65, .ref 70, .int 0, .int (-1), .int (-1), .int 0]),
  .inr (1, [.ref 2, .ref 3, .ref 4, .ref 5, .ref 6, .ref 7, .ref 8, .ref 9, .ref 10, .ref 11, .ref 12, .int 0, .int 0, .int 0, .int 0, .int 0, .int (-1), .int 0]),
  .inl (0, 10, .inl (fun _ => 0)),
  .inl (0, 10, .inl (fun _ => 0)),
  .inl (0, 10, .inl (fun _ => 0)),
  .inl (0, 10, .inl (fun _ => 0)),
  .inl (0, 16, .inl (fun _ => 0)),
  .inl (0, 16, .inl (fun _ => 0)),
  .inl (0, 16, .inl (fun _ => 0)),
  .inl (0, 4, .inl (upd (upd (upd (upd (fun _ => 0) 0 0) 1 10) 2 2) 3 0)),
  .inl (0, 8, .inl (fun _ => 0)),
  .inl (0, 8, .inl (fun _ => 0)),
  .inl (5, 6, .inr (.inr (.inr (.inr (fun _ => none))))),
  .inl (4, 2, .inr (.inr (.inr (.inr (ab_two 71 83))))),
  .inl (3, 2, .inl (fun _ => 0)),
  .inr (1, [.ref 16, .ref 17, .ref 18, .ref 19, .ref 20, .ref 21, .ref 22, .ref 23, .ref 24, .ref 25, .ref 26, .int 0, .int 0, .int 0, .int 0, .int 0, .int (-1), .int 0]),
  .inl (0, 10, .inl (fun _ => 0)),
  .inl (0, 10, .inl (fun _ => 0)),
  .inl (0, 10, .inl (fun _ => 0)),
  .inl (0, 10, .inl (fun _ => 0)),
  .inl (0, 16, .inl (fun _ => 0)),
  .inl (0, 16, .inl (fun _ => 0)),
  .inl (0, 16, .inl (fun _ => 0)),
  .inl (0, 4, .inl (upd (upd (upd (upd (fun _ => 0) 0 0) 1 10) 2 2) 3 0)),
  .inl (0, 8, .inl (fun _ => 0)),
  .inl (0, 8, .inl (fun _ => 0)),
  .inl (5, 6, .inr (.inr (.inr (.inr (fun _ => none))))),
  .inr (4, [.ref 28, .int 0, .int 0]),
  .inl (0, 1224, .inl (fun _ => 0)),
  .inr (0, [.ref 30, .ref 32, .int 0, .int 0, .int 0, .int 0, .int 0]),
  .inr (2, [.ref 31, .int 0]),
  .inl (0, 64, .inl (fun _ => 0)),
  .inl (0, 8, .inl (fun _ => 0)),
  .inr (6, [.ref 34, .ref 36, .ref 40, .int 0, .int 0, .int 0, .int 0]),
  .inr (2, [.ref 35, .int 0]),
  .inl (0, 64, .inl (fun _ => 0)),
  .inr (0, [.ref 37, .ref 39, .int 0, .int 0, .int 0, .int 0, .int 0]),
  .inr (2, [.ref 38, .int 0]),
  .inl (0, 64, .inl (fun _ => 0)),
  .inl (0, 8, .inl (fun _ => 0)),
  .inl (0, 25, .inl (fun _ => 0)),
  .inr (3, [.ref 42, .ref 46, .ref 58, .ref 59, .ref 60, .ref 61, .ref 62, .ref 63, .ref 64, .int 0, .int 0, .int 0, .int 0, .int 0, .int 0, .int 0, .int 0, .int 0, .int 0, .int 0]),
  .inr (0, [.ref 43, .ref 45, .int 0, .int 0, .int 0, .int 0, .int 0]),
  .inr (2, [.ref 44, .int 0]),
  .inl (0, 64, .inl (fun _ => 0)),
  .inl (0, 8, .inl (fun _ => 0)),
  .inr (1, [.ref 47, .ref 48, .ref 49, .ref 50, .ref 51, .ref 52, .ref 53, .ref 54, .ref 55, .ref 56, .ref 57, .int 0, .int 0, .int 0, .int 0, .int 0, .int (-1), .int 0]),
  .inl (0, 10, .inl (fun _ => 0)),
  .inl (0, 10, .inl (fun _ => 0)),
  .inl (0, 10, .inl (fun _ => 0)),
  .inl (0, 10, .inl (fun _ => 0)),
  .inl (0, 16, .inl (fun _ => 0)),
  .inl (0, 16, .inl (fun _ => 0)),
  .inl (0, 16, .inl (fun _ => 0)),
  .inl (0, 4, .inl (upd (upd (upd (upd (fun _ => 0) 0 0) 1 10) 2 2) 3 0)),
  .inl (0, 8, .inl (fun _ => 0)),
  .inl (0, 8, .inl (fun _ => 0)),
  .inl (5, 6, .inr (.inr (.inr (.inr (fun _ => none))))),
  .inl (0, 10, .inl (fun _ => 0)),
  .inl (0, 10, .inl (fun _ => 0)),
  .inl (0, 10, .inl (fun _ => 0)),
  .inl (0, 100, .inl (fun _ => 0)),
  .inl (2, 99, .inr (.inl (fun _ => 0))),
  .inl (0, 10, .inl (fun _ => 0)),
  .inl (0, 10, .inl (fun _ => 0)),
  .inr (5, [.ref 66, .ref 67, .int 0, .int 0, .int 0, .int 0, .int 0, .int 0, .int 0]),
  .inl (0, 400, .inl (fun _ => 0)),
  .inr (7, [.ref 68, .ref 69, .int 0, .int 0, .int 0]),
  .inl (0, 436, .inl (fun _ => 0)),
  .inl (0, 60, .inl (fun _ => 0)),
  .inl (0, 5, .inl (fun _ => 0)),
  .inr (1, [.ref 72, .ref 73, .ref 74, .ref 75, .ref 76, .ref 77, .ref 78, .ref 79, .ref 80, .ref 81, .ref 82, .int 0, .int 0, .int 0, .int 0, .int 0, .int (-1), .int 0]),
  .inl (0, 10, .inl (fun _ => 0)),
  .inl (0, 10, .inl (fun _ => 0)),
  .inl (0, 10, .inl (fun _ => 0)),
  .inl (0, 10, .inl (fun _ => 0)),
  .inl (0, 16, .inl (fun _ => 0)),
  .inl (0, 16, .inl (fun _ => 0)),
  .inl (0, 16, .inl (fun _ => 0)),
  .inl (0, 4, .inl (upd (upd (upd (upd (fun _ => 0) 0 0) 1 10) 2 2) 3 0)),
  .inl (0, 8, .inl (fun _ => 0)),
  .inl (0, 8, .inl (fun _ => 0)),
  .inl (5, 6, .inr (.inr (.inr (.inr (fun _ => none))))),
  .inr (1, [.ref 84, .ref 85, .ref 86, .ref 87, .ref 88, .ref 89, .ref 90, .ref 91, .ref 92, .ref 93, .ref 94, .int 0, .int 0, .int 0, .int 0, .int 0, .int (-1), .int 0]),
  .inl (0, 10, .inl (fun _ => 0)),
  .inl (0, 10, .inl (fun _ => 0)),
  .inl (0, 10, .inl (fun _ => 0)),
  .inl (0, 10, .inl (fun _ => 0)),
  .inl (0, 16, .inl (fun _ => 0)),
  .inl (0, 16, .inl (fun _ => 0)),
  .inl (0, 16, .inl (fun _ => 0)),
  .inl (0, 4, .inl (upd (upd (upd (upd (fun _ => 0) 0 0) 1 10) 2 2) 3 0)),
  .inl (0, 8, .inl (fun _ => 0)),
  .inl (0, 8, .inl (fun _ => 0)),
  .inl (5, 6, .inr (.inr (.inr (.inr (fun _ => none))))),
  .inr (9, [.int 0, .ref 96, .ref 97, .ref 98, .ref 99, .ref 100, .int 0, .ref 101, .int 0, .int 0, .int 0, .ref 102, .ref 103, .int 0, .int (-1), .ref 104, .ref 105, .ref 106, .int 0, .int 0, .int 0, .int 0, .int 0, .int 0, .int 0, .int 0, .ref 107, .int 0, .int 0, .ref 108, .int 0, .int 0, .ref 109, .ref 110, .int 0, .ref 111, .ref 112, .ref 113, .ref 114, .ref 115, .ref 116, .int (-1), .int 0, .int 0, .int 0, .int 0, .int 0, .ref 117, .ref 118, .int (-1), .int 0, .int 0]),
  .inl (0, 7, .inl (fun _ => 0)),
  .inl (0, 5721, .inl (upd (upd (upd (fun _ => 0) 107 10) 108 2) 113 (-1))),
  .inl (0, 11442, .inl (fun _ => 0)),
  .inl (3, 2, .inl (fun _ => 0)),
  .inl (0, 142, .inl (fun _ => 0)),
  .inl (1, 140, .inl (upd (upd (upd (upd (upd (upd (upd (upd (upd (upd (upd (upd (upd (upd (upd (upd (upd (upd (upd (upd (upd (upd (upd (upd (upd (upd (upd (upd (upd (upd (upd (upd (upd (upd (upd (upd (upd (upd (upd (upd (upd (upd (upd (upd (upd (upd (upd (upd (upd (upd (upd (upd (upd (upd (upd (upd (upd (upd (upd (upd (upd (upd (upd (upd (upd (upd (upd (upd (upd (upd (upd (upd (upd (upd (upd (upd (upd (upd (upd (upd (upd (upd (upd (upd (upd (upd (upd (upd (upd (upd (upd (upd (upd (upd (upd (upd (upd (upd (upd (upd (upd (upd (upd (upd (upd (upd (upd (upd (upd (upd (upd (upd (upd (upd (upd (upd (upd (upd (upd (upd (upd (upd (upd (upd (upd (upd (upd (upd (upd (upd (upd (upd (upd (upd (upd (upd (upd (upd (upd (upd (fun _ => 0) 0 116) 1 101) 2 110) 3 115) 4 32) 5 115) 6 116) 7 97) 8 121) 9 115) 10 32) 11 115) 12 116) 13 101) 14 112) 15 115) 16 32) 17 98) 18 97) 19 114) 20 115) 21 32) 22 105) 23 102) 24 32) 25 111) 26 114) 27 32) 28 97) 29 110) 30 100) 31 32) 32 110) 33 111) 34 116) 35 32) 36 112) 37 97) 38 114) 39 105) 40 115) 41 104) 42 32) 43 98) 44 101) 45 108) 46 111) 47 119) 48 32) 49 100) 50 101) 51 112) 52 116) 53 104) 54 32) 55 119) 56 97) 57 108) 58 107) 59 101) 60 100) 61 32) 62 109) 63 111) 64 111) 65 100) 66 32) 67 99) 68 111) 69 117) 70 110) 71 116) 72 32) 73 111) 74 118) 75 101) 76 114) 77 32) 78 100) 79 97) 80 121) 81 32) 82 100) 83 111) 84 110) 85 101) 86 32) 87 108) 88 97) 89 116) 90 101) 91 115) 92 116) 93 32) 94 115) 95 101) 96 97) 97 32) 98 119) 99 97) 100 108) 101 107) 102 105) 103 110) 104 103) 105 32) 106 114) 107 101) 108 99) 109 107) 110 111) 111 110) 112 32) 113 112) 114 97) 115 115) 116 115) 117 32) 118 108) 119 101) 120 110) 121 100) 122 32) 123 116) 124 111) 125 32) 126 103) 127 114) 128 111) 129 119) 130 32) 131 98) 132 121) 133 32) 134 116) 135 105) 136 109) 137 101) 138 115) 139 32)),
  .inl (1, 400, .inl (fun _ => 0)),
  .inl (0, 5, .inl (fun _ => 0)),
  .inl (0, 401, .inl (fun _ => 0)),
  .inl (0, 401, .inl (fun _ => 0)),
  .inl (0, 401, .inl (fun _ => 0)),
  .inl (0, 8, .inl (fun _ => 0)),
  .inl (0, 10, .inl (fun _ => 0)),
  .inl (0, 1152, .inl (fun _ => 0)),
  .inl (0, 1152, .inl (fun _ => 0)),
  .inl (0, 10, .inl (fun _ => 0)),
  .inl (0, 10, .inl (fun _ => 0)),
  .inl (0, 10, .inl (fun _ => 0)),
  .inl (2, 198, .inr (.inl (fun _ => 0))),
  .inl (1, 990, .inl (fun _ => 0)),
  .inl (0, 10, .inl (fun _ => 0)),
  .inl (2, 2, .inr (.inl (fun _ => 0))),
  .inl (0, 71, .inl (fun _ => 0))]
def x0_t : Int → Int := (im_up (im_up (im_up (im_up (fun _ => 0) 0 0) 1 10) 2 2) 3 0)
def x0_k : Int → Int := (im_up (im_up (im_up (fun _ => 0) 107 10) 108 2) 113 (-1))
def x0_w : Int → Int := (im_up (im_up (im_up (im_up (im_up (im_up (im_up (im_up (im_up (im_up (im_up (im_up (im_up (im_up (im_up (im_up (im_up (im_up (im_up (im_up (im_up (im_up (im_up (im_up (im_up (im_up (im_up (im_up (im_up (im_up (im_up (im_up (im_up (im_up (im_up (im_up (im_up (im_up (im_up (im_up (im_up (im_up (im_up (im_up (im_up (im_up (im_up (im_up (im_up (im_up (im_up (im_up (im_up (im_up (im_up (im_up (im_up (im_up (im_up (im_up (im_up (im_up (im_up (im_up (im_up (im_up (im_up (im_up (im_up (im_up (im_up (im_up (im_up (im_up (im_up (im_up (im_up (im_up (im_up (im_up (im_up (im_up (im_up (im_up (im_up (im_up (im_up (im_up (im_up (im_up (im_up (im_up (im_up (im_up (im_up (im_up (im_up (im_up (im_up (im_up (im_up (im_up (im_up (im_up (im_up (im_up (im_up (im_up (im_up (im_up (im_up (im_up (im_up (im_up (im_up (im_up (im_up (im_up (im_up (im_up (im_up (im_up (im_up (im_up (im_up (im_up (im_up (im_up (im_up (im_up (im_up (im_up (im_up (im_up (im_up (im_up (im_up (im_up (im_up (im_up (fun _ => 0) 0 116) 1 101) 2 110) 3 115) 4 32) 5 115) 6 116) 7 97) 8 121) 9 115) 10 32) 11 115) 12 116) 13 101) 14 112) 15 115) 16 32) 17 98) 18 97) 19 114) 20 115) 21 32) 22 105) 23 102) 24 32) 25 111) 26 114) 27 32) 28 97) 29 110) 30 100) 31 32) 32 110) 33 111) 34 116) 35 32) 36 112) 37 97) 38 114) 39 105) 40 115) 41 104) 42 32) 43 98) 44 101) 45 108) 46 111) 47 119) 48 32) 49 100) 50 101) 51 112) 52 116) 53 104) 54 32) 55 119) 56 97) 57 108) 58 107) 59 101) 60 100) 61 32) 62 109) 63 111) 64 111) 65 100) 66 32) 67 99) 68 111) 69 117) 70 110) 71 116) 72 32) 73 111) 74 118) 75 101) 76 114) 77 32) 78 100) 79 97) 80 121) 81 32) 82 100) 83 111) 84 110) 85 101) 86 32) 87 108) 88 97) 89 116) 90 101) 91 115) 92 116) 93 32) 94 115) 95 101) 96 97) 97 32) 98 119) 99 97) 100 108) 101 107) 102 105) 103 110) 104 103) 105 32) 106 114) 107 101) 108 99) 109 107) 110 111) 111 110) 112 32) 113 112) 114 97) 115 115) 116 115) 117 32) 118 108) 119 101) 120 110) 121 100) 122 32) 123 116) 124 111) 125 32) 126 103) 127 114) 128 111) 129 119) 130 32) 131 98) 132 121) 133 32) 134 116) 135 105) 136 109) 137 101) 138 115) 139 32)
def x0_X : cw_X := ((fun j => if j = 13 then -1 else if j = 14 then -1 else 0), ((fun j => if j = 5 then -1 else 0), (fun j => if j = 7 then x0_t else fun _ => 0), fun _ => none), (fun _ => 0), ((fun j => if j = 5 then -1 else 0), (fun j => if j = 7 then x0_t else fun _ => 0), fun _ => none), (0, 0, (fun _ => 0)), ((fun _ => 0), 0, (fun _ => 0), (fun _ => 0)), ((fun _ => 0), 0, (fun _ => 0), ((fun _ => 0), 0, (fun _ => 0), (fun _ => 0)), (fun _ => 0)), ((fun _ => 0), ((fun _ => 0), 0, (fun _ => 0), (fun _ => 0)), ((fun j => if j = 5 then -1 else 0), (fun j => if j = 7 then x0_t else fun _ => 0), fun _ => none), fun _ _ => 0), ((fun _ => 0), (fun _ => 0), (0, 0, 0), (fun _ => 0), (fun _ => 0)), (fun _ => 0), ((fun j => if j = 5 then -1 else 0), (fun j => if j = 7 then x0_t else fun _ => 0), fun _ => none), ((fun j => if j = 5 then -1 else 0), (fun j => if j = 7 then x0_t else fun _ => 0), fun _ => none))
def x0_v : Nat → Int := (fun j => if j = 14 then -1 else if j = 41 then -1 else if j = 49 then -1 else 0)
def x0_R : Nat → Int → Int := fun j => if j = 2 then x0_k else if j = 6 then x0_w else fun _ => 0
theorem up_im {f : Nat → Int32} {g : Int → Int} (h : f = fun k : Nat => Int32.ofInt (g (k : Int))) (n : Nat) (z : Int32) (x : Int) (hz : z = Int32.ofInt x) : upd f n z = fun k : Nat => Int32.ofInt (im_up g (n : Int) x (k : Int)) := by
  funext k
  unfold upd im_up
  by_cases e : k = n
  · rw [if_pos e, if_pos (by omega)]
    exact hz
  · rw [if_neg e, if_neg (by omega), h]
theorem up_0 : (fun _ : Nat => (0 : Int32)) = fun k : Nat => Int32.ofInt ((fun _ : Int => (0 : Int)) (k : Int)) := rfl
set_option maxRecDepth 100000 in
theorem x0_te : (upd (upd (upd (upd (fun _ => 0) 0 0) 1 10) 2 2) 3 0) = fun k : Nat => Int32.ofInt (x0_t (k : Int)) := (up_im (up_im (up_im (up_im up_0 0 0 0 rfl) 1 10 10 rfl) 2 2 2 rfl) 3 0 0 rfl)
set_option maxRecDepth 100000 in
theorem x0_ke : (upd (upd (upd (fun _ => 0) 107 10) 108 2) 113 (-1)) = fun k : Nat => Int32.ofInt (x0_k (k : Int)) := (up_im (up_im (up_im up_0 107 10 10 rfl) 108 2 2 rfl) 113 (-1) (-1) rfl)
set_option maxRecDepth 100000 in
theorem x0_we : (upd (upd (upd (upd (upd (upd (upd (upd (upd (upd (upd (upd (upd (upd (upd (upd (upd (upd (upd (upd (upd (upd (upd (upd (upd (upd (upd (upd (upd (upd (upd (upd (upd (upd (upd (upd (upd (upd (upd (upd (upd (upd (upd (upd (upd (upd (upd (upd (upd (upd (upd (upd (upd (upd (upd (upd (upd (upd (upd (upd (upd (upd (upd (upd (upd (upd (upd (upd (upd (upd (upd (upd (upd (upd (upd (upd (upd (upd (upd (upd (upd (upd (upd (upd (upd (upd (upd (upd (upd (upd (upd (upd (upd (upd (upd (upd (upd (upd (upd (upd (upd (upd (upd (upd (upd (upd (upd (upd (upd (upd (upd (upd (upd (upd (upd (upd (upd (upd (upd (upd (upd (upd (upd (upd (upd (upd (upd (upd (upd (upd (upd (upd (upd (upd (upd (upd (upd (upd (upd (upd (fun _ => 0) 0 116) 1 101) 2 110) 3 115) 4 32) 5 115) 6 116) 7 97) 8 121) 9 115) 10 32) 11 115) 12 116) 13 101) 14 112) 15 115) 16 32) 17 98) 18 97) 19 114) 20 115) 21 32) 22 105) 23 102) 24 32) 25 111) 26 114) 27 32) 28 97) 29 110) 30 100) 31 32) 32 110) 33 111) 34 116) 35 32) 36 112) 37 97) 38 114) 39 105) 40 115) 41 104) 42 32) 43 98) 44 101) 45 108) 46 111) 47 119) 48 32) 49 100) 50 101) 51 112) 52 116) 53 104) 54 32) 55 119) 56 97) 57 108) 58 107) 59 101) 60 100) 61 32) 62 109) 63 111) 64 111) 65 100) 66 32) 67 99) 68 111) 69 117) 70 110) 71 116) 72 32) 73 111) 74 118) 75 101) 76 114) 77 32) 78 100) 79 97) 80 121) 81 32) 82 100) 83 111) 84 110) 85 101) 86 32) 87 108) 88 97) 89 116) 90 101) 91 115) 92 116) 93 32) 94 115) 95 101) 96 97) 97 32) 98 119) 99 97) 100 108) 101 107) 102 105) 103 110) 104 103) 105 32) 106 114) 107 101) 108 99) 109 107) 110 111) 111 110) 112 32) 113 112) 114 97) 115 115) 116 115) 117 32) 118 108) 119 101) 120 110) 121 100) 122 32) 123 116) 124 111) 125 32) 126 103) 127 114) 128 111) 129 119) 130 32) 131 98) 132 121) 133 32) 134 116) 135 105) 136 109) 137 101) 138 115) 139 32) = fun k : Nat => Int32.ofInt (x0_w (k : Int)) := (up_im (up_im (up_im (up_im (up_im (up_im (up_im (up_im (up_im (up_im (up_im (up_im (up_im (up_im (up_im (up_im (up_im (up_im (up_im (up_im (up_im (up_im (up_im (up_im (up_im (up_im (up_im (up_im (up_im (up_im (up_im (up_im (up_im (up_im (up_im (up_im (up_im (up_im (up_im (up_im (up_im (up_im (up_im (up_im (up_im (up_im (up_im (up_im (up_im (up_im (up_im (up_im (up_im (up_im (up_im (up_im (up_im (up_im (up_im (up_im (up_im (up_im (up_im (up_im (up_im (up_im (up_im (up_im (up_im (up_im (up_im (up_im (up_im (up_im (up_im (up_im (up_im (up_im (up_im (up_im (up_im (up_im (up_im (up_im (up_im (up_im (up_im (up_im (up_im (up_im (up_im (up_im (up_im (up_im (up_im (up_im (up_im (up_im (up_im (up_im (up_im (up_im (up_im (up_im (up_im (up_im (up_im (up_im (up_im (up_im (up_im (up_im (up_im (up_im (up_im (up_im (up_im (up_im (up_im (up_im (up_im (up_im (up_im (up_im (up_im (up_im (up_im (up_im (up_im (up_im (up_im (up_im (up_im (up_im (up_im (up_im (up_im (up_im (up_im (up_im up_0 0 116 116 rfl) 1 101 101 rfl) 2 110 110 rfl) 3 115 115 rfl) 4 32 32 rfl) 5 115 115 rfl) 6 116 116 rfl) 7 97 97 rfl) 8 121 121 rfl) 9 115 115 rfl) 10 32 32 rfl) 11 115 115 rfl) 12 116 116 rfl) 13 101 101 rfl) 14 112 112 rfl) 15 115 115 rfl) 16 32 32 rfl) 17 98 98 rfl) 18 97 97 rfl) 19 114 114 rfl) 20 115 115 rfl) 21 32 32 rfl) 22 105 105 rfl) 23 102 102 rfl) 24 32 32 rfl) 25 111 111 rfl) 26 114 114 rfl) 27 32 32 rfl) 28 97 97 rfl) 29 110 110 rfl) 30 100 100 rfl) 31 32 32 rfl) 32 110 110 rfl) 33 111 111 rfl) 34 116 116 rfl) 35 32 32 rfl) 36 112 112 rfl) 37 97 97 rfl) 38 114 114 rfl) 39 105 105 rfl) 40 115 115 rfl) 41 104 104 rfl) 42 32 32 rfl) 43 98 98 rfl) 44 101 101 rfl) 45 108 108 rfl) 46 111 111 rfl) 47 119 119 rfl) 48 32 32 rfl) 49 100 100 rfl) 50 101 101 rfl) 51 112 112 rfl) 52 116 116 rfl) 53 104 104 rfl) 54 32 32 rfl) 55 119 119 rfl) 56 97 97 rfl) 57 108 108 rfl) 58 107 107 rfl) 59 101 101 rfl) 60 100 100 rfl) 61 32 32 rfl) 62 109 109 rfl) 63 111 111 rfl) 64 111 111 rfl) 65 100 100 rfl) 66 32 32 rfl) 67 99 99 rfl) 68 111 111 rfl) 69 117 117 rfl) 70 110 110 rfl) 71 116 116 rfl) 72 32 32 rfl) 73 111 111 rfl) 74 118 118 rfl) 75 101 101 rfl) 76 114 114 rfl) 77 32 32 rfl) 78 100 100 rfl) 79 97 97 rfl) 80 121 121 rfl) 81 32 32 rfl) 82 100 100 rfl) 83 111 111 rfl) 84 110 110 rfl) 85 101 101 rfl) 86 32 32 rfl) 87 108 108 rfl) 88 97 97 rfl) 89 116 116 rfl) 90 101 101 rfl) 91 115 115 rfl) 92 116 116 rfl) 93 32 32 rfl) 94 115 115 rfl) 95 101 101 rfl) 96 97 97 rfl) 97 32 32 rfl) 98 119 119 rfl) 99 97 97 rfl) 100 108 108 rfl) 101 107 107 rfl) 102 105 105 rfl) 103 110 110 rfl) 104 103 103 rfl) 105 32 32 rfl) 106 114 114 rfl) 107 101 101 rfl) 108 99 99 rfl) 109 107 107 rfl) 110 111 111 rfl) 111 110 110 rfl) 112 32 32 rfl) 113 112 112 rfl) 114 97 97 rfl) 115 115 115 rfl) 116 115 115 rfl) 117 32 32 rfl) 118 108 108 rfl) 119 101 101 rfl) 120 110 110 rfl) 121 100 100 rfl) 122 32 32 rfl) 123 116 116 rfl) 124 111 111 rfl) 125 32 32 rfl) 126 103 103 rfl) 127 114 114 rfl) 128 111 111 rfl) 129 119 119 rfl) 130 32 32 rfl) 131 98 98 rfl) 132 121 121 rfl) 133 32 32 rfl) 134 116 116 rfl) 135 105 105 rfl) 136 109 109 rfl) 137 101 101 rfl) 138 115 115 rfl) 139 32 32 rfl)
theorem x0_two : ab_two 71 83 = fun k : Nat => cw_im (k : Int) := by
  funext k
  match k with
  | 0 => rfl
  | 1 => rfl
  | k + 2 =>
    unfold cw_im
    rw [if_neg (by omega), if_neg (by omega)]
    rfl
set_option maxRecDepth 100000 in
set_option maxHeartbeats 4000000 in
theorem x0_w0 : lw_w0 = im_w 119 [] (CW x0_X ++ MZ x0_v x0_R) := by
  unfold lw_w0
  rw [x0_te, x0_ke, x0_we, x0_two]
  rfl
set_option maxHeartbeats 4000000 in
theorem x0_LOK : LOK (fun j => if j = 5 then -1 else 0) (fun j => if j = 7 then x0_t else fun _ => 0) := by
  refine ⟨by decide, by decide, by decide, by decide, by decide, by decide, fun _ => (by show _ ≤ (0 : Int) ∧ (0 : Int) ≤ _; decide), fun _ => (by show _ ≤ (0 : Int) ∧ (0 : Int) ≤ _; decide), fun _ => (by show _ ≤ (0 : Int) ∧ (0 : Int) ≤ _; decide), fun _ => (by show _ ≤ (0 : Int) ∧ (0 : Int) ≤ _; decide), fun _ => (by show _ ≤ (0 : Int) ∧ (0 : Int) ≤ _; decide), fun _ => (by show _ ≤ (0 : Int) ∧ (0 : Int) ≤ _; decide), fun _ => (by show _ ≤ (0 : Int) ∧ (0 : Int) ≤ _; decide), by decide, fun _ => (by show _ ≤ (0 : Int) ∧ (0 : Int) ≤ _; decide), fun _ => (by show _ ≤ (0 : Int) ∧ (0 : Int) ≤ _; decide), fun p a b => ?_, fun p a b => ?_, fun p a b => ?_⟩
  · exact absurd (show p < 0 from b) (by omega)
  · exact absurd (show p < 0 from b) (by omega)
  · exact absurd (show p < 0 from b) (by omega)
theorem x0_KR : KR x0_k (fun j => if j = 5 then -1 else 0) (fun j => if j = 7 then x0_t else fun _ => 0) := by
  refine ⟨⟨rfl, rfl, rfl, rfl, rfl, rfl⟩, ⟨rfl, rfl, rfl, rfl⟩, fun p a b => ?_, fun p a b => ?_, fun p a b => ?_⟩
  · have hk : p = 0 ∨ p = 1 ∨ p = 2 ∨ p = 3 ∨ p = 4 ∨ p = 5 ∨ p = 6 ∨ p = 7 ∨ p = 8 ∨ p = 9 := by omega
    rcases hk with rfl | rfl | rfl | rfl | rfl | rfl | rfl | rfl | rfl | rfl <;> exact ⟨rfl, rfl, rfl, rfl⟩
  · exact absurd (show p < 0 from b) (by omega)
  · exact absurd (show p < 0 from b) (by omega)
theorem x0_far {i : Int} (h : 114 ≤ i) : x0_k i = 0 := by
  unfold x0_k
  rw [im_up_ne _ _ (by omega), im_up_ne _ _ (by omega), im_up_ne _ _ (by omega)]
theorem x0_KT : KT x0_k := by
  refine ⟨fun i a b => ?_, fun i a b => ?_, fun i a b => ?_⟩ <;> rw [x0_far (by omega)] <;> decide
def wl_b (f : Int → Int) : Int → List (List Int) → Bool
  | k, [] => decide (k = 140)
  | k, u :: r => decide (0 ≤ k ∧ k + (u.length : Int) < 140) && (List.range u.length).all (fun i => decide (f (k + (i : Int)) = u.getD i 0) && decide (97 ≤ u.getD i 0) && decide (u.getD i 0 ≤ 122)) && decide (f (k + (u.length : Int)) = 32) && wl_b f (k + (u.length : Int) + 1) r
theorem wl_b_ok {f : Int → Int} : ∀ (l : List (List Int)) (k : Int), wl_b f k l = true → WL f k l
  | [], k, h => show k = 140 from of_decide_eq_true h
  | u :: r, k, h => by
    have h' : (decide (0 ≤ k ∧ k + (u.length : Int) < 140) && (List.range u.length).all (fun i => decide (f (k + (i : Int)) = u.getD i 0) && decide (97 ≤ u.getD i 0) && decide (u.getD i 0 ≤ 122)) && decide (f (k + (u.length : Int)) = 32) && wl_b f (k + (u.length : Int) + 1) r) = true := h
    rw [Bool.and_eq_true, Bool.and_eq_true, Bool.and_eq_true] at h'
    obtain ⟨⟨⟨h1, h2⟩, h3⟩, h4⟩ := h'
    refine ⟨of_decide_eq_true h1, fun i hi => ?_, of_decide_eq_true h3, wl_b_ok r _ h4⟩
    have h5 := List.all_eq_true.mp h2 i (List.mem_range.mpr hi)
    rw [Bool.and_eq_true, Bool.and_eq_true] at h5
    exact ⟨of_decide_eq_true h5.1.1, of_decide_eq_true h5.1.2, of_decide_eq_true h5.2⟩
set_option maxRecDepth 100000 in
theorem x0_WL : WL x0_w 0 tk_words := wl_b_ok _ _ (by decide +kernel)
def x0_q : im_T := ((0, 0, 0), (0, fun _ => 0), (0, fun _ => 0))
theorem x0_G : GV (fun _ => none) [] := fun i t e => nomatch (show (none : Option Nat) = some t from e)
theorem x0_S : LWS (fun j => if j = 5 then -1 else 0) (fun _ => none) [] (fun _ => x0_q) := fun t a b => absurd (show t < 0 from b) (by omega)
theorem x0_KB : KB x0_k (fun j => if j = 5 then -1 else 0) (fun j => if j = 7 then x0_t else fun _ => 0) (fun _ => x0_q) := ⟨x0_KR, x0_LOK, by decide, x0_KT, fun t a b => absurd (show t < 0 from b) (by omega)⟩
theorem x0_RI (e : Int) (i : (Nat → Int) × (Nat → Int → Int) × (Int → im_T)) : RIM x0_R (fun _ => 0) e i := ⟨rfl, Or.inl rfl, fun z => absurd (show (0 : Int) = 1 from z) (by decide)⟩
theorem x0_TA : TA (fun _ => 0) x0_R := ⟨fun _ => rfl, fun _ => (by show _ ≤ (0 : Int) ∧ (0 : Int) ≤ _; decide)⟩
theorem x0_PS : PSR 0 (x0_v 34) (x0_R 14) 0 0 (fun _ => 0) := ⟨⟨by decide, by decide, rfl⟩, fun e a b => absurd b (by omega)⟩
theorem x0_S0 : SOK (fun _ => 0) := fun _ => (by show _ ≤ (0 : Int) ∧ (0 : Int) ≤ _; decide)
theorem x0_W0 : WOK (fun _ => 0) := fun _ => (by show _ ≤ (0 : Int) ∧ (0 : Int) ≤ _; decide)
theorem x0_RST : RST (fun _ => 0) 0 (fun j => if j = 5 then -1 else 0) (fun j => if j = 7 then x0_t else fun _ => 0) (fun _ => x0_q) 0 0 (fun _ => 0) (fun _ => 0) 0 (-1) (-1) 0 (fun _ => 0) ((fun j => if j = 5 then -1 else 0), (fun j => if j = 7 then x0_t else fun _ => 0), fun _ => x0_q) ((fun j => if j = 5 then -1 else 0), (fun j => if j = 7 then x0_t else fun _ => 0), fun _ => x0_q) 0 (fun j => if j = 5 then -1 else 0) (fun j => if j = 7 then x0_t else fun _ => 0) x0_v x0_R := ⟨x0_KB, rfl, ⟨x0_TA, rfl, by decide, by decide⟩, x0_WL, x0_PS, ⟨rfl, rfl, rfl, rfl, rfl⟩, ⟨rfl, rfl, rfl, rfl⟩, fun _ _ _ => (by show _ ≤ (0 : Int) ∧ (0 : Int) ≤ _; decide), ⟨x0_RI 0 _, x0_RI 1 _⟩, Or.inl ⟨rfl, rfl⟩⟩
theorem x0_PK : PKO 0 (fun _ => 0) (fun _ => 0) (fun j => if j = 5 then -1 else 0) (fun j => if j = 7 then x0_t else fun _ => 0) (fun _ _ => 0) := ⟨Or.inl rfl, x0_S0, x0_W0, x0_LOK, by decide, fun _ _ => (by show _ ≤ (0 : Int) ∧ (0 : Int) ≤ _; decide)⟩
theorem x0_INV : INV [] x0_X x0_v x0_R := ⟨fun _ => x0_q, fun _ => x0_q, fun _ => x0_q, x0_RST, ⟨x0_G, x0_S⟩, ⟨⟨x0_G, fun _ => x0_S, x0_LOK⟩, x0_G, fun _ => x0_S, x0_LOK⟩, fun _ => Or.inl rfl, x0_LOK, ⟨Or.inl rfl, x0_S0, x0_W0⟩, ⟨Or.inl rfl, x0_S0, Or.inl rfl, x0_S0, x0_W0, x0_W0⟩, ⟨x0_PK, fun _ _ _ => (by show _ ≤ (0 : Int) ∧ (0 : Int) ≤ _; decide)⟩, by decide, fun _ => (by show _ ≤ (0 : Int) ∧ (0 : Int) ≤ _; decide), fun _ => (by show _ ≤ (0 : Int) ∧ (0 : Int) ≤ _; decide)⟩
