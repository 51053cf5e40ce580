/-! methods, links, by name: printed by wip/whole/evgen.py -/
def MJx4a65c_init_da8c8 : MI := (yJx4a65c_init_da8c8, cJx4a65c_init_da8c8, 1, none, 0, false, 0)
theorem mJx4a65c_init_da8c8 : mth 0 = some MJx4a65c_init_da8c8 := rfl
def MJx4a65c_grow_92f84 : MI := (yJx4a65c_grow_92f84, cJx4a65c_grow_92f84, 4, (some (.array (.object "java/lang/Object"))), 0, false, 1)
theorem mJx4a65c_grow_92f84 : mth 1 = some MJx4a65c_grow_92f84 := rfl
def MJx4a65c_grow_d5877 : MI := (yJx4a65c_grow_d5877, cJx4a65c_grow_d5877, 1, (some (.array (.object "java/lang/Object"))), 0, false, 0)
theorem mJx4a65c_grow_d5877 : mth 2 = some MJx4a65c_grow_d5877 := rfl
def MJx4a65c_size_8abf5 : MI := (yJx4a65c_size_8abf5, cJx4a65c_size_8abf5, 1, (some (.int)), 0, false, 0)
theorem mJx4a65c_size_8abf5 : mth 3 = some MJx4a65c_size_8abf5 := rfl
def MJx4a65c_elementData_915e3 : MI := (yJx4a65c_elementData_915e3, cJx4a65c_elementData_915e3, 2, (some (.object "java/lang/Object")), 0, false, 1)
theorem mJx4a65c_elementData_915e3 : mth 4 = some MJx4a65c_elementData_915e3 := rfl
def MJx4a65c_get_915e3 : MI := (yJx4a65c_get_915e3, cJx4a65c_get_915e3, 2, (some (.object "java/lang/Object")), 0, false, 1)
theorem mJx4a65c_get_915e3 : mth 5 = some MJx4a65c_get_915e3 := rfl
def MJx4a65c_add_72be8 : MI := (yJx4a65c_add_72be8, cJx4a65c_add_72be8, 4, none, 0, false, 3)
theorem mJx4a65c_add_72be8 : mth 6 = some MJx4a65c_add_72be8 := rfl
def MJx4a65c_add_9ea2d : MI := (yJx4a65c_add_9ea2d, cJx4a65c_add_9ea2d, 2, (some (.boolean)), 0, false, 1)
theorem mJx4a65c_add_9ea2d : mth 7 = some MJx4a65c_add_9ea2d := rfl
def MJx4a65c_add_7a177 : MI := (yJx4a65c_add_7a177, cJx4a65c_add_7a177, 5, none, 0, false, 2)
theorem mJx4a65c_add_7a177 : mth 8 = some MJx4a65c_add_7a177 := rfl
def MJx4a65c_remove_915e3 : MI := (yJx4a65c_remove_915e3, cJx4a65c_remove_915e3, 4, (some (.object "java/lang/Object")), 0, false, 1)
theorem mJx4a65c_remove_915e3 : mth 9 = some MJx4a65c_remove_915e3 := rfl
def MJx4a65c_fastRemove_b59b0 : MI := (yJx4a65c_fastRemove_b59b0, cJx4a65c_fastRemove_b59b0, 4, none, 0, false, 2)
theorem mJx4a65c_fastRemove_b59b0 : mth 10 = some MJx4a65c_fastRemove_b59b0 := rfl
def MJx4a65c_rangeCheckForAdd_d00df : MI := (yJx4a65c_rangeCheckForAdd_d00df, cJx4a65c_rangeCheckForAdd_d00df, 2, none, 0, false, 1)
theorem mJx4a65c_rangeCheckForAdd_d00df : mth 11 = some MJx4a65c_rangeCheckForAdd_d00df := rfl
def MX0_init : MI := (yX0_init, cX0_init, 4, none, 1, false, 3)
theorem mX0_init : mth 13 = some MX0_init := rfl
theorem qX0_init {d : Nat} {As : List Value} {T : TS} {Q : Post} (hl : (lg_sl As).length ≤ 4) : CallQ (d + 1) 13 As T Q ↔ Ev d MX0_init [] 0 (lv_args 0 As) [] T Q := callQ_iff MX0_init mX0_init (by decide) hl
def MX0_number : MI := (yX0_number, cX0_number, 1, (some (.int)), 1, false, 0)
theorem mX0_number : mth 14 = some MX0_number := rfl
theorem qX0_number {d : Nat} {As : List Value} {T : TS} {Q : Post} (hl : (lg_sl As).length ≤ 1) : CallQ (d + 1) 14 As T Q ↔ Ev d MX0_number [] 0 (lv_args 0 As) [] T Q := callQ_iff MX0_number mX0_number (by decide) hl
def MX0_bytes : MI := (yX0_bytes, cX0_bytes, 1, (some (.object "DedupVault$Piece")), 1, false, 0)
theorem mX0_bytes : mth 15 = some MX0_bytes := rfl
theorem qX0_bytes {d : Nat} {As : List Value} {T : TS} {Q : Post} (hl : (lg_sl As).length ≤ 1) : CallQ (d + 1) 15 As T Q ↔ Ev d MX0_bytes [] 0 (lv_args 0 As) [] T Q := callQ_iff MX0_bytes mX0_bytes (by decide) hl
def MX0_home : MI := (yX0_home, cX0_home, 1, (some (.object "DedupVault$Container")), 1, false, 0)
theorem mX0_home : mth 16 = some MX0_home := rfl
theorem qX0_home {d : Nat} {As : List Value} {T : TS} {Q : Post} (hl : (lg_sl As).length ≤ 1) : CallQ (d + 1) 16 As T Q ↔ Ev d MX0_home [] 0 (lv_args 0 As) [] T Q := callQ_iff MX0_home mX0_home (by decide) hl
def MX0_moveTo : MI := (yX0_moveTo, cX0_moveTo, 2, none, 1, false, 1)
theorem mX0_moveTo : mth 17 = some MX0_moveTo := rfl
theorem qX0_moveTo {d : Nat} {As : List Value} {T : TS} {Q : Post} (hl : (lg_sl As).length ≤ 2) : CallQ (d + 1) 17 As T Q ↔ Ev d MX0_moveTo [] 0 (lv_args 0 As) [] T Q := callQ_iff MX0_moveTo mX0_moveTo (by decide) hl
def MX0_uses : MI := (yX0_uses, cX0_uses, 1, (some (.int)), 1, false, 0)
theorem mX0_uses : mth 18 = some MX0_uses := rfl
theorem qX0_uses {d : Nat} {As : List Value} {T : TS} {Q : Post} (hl : (lg_sl As).length ≤ 1) : CallQ (d + 1) 18 As T Q ↔ Ev d MX0_uses [] 0 (lv_args 0 As) [] T Q := callQ_iff MX0_uses mX0_uses (by decide) hl
def MX0_addUses : MI := (yX0_addUses, cX0_addUses, 2, none, 1, false, 1)
theorem mX0_addUses : mth 19 = some MX0_addUses := rfl
theorem qX0_addUses {d : Nat} {As : List Value} {T : TS} {Q : Post} (hl : (lg_sl As).length ≤ 2) : CallQ (d + 1) 19 As T Q ↔ Ev d MX0_addUses [] 0 (lv_args 0 As) [] T Q := callQ_iff MX0_addUses mX0_addUses (by decide) hl
def MX1_init : MI := (yX1_init, cX1_init, 2, none, 2, false, 1)
theorem mX1_init : mth 20 = some MX1_init := rfl
theorem qX1_init {d : Nat} {As : List Value} {T : TS} {Q : Post} (hl : (lg_sl As).length ≤ 2) : CallQ (d + 1) 20 As T Q ↔ Ev d MX1_init [] 0 (lv_args 0 As) [] T Q := callQ_iff MX1_init mX1_init (by decide) hl
def MX1_number : MI := (yX1_number, cX1_number, 1, (some (.int)), 2, false, 0)
theorem mX1_number : mth 21 = some MX1_number := rfl
theorem qX1_number {d : Nat} {As : List Value} {T : TS} {Q : Post} (hl : (lg_sl As).length ≤ 1) : CallQ (d + 1) 21 As T Q ↔ Ev d MX1_number [] 0 (lv_args 0 As) [] T Q := callQ_iff MX1_number mX1_number (by decide) hl
def MX1_filled : MI := (yX1_filled, cX1_filled, 1, (some (.int)), 2, false, 0)
theorem mX1_filled : mth 22 = some MX1_filled := rfl
theorem qX1_filled {d : Nat} {As : List Value} {T : TS} {Q : Post} (hl : (lg_sl As).length ≤ 1) : CallQ (d + 1) 22 As T Q ↔ Ev d MX1_filled [] 0 (lv_args 0 As) [] T Q := callQ_iff MX1_filled mX1_filled (by decide) hl
def MX1_count : MI := (yX1_count, cX1_count, 1, (some (.int)), 2, false, 0)
theorem mX1_count : mth 23 = some MX1_count := rfl
theorem qX1_count {d : Nat} {As : List Value} {T : TS} {Q : Post} (hl : (lg_sl As).length ≤ 1) : CallQ (d + 1) 23 As T Q ↔ Ev d MX1_count [] 0 (lv_args 0 As) [] T Q := callQ_iff MX1_count mX1_count (by decide) hl
def MX1_fits : MI := (yX1_fits, cX1_fits, 2, (some (.boolean)), 2, false, 1)
theorem mX1_fits : mth 24 = some MX1_fits := rfl
theorem qX1_fits {d : Nat} {As : List Value} {T : TS} {Q : Post} (hl : (lg_sl As).length ≤ 2) : CallQ (d + 1) 24 As T Q ↔ Ev d MX1_fits [] 0 (lv_args 0 As) [] T Q := callQ_iff MX1_fits mX1_fits (by decide) hl
def MX1_put : MI := (yX1_put, cX1_put, 2, none, 2, false, 1)
theorem mX1_put : mth 25 = some MX1_put := rfl
theorem qX1_put {d : Nat} {As : List Value} {T : TS} {Q : Post} (hl : (lg_sl As).length ≤ 2) : CallQ (d + 1) 25 As T Q ↔ Ev d MX1_put [] 0 (lv_args 0 As) [] T Q := callQ_iff MX1_put mX1_put (by decide) hl
def MX1_withBytes : MI := (yX1_withBytes, cX1_withBytes, 3, (some (.object "DedupVault$Chunk")), 2, false, 1)
theorem mX1_withBytes : mth 26 = some MX1_withBytes := rfl
theorem qX1_withBytes {d : Nat} {As : List Value} {T : TS} {Q : Post} (hl : (lg_sl As).length ≤ 3) : CallQ (d + 1) 26 As T Q ↔ Ev d MX1_withBytes [] 0 (lv_args 0 As) [] T Q := callQ_iff MX1_withBytes mX1_withBytes (by decide) hl
def MX1_withNumber : MI := (yX1_withNumber, cX1_withNumber, 3, (some (.object "DedupVault$Chunk")), 2, false, 1)
theorem mX1_withNumber : mth 27 = some MX1_withNumber := rfl
theorem qX1_withNumber {d : Nat} {As : List Value} {T : TS} {Q : Post} (hl : (lg_sl As).length ≤ 3) : CallQ (d + 1) 27 As T Q ↔ Ev d MX1_withNumber [] 0 (lv_args 0 As) [] T Q := callQ_iff MX1_withNumber mX1_withNumber (by decide) hl
def MX1_needed : MI := (yX1_needed, cX1_needed, 3, (some (.object "java/util/ArrayList")), 2, false, 0)
theorem mX1_needed : mth 28 = some MX1_needed := rfl
theorem qX1_needed {d : Nat} {As : List Value} {T : TS} {Q : Post} (hl : (lg_sl As).length ≤ 3) : CallQ (d + 1) 28 As T Q ↔ Ev d MX1_needed [] 0 (lv_args 0 As) [] T Q := callQ_iff MX1_needed mX1_needed (by decide) hl
def MX1_neededBytes : MI := (yX1_neededBytes, cX1_neededBytes, 3, (some (.int)), 2, false, 0)
theorem mX1_neededBytes : mth 29 = some MX1_neededBytes := rfl
theorem qX1_neededBytes {d : Nat} {As : List Value} {T : TS} {Q : Post} (hl : (lg_sl As).length ≤ 3) : CallQ (d + 1) 29 As T Q ↔ Ev d MX1_neededBytes [] 0 (lv_args 0 As) [] T Q := callQ_iff MX1_neededBytes mX1_neededBytes (by decide) hl
def MX2_init : MI := (yX2_init, cX2_init, 4, none, 3, false, 3)
theorem mX2_init : mth 30 = some MX2_init := rfl
theorem qX2_init {d : Nat} {As : List Value} {T : TS} {Q : Post} (hl : (lg_sl As).length ≤ 4) : CallQ (d + 1) 30 As T Q ↔ Ev d MX2_init [] 0 (lv_args 0 As) [] T Q := callQ_iff MX2_init mX2_init (by decide) hl
def MX2_markOf : MI := (yX2_markOf, cX2_markOf, 6, (some (.int)), 3, true, 3)
theorem mX2_markOf : mth 31 = some MX2_markOf := rfl
theorem qX2_markOf {d : Nat} {As : List Value} {T : TS} {Q : Post} (hl : (lg_sl As).length ≤ 6) : CallQ (d + 1) 31 As T Q ↔ Ev d MX2_markOf [] 0 (lv_args 0 As) [] T Q := callQ_iff MX2_markOf mX2_markOf (by decide) hl
def MX2_size : MI := (yX2_size, cX2_size, 1, (some (.int)), 3, false, 0)
theorem mX2_size : mth 32 = some MX2_size := rfl
theorem qX2_size {d : Nat} {As : List Value} {T : TS} {Q : Post} (hl : (lg_sl As).length ≤ 1) : CallQ (d + 1) 32 As T Q ↔ Ev d MX2_size [] 0 (lv_args 0 As) [] T Q := callQ_iff MX2_size mX2_size (by decide) hl
def MX2_mark : MI := (yX2_mark, cX2_mark, 1, (some (.int)), 3, false, 0)
theorem mX2_mark : mth 33 = some MX2_mark := rfl
theorem qX2_mark {d : Nat} {As : List Value} {T : TS} {Q : Post} (hl : (lg_sl As).length ≤ 1) : CallQ (d + 1) 33 As T Q ↔ Ev d MX2_mark [] 0 (lv_args 0 As) [] T Q := callQ_iff MX2_mark mX2_mark (by decide) hl
def MX2_get : MI := (yX2_get, cX2_get, 2, (some (.int)), 3, false, 1)
theorem mX2_get : mth 34 = some MX2_get := rfl
theorem qX2_get {d : Nat} {As : List Value} {T : TS} {Q : Post} (hl : (lg_sl As).length ≤ 2) : CallQ (d + 1) 34 As T Q ↔ Ev d MX2_get [] 0 (lv_args 0 As) [] T Q := callQ_iff MX2_get mX2_get (by decide) hl
def MX2_detached : MI := (yX2_detached, cX2_detached, 2, (some (.object "DedupVault$Piece")), 3, false, 0)
theorem mX2_detached : mth 35 = some MX2_detached := rfl
theorem qX2_detached {d : Nat} {As : List Value} {T : TS} {Q : Post} (hl : (lg_sl As).length ≤ 2) : CallQ (d + 1) 35 As T Q ↔ Ev d MX2_detached [] 0 (lv_args 0 As) [] T Q := callQ_iff MX2_detached mX2_detached (by decide) hl
def MX2_sameAs : MI := (yX2_sameAs, cX2_sameAs, 3, (some (.boolean)), 3, false, 1)
theorem mX2_sameAs : mth 36 = some MX2_sameAs := rfl
theorem qX2_sameAs {d : Nat} {As : List Value} {T : TS} {Q : Post} (hl : (lg_sl As).length ≤ 3) : CallQ (d + 1) 36 As T Q ↔ Ev d MX2_sameAs [] 0 (lv_args 0 As) [] T Q := callQ_iff MX2_sameAs mX2_sameAs (by decide) hl
def MX3_init : MI := (yX3_init, cX3_init, 2, none, 4, false, 1)
theorem mX3_init : mth 37 = some MX3_init := rfl
theorem qX3_init {d : Nat} {As : List Value} {T : TS} {Q : Post} (hl : (lg_sl As).length ≤ 2) : CallQ (d + 1) 37 As T Q ↔ Ev d MX3_init [] 0 (lv_args 0 As) [] T Q := callQ_iff MX3_init mX3_init (by decide) hl
def MX3_size : MI := (yX3_size, cX3_size, 1, (some (.int)), 4, false, 0)
theorem mX3_size : mth 38 = some MX3_size := rfl
theorem qX3_size {d : Nat} {As : List Value} {T : TS} {Q : Post} (hl : (lg_sl As).length ≤ 1) : CallQ (d + 1) 38 As T Q ↔ Ev d MX3_size [] 0 (lv_args 0 As) [] T Q := callQ_iff MX3_size mX3_size (by decide) hl
def MX3_get : MI := (yX3_get, cX3_get, 2, (some (.int)), 4, false, 1)
theorem mX3_get : mth 39 = some MX3_get := rfl
theorem qX3_get {d : Nat} {As : List Value} {T : TS} {Q : Post} (hl : (lg_sl As).length ≤ 2) : CallQ (d + 1) 39 As T Q ↔ Ev d MX3_get [] 0 (lv_args 0 As) [] T Q := callQ_iff MX3_get mX3_get (by decide) hl
def MX3_add : MI := (yX3_add, cX3_add, 2, none, 4, false, 1)
theorem mX3_add : mth 40 = some MX3_add := rfl
theorem qX3_add {d : Nat} {As : List Value} {T : TS} {Q : Post} (hl : (lg_sl As).length ≤ 2) : CallQ (d + 1) 40 As T Q ↔ Ev d MX3_add [] 0 (lv_args 0 As) [] T Q := callQ_iff MX3_add mX3_add (by decide) hl
def MX3_addPart : MI := (yX3_addPart, cX3_addPart, 5, none, 4, false, 3)
theorem mX3_addPart : mth 41 = some MX3_addPart := rfl
theorem qX3_addPart {d : Nat} {As : List Value} {T : TS} {Q : Post} (hl : (lg_sl As).length ≤ 5) : CallQ (d + 1) 41 As T Q ↔ Ev d MX3_addPart [] 0 (lv_args 0 As) [] T Q := callQ_iff MX3_addPart mX3_addPart (by decide) hl
def MX3_putIn : MI := (yX3_putIn, cX3_putIn, 4, none, 4, false, 2)
theorem mX3_putIn : mth 42 = some MX3_putIn := rfl
theorem qX3_putIn {d : Nat} {As : List Value} {T : TS} {Q : Post} (hl : (lg_sl As).length ≤ 4) : CallQ (d + 1) 42 As T Q ↔ Ev d MX3_putIn [] 0 (lv_args 0 As) [] T Q := callQ_iff MX3_putIn mX3_putIn (by decide) hl
def MX3_takeOut : MI := (yX3_takeOut, cX3_takeOut, 4, none, 4, false, 2)
theorem mX3_takeOut : mth 43 = some MX3_takeOut := rfl
theorem qX3_takeOut {d : Nat} {As : List Value} {T : TS} {Q : Post} (hl : (lg_sl As).length ≤ 4) : CallQ (d + 1) 43 As T Q ↔ Ev d MX3_takeOut [] 0 (lv_args 0 As) [] T Q := callQ_iff MX3_takeOut mX3_takeOut (by decide) hl
def MX4_init : MI := (yX4_init, cX4_init, 1, none, 5, false, 0)
theorem mX4_init : mth 44 = some MX4_init := rfl
theorem qX4_init {d : Nat} {As : List Value} {T : TS} {Q : Post} (hl : (lg_sl As).length ≤ 1) : CallQ (d + 1) 44 As T Q ↔ Ev d MX4_init [] 0 (lv_args 0 As) [] T Q := callQ_iff MX4_init mX4_init (by decide) hl
def MX4_hits : MI := (yX4_hits, cX4_hits, 1, (some (.int)), 5, false, 0)
theorem mX4_hits : mth 45 = some MX4_hits := rfl
theorem qX4_hits {d : Nat} {As : List Value} {T : TS} {Q : Post} (hl : (lg_sl As).length ≤ 1) : CallQ (d + 1) 45 As T Q ↔ Ev d MX4_hits [] 0 (lv_args 0 As) [] T Q := callQ_iff MX4_hits mX4_hits (by decide) hl
def MX4_reads : MI := (yX4_reads, cX4_reads, 1, (some (.int)), 5, false, 0)
theorem mX4_reads : mth 46 = some MX4_reads := rfl
theorem qX4_reads {d : Nat} {As : List Value} {T : TS} {Q : Post} (hl : (lg_sl As).length ≤ 1) : CallQ (d + 1) 46 As T Q ↔ Ev d MX4_reads [] 0 (lv_args 0 As) [] T Q := callQ_iff MX4_reads mX4_reads (by decide) hl
def MX4_containerCount : MI := (yX4_containerCount, cX4_containerCount, 1, (some (.int)), 5, false, 0)
theorem mX4_containerCount : mth 47 = some MX4_containerCount := rfl
theorem qX4_containerCount {d : Nat} {As : List Value} {T : TS} {Q : Post} (hl : (lg_sl As).length ≤ 1) : CallQ (d + 1) 47 As T Q ↔ Ev d MX4_containerCount [] 0 (lv_args 0 As) [] T Q := callQ_iff MX4_containerCount mX4_containerCount (by decide) hl
def MX4_openNumber : MI := (yX4_openNumber, cX4_openNumber, 1, (some (.int)), 5, false, 0)
theorem mX4_openNumber : mth 48 = some MX4_openNumber := rfl
theorem qX4_openNumber {d : Nat} {As : List Value} {T : TS} {Q : Post} (hl : (lg_sl As).length ≤ 1) : CallQ (d + 1) 48 As T Q ↔ Ev d MX4_openNumber [] 0 (lv_args 0 As) [] T Q := callQ_iff MX4_openNumber mX4_openNumber (by decide) hl
def MX4_recentNumber : MI := (yX4_recentNumber, cX4_recentNumber, 2, (some (.int)), 5, false, 1)
theorem mX4_recentNumber : mth 49 = some MX4_recentNumber := rfl
theorem qX4_recentNumber {d : Nat} {As : List Value} {T : TS} {Q : Post} (hl : (lg_sl As).length ≤ 2) : CallQ (d + 1) 49 As T Q ↔ Ev d MX4_recentNumber [] 0 (lv_args 0 As) [] T Q := callQ_iff MX4_recentNumber mX4_recentNumber (by decide) hl
def MX4_has : MI := (yX4_has, cX4_has, 2, (some (.boolean)), 5, false, 1)
theorem mX4_has : mth 50 = some MX4_has := rfl
theorem qX4_has {d : Nat} {As : List Value} {T : TS} {Q : Post} (hl : (lg_sl As).length ≤ 2) : CallQ (d + 1) 50 As T Q ↔ Ev d MX4_has [] 0 (lv_args 0 As) [] T Q := callQ_iff MX4_has mX4_has (by decide) hl
def MX4_findChunk : MI := (yX4_findChunk, cX4_findChunk, 4, (some (.object "DedupVault$Chunk")), 5, false, 1)
theorem mX4_findChunk : mth 51 = some MX4_findChunk := rfl
theorem qX4_findChunk {d : Nat} {As : List Value} {T : TS} {Q : Post} (hl : (lg_sl As).length ≤ 4) : CallQ (d + 1) 51 As T Q ↔ Ev d MX4_findChunk [] 0 (lv_args 0 As) [] T Q := callQ_iff MX4_findChunk mX4_findChunk (by decide) hl
def MX4_chunkCount : MI := (yX4_chunkCount, cX4_chunkCount, 3, (some (.int)), 5, false, 0)
theorem mX4_chunkCount : mth 52 = some MX4_chunkCount := rfl
theorem qX4_chunkCount {d : Nat} {As : List Value} {T : TS} {Q : Post} (hl : (lg_sl As).length ≤ 3) : CallQ (d + 1) 52 As T Q ↔ Ev d MX4_chunkCount [] 0 (lv_args 0 As) [] T Q := callQ_iff MX4_chunkCount mX4_chunkCount (by decide) hl
def MX4_filledBytes : MI := (yX4_filledBytes, cX4_filledBytes, 3, (some (.int)), 5, false, 0)
theorem mX4_filledBytes : mth 53 = some MX4_filledBytes := rfl
theorem qX4_filledBytes {d : Nat} {As : List Value} {T : TS} {Q : Post} (hl : (lg_sl As).length ≤ 3) : CallQ (d + 1) 53 As T Q ↔ Ev d MX4_filledBytes [] 0 (lv_args 0 As) [] T Q := callQ_iff MX4_filledBytes mX4_filledBytes (by decide) hl
def MX4_garbageBytes : MI := (yX4_garbageBytes, cX4_garbageBytes, 3, (some (.int)), 5, false, 0)
theorem mX4_garbageBytes : mth 54 = some MX4_garbageBytes := rfl
theorem qX4_garbageBytes {d : Nat} {As : List Value} {T : TS} {Q : Post} (hl : (lg_sl As).length ≤ 3) : CallQ (d + 1) 54 As T Q ↔ Ev d MX4_garbageBytes [] 0 (lv_args 0 As) [] T Q := callQ_iff MX4_garbageBytes mX4_garbageBytes (by decide) hl
def MX4_chunkFor : MI := (yX4_chunkFor, cX4_chunkFor, 3, (some (.object "DedupVault$Chunk")), 5, false, 1)
theorem mX4_chunkFor : mth 55 = some MX4_chunkFor := rfl
theorem qX4_chunkFor {d : Nat} {As : List Value} {T : TS} {Q : Post} (hl : (lg_sl As).length ≤ 3) : CallQ (d + 1) 55 As T Q ↔ Ev d MX4_chunkFor [] 0 (lv_args 0 As) [] T Q := callQ_iff MX4_chunkFor mX4_chunkFor (by decide) hl
def MX4_chunkIn : MI := (yX4_chunkIn, cX4_chunkIn, 4, (some (.object "DedupVault$Chunk")), 5, true, 2)
theorem mX4_chunkIn : mth 56 = some MX4_chunkIn := rfl
theorem qX4_chunkIn {d : Nat} {As : List Value} {T : TS} {Q : Post} (hl : (lg_sl As).length ≤ 4) : CallQ (d + 1) 56 As T Q ↔ Ev d MX4_chunkIn [] 0 (lv_args 0 As) [] T Q := callQ_iff MX4_chunkIn mX4_chunkIn (by decide) hl
def MX4_storeNew : MI := (yX4_storeNew, cX4_storeNew, 4, (some (.object "DedupVault$Chunk")), 5, false, 1)
theorem mX4_storeNew : mth 57 = some MX4_storeNew := rfl
theorem qX4_storeNew {d : Nat} {As : List Value} {T : TS} {Q : Post} (hl : (lg_sl As).length ≤ 4) : CallQ (d + 1) 57 As T Q ↔ Ev d MX4_storeNew [] 0 (lv_args 0 As) [] T Q := callQ_iff MX4_storeNew mX4_storeNew (by decide) hl
def MX4_openFor : MI := (yX4_openFor, cX4_openFor, 2, (some (.object "DedupVault$Container")), 5, false, 1)
theorem mX4_openFor : mth 58 = some MX4_openFor := rfl
theorem qX4_openFor {d : Nat} {As : List Value} {T : TS} {Q : Post} (hl : (lg_sl As).length ≤ 2) : CallQ (d + 1) 58 As T Q ↔ Ev d MX4_openFor [] 0 (lv_args 0 As) [] T Q := callQ_iff MX4_openFor mX4_openFor (by decide) hl
def MX4_use : MI := (yX4_use, cX4_use, 2, none, 5, false, 1)
theorem mX4_use : mth 59 = some MX4_use := rfl
theorem qX4_use {d : Nat} {As : List Value} {T : TS} {Q : Post} (hl : (lg_sl As).length ≤ 2) : CallQ (d + 1) 59 As T Q ↔ Ev d MX4_use [] 0 (lv_args 0 As) [] T Q := callQ_iff MX4_use mX4_use (by decide) hl
def MX4_leaveCache : MI := (yX4_leaveCache, cX4_leaveCache, 3, none, 5, false, 1)
theorem mX4_leaveCache : mth 60 = some MX4_leaveCache := rfl
theorem qX4_leaveCache {d : Nat} {As : List Value} {T : TS} {Q : Post} (hl : (lg_sl As).length ≤ 3) : CallQ (d + 1) 60 As T Q ↔ Ev d MX4_leaveCache [] 0 (lv_args 0 As) [] T Q := callQ_iff MX4_leaveCache mX4_leaveCache (by decide) hl
def MX4_collectGarbage : MI := (yX4_collectGarbage, cX4_collectGarbage, 7, (some (.int)), 5, false, 0)
theorem mX4_collectGarbage : mth 61 = some MX4_collectGarbage := rfl
theorem qX4_collectGarbage {d : Nat} {As : List Value} {T : TS} {Q : Post} (hl : (lg_sl As).length ≤ 7) : CallQ (d + 1) 61 As T Q ↔ Ev d MX4_collectGarbage [] 0 (lv_args 0 As) [] T Q := callQ_iff MX4_collectGarbage mX4_collectGarbage (by decide) hl
def MX4_empty : MI := (yX4_empty, cX4_empty, 4, none, 5, false, 1)
theorem mX4_empty : mth 62 = some MX4_empty := rfl
theorem qX4_empty {d : Nat} {As : List Value} {T : TS} {Q : Post} (hl : (lg_sl As).length ≤ 4) : CallQ (d + 1) 62 As T Q ↔ Ev d MX4_empty [] 0 (lv_args 0 As) [] T Q := callQ_iff MX4_empty mX4_empty (by decide) hl
def MX5_init : MI := (yX5_init, cX5_init, 4, none, 6, false, 3)
theorem mX5_init : mth 63 = some MX5_init := rfl
theorem qX5_init {d : Nat} {As : List Value} {T : TS} {Q : Post} (hl : (lg_sl As).length ≤ 4) : CallQ (d + 1) 63 As T Q ↔ Ev d MX5_init [] 0 (lv_args 0 As) [] T Q := callQ_iff MX5_init mX5_init (by decide) hl
def MX5_file : MI := (yX5_file, cX5_file, 1, (some (.int)), 6, false, 0)
theorem mX5_file : mth 64 = some MX5_file := rfl
theorem qX5_file {d : Nat} {As : List Value} {T : TS} {Q : Post} (hl : (lg_sl As).length ≤ 1) : CallQ (d + 1) 64 As T Q ↔ Ev d MX5_file [] 0 (lv_args 0 As) [] T Q := callQ_iff MX5_file mX5_file (by decide) hl
def MX5_number : MI := (yX5_number, cX5_number, 1, (some (.int)), 6, false, 0)
theorem mX5_number : mth 65 = some MX5_number := rfl
theorem qX5_number {d : Nat} {As : List Value} {T : TS} {Q : Post} (hl : (lg_sl As).length ≤ 1) : CallQ (d + 1) 65 As T Q ↔ Ev d MX5_number [] 0 (lv_args 0 As) [] T Q := callQ_iff MX5_number mX5_number (by decide) hl
def MX5_copy : MI := (yX5_copy, cX5_copy, 1, (some (.object "DedupVault$Row")), 6, false, 0)
theorem mX5_copy : mth 66 = some MX5_copy := rfl
theorem qX5_copy {d : Nat} {As : List Value} {T : TS} {Q : Post} (hl : (lg_sl As).length ≤ 1) : CallQ (d + 1) 66 As T Q ↔ Ev d MX5_copy [] 0 (lv_args 0 As) [] T Q := callQ_iff MX5_copy mX5_copy (by decide) hl
def MX5_base : MI := (yX5_base, cX5_base, 1, (some (.object "DedupVault$Version")), 6, false, 0)
theorem mX5_base : mth 67 = some MX5_base := rfl
theorem qX5_base {d : Nat} {As : List Value} {T : TS} {Q : Post} (hl : (lg_sl As).length ≤ 1) : CallQ (d + 1) 67 As T Q ↔ Ev d MX5_base [] 0 (lv_args 0 As) [] T Q := callQ_iff MX5_base mX5_base (by decide) hl
def MX5_entryCount : MI := (yX5_entryCount, cX5_entryCount, 1, (some (.int)), 6, false, 0)
theorem mX5_entryCount : mth 68 = some MX5_entryCount := rfl
theorem qX5_entryCount {d : Nat} {As : List Value} {T : TS} {Q : Post} (hl : (lg_sl As).length ≤ 1) : CallQ (d + 1) 68 As T Q ↔ Ev d MX5_entryCount [] 0 (lv_args 0 As) [] T Q := callQ_iff MX5_entryCount mX5_entryCount (by decide) hl
def MX5_entryNumber : MI := (yX5_entryNumber, cX5_entryNumber, 2, (some (.int)), 6, false, 1)
theorem mX5_entryNumber : mth 69 = some MX5_entryNumber := rfl
theorem qX5_entryNumber {d : Nat} {As : List Value} {T : TS} {Q : Post} (hl : (lg_sl As).length ≤ 2) : CallQ (d + 1) 69 As T Q ↔ Ev d MX5_entryNumber [] 0 (lv_args 0 As) [] T Q := callQ_iff MX5_entryNumber mX5_entryNumber (by decide) hl
def MX5_addEntry : MI := (yX5_addEntry, cX5_addEntry, 2, none, 6, false, 1)
theorem mX5_addEntry : mth 70 = some MX5_addEntry := rfl
theorem qX5_addEntry {d : Nat} {As : List Value} {T : TS} {Q : Post} (hl : (lg_sl As).length ≤ 2) : CallQ (d + 1) 70 As T Q ↔ Ev d MX5_addEntry [] 0 (lv_args 0 As) [] T Q := callQ_iff MX5_addEntry mX5_addEntry (by decide) hl
def MX5_releaseEntries : MI := (yX5_releaseEntries, cX5_releaseEntries, 2, none, 6, false, 0)
theorem mX5_releaseEntries : mth 71 = some MX5_releaseEntries := rfl
theorem qX5_releaseEntries {d : Nat} {As : List Value} {T : TS} {Q : Post} (hl : (lg_sl As).length ≤ 2) : CallQ (d + 1) 71 As T Q ↔ Ev d MX5_releaseEntries [] 0 (lv_args 0 As) [] T Q := callQ_iff MX5_releaseEntries mX5_releaseEntries (by decide) hl
def MX5_restored : MI := (yX5_restored, cX5_restored, 5, (some (.int)), 6, false, 1)
theorem mX5_restored : mth 72 = some MX5_restored := rfl
theorem qX5_restored {d : Nat} {As : List Value} {T : TS} {Q : Post} (hl : (lg_sl As).length ≤ 5) : CallQ (d + 1) 72 As T Q ↔ Ev d MX5_restored [] 0 (lv_args 0 As) [] T Q := callQ_iff MX5_restored mX5_restored (by decide) hl
def MX5_chain : MI := (yX5_chain, cX5_chain, 3, (some (.int)), 6, false, 0)
theorem mX5_chain : mth 73 = some MX5_chain := rfl
theorem qX5_chain {d : Nat} {As : List Value} {T : TS} {Q : Post} (hl : (lg_sl As).length ≤ 3) : CallQ (d + 1) 73 As T Q ↔ Ev d MX5_chain [] 0 (lv_args 0 As) [] T Q := callQ_iff MX5_chain mX5_chain (by decide) hl
def MX5_cost : MI := (yX5_cost, cX5_cost, 1, (some (.int)), 6, false, 0)
theorem mX5_cost : mth 74 = some MX5_cost := rfl
theorem qX5_cost {d : Nat} {As : List Value} {T : TS} {Q : Post} (hl : (lg_sl As).length ≤ 1) : CallQ (d + 1) 74 As T Q ↔ Ev d MX5_cost [] 0 (lv_args 0 As) [] T Q := callQ_iff MX5_cost mX5_cost (by decide) hl
def MX5_chooseBase : MI := (yX5_chooseBase, cX5_chooseBase, 2, none, 6, false, 1)
theorem mX5_chooseBase : mth 75 = some MX5_chooseBase := rfl
theorem qX5_chooseBase {d : Nat} {As : List Value} {T : TS} {Q : Post} (hl : (lg_sl As).length ≤ 2) : CallQ (d + 1) 75 As T Q ↔ Ev d MX5_chooseBase [] 0 (lv_args 0 As) [] T Q := callQ_iff MX5_chooseBase mX5_chooseBase (by decide) hl
def MX5_loseBase : MI := (yX5_loseBase, cX5_loseBase, 2, none, 6, false, 1)
theorem mX5_loseBase : mth 76 = some MX5_loseBase := rfl
theorem qX5_loseBase {d : Nat} {As : List Value} {T : TS} {Q : Post} (hl : (lg_sl As).length ≤ 2) : CallQ (d + 1) 76 As T Q ↔ Ev d MX5_loseBase [] 0 (lv_args 0 As) [] T Q := callQ_iff MX5_loseBase mX5_loseBase (by decide) hl
def MX5_differenceTo : MI := (yX5_differenceTo, cX5_differenceTo, 5, (some (.int)), 6, false, 1)
theorem mX5_differenceTo : mth 77 = some MX5_differenceTo := rfl
theorem qX5_differenceTo {d : Nat} {As : List Value} {T : TS} {Q : Post} (hl : (lg_sl As).length ≤ 5) : CallQ (d + 1) 77 As T Q ↔ Ev d MX5_differenceTo [] 0 (lv_args 0 As) [] T Q := callQ_iff MX5_differenceTo mX5_differenceTo (by decide) hl
def MX5_fromEnd : MI := (yX5_fromEnd, cX5_fromEnd, 2, (some (.int)), 6, false, 1)
theorem mX5_fromEnd : mth 78 = some MX5_fromEnd := rfl
theorem qX5_fromEnd {d : Nat} {As : List Value} {T : TS} {Q : Post} (hl : (lg_sl As).length ≤ 2) : CallQ (d + 1) 78 As T Q ↔ Ev d MX5_fromEnd [] 0 (lv_args 0 As) [] T Q := callQ_iff MX5_fromEnd mX5_fromEnd (by decide) hl
def MX6_init : MI := (yX6_init, cX6_init, 1, none, 7, false, 0)
theorem mX6_init : mth 79 = some MX6_init := rfl
theorem qX6_init {d : Nat} {As : List Value} {T : TS} {Q : Post} (hl : (lg_sl As).length ≤ 1) : CallQ (d + 1) 79 As T Q ↔ Ev d MX6_init [] 0 (lv_args 0 As) [] T Q := callQ_iff MX6_init mX6_init (by decide) hl
def MX6_append : MI := (yX6_append, cX6_append, 6, (some (.int)), 7, false, 3)
theorem mX6_append : mth 80 = some MX6_append := rfl
theorem qX6_append {d : Nat} {As : List Value} {T : TS} {Q : Post} (hl : (lg_sl As).length ≤ 6) : CallQ (d + 1) 80 As T Q ↔ Ev d MX6_append [] 0 (lv_args 0 As) [] T Q := callQ_iff MX6_append mX6_append (by decide) hl
def MX6_appendCopy : MI := (yX6_appendCopy, cX6_appendCopy, 6, (some (.int)), 7, false, 4)
theorem mX6_appendCopy : mth 81 = some MX6_appendCopy := rfl
theorem qX6_appendCopy {d : Nat} {As : List Value} {T : TS} {Q : Post} (hl : (lg_sl As).length ≤ 6) : CallQ (d + 1) 81 As T Q ↔ Ev d MX6_appendCopy [] 0 (lv_args 0 As) [] T Q := callQ_iff MX6_appendCopy mX6_appendCopy (by decide) hl
def MX6_insert : MI := (yX6_insert, cX6_insert, 3, (some (.int)), 7, false, 2)
theorem mX6_insert : mth 82 = some MX6_insert := rfl
theorem qX6_insert {d : Nat} {As : List Value} {T : TS} {Q : Post} (hl : (lg_sl As).length ≤ 3) : CallQ (d + 1) 82 As T Q ↔ Ev d MX6_insert [] 0 (lv_args 0 As) [] T Q := callQ_iff MX6_insert mX6_insert (by decide) hl
def MX6_cut : MI := (yX6_cut, cX6_cut, 3, (some (.int)), 7, false, 2)
theorem mX6_cut : mth 83 = some MX6_cut := rfl
theorem qX6_cut {d : Nat} {As : List Value} {T : TS} {Q : Post} (hl : (lg_sl As).length ≤ 3) : CallQ (d + 1) 83 As T Q ↔ Ev d MX6_cut [] 0 (lv_args 0 As) [] T Q := callQ_iff MX6_cut mX6_cut (by decide) hl
def MX6_clearDraft : MI := (yX6_clearDraft, cX6_clearDraft, 2, (some (.int)), 7, false, 0)
theorem mX6_clearDraft : mth 84 = some MX6_clearDraft := rfl
theorem qX6_clearDraft {d : Nat} {As : List Value} {T : TS} {Q : Post} (hl : (lg_sl As).length ≤ 2) : CallQ (d + 1) 84 As T Q ↔ Ev d MX6_clearDraft [] 0 (lv_args 0 As) [] T Q := callQ_iff MX6_clearDraft mX6_clearDraft (by decide) hl
def MX6_draftLength : MI := (yX6_draftLength, cX6_draftLength, 1, (some (.int)), 7, false, 0)
theorem mX6_draftLength : mth 85 = some MX6_draftLength := rfl
theorem qX6_draftLength {d : Nat} {As : List Value} {T : TS} {Q : Post} (hl : (lg_sl As).length ≤ 1) : CallQ (d + 1) 85 As T Q ↔ Ev d MX6_draftLength [] 0 (lv_args 0 As) [] T Q := callQ_iff MX6_draftLength mX6_draftLength (by decide) hl
def MX6_draftAt : MI := (yX6_draftAt, cX6_draftAt, 2, (some (.int)), 7, false, 1)
theorem mX6_draftAt : mth 86 = some MX6_draftAt := rfl
theorem qX6_draftAt {d : Nat} {As : List Value} {T : TS} {Q : Post} (hl : (lg_sl As).length ≤ 2) : CallQ (d + 1) 86 As T Q ↔ Ev d MX6_draftAt [] 0 (lv_args 0 As) [] T Q := callQ_iff MX6_draftAt mX6_draftAt (by decide) hl
def MX6_save : MI := (yX6_save, cX6_save, 6, (some (.int)), 7, false, 1)
theorem mX6_save : mth 87 = some MX6_save := rfl
theorem qX6_save {d : Nat} {As : List Value} {T : TS} {Q : Post} (hl : (lg_sl As).length ≤ 6) : CallQ (d + 1) 87 As T Q ↔ Ev d MX6_save [] 0 (lv_args 0 As) [] T Q := callQ_iff MX6_save mX6_save (by decide) hl
def MX6_wouldStore : MI := (yX6_wouldStore, cX6_wouldStore, 5, (some (.int)), 7, false, 0)
theorem mX6_wouldStore : mth 88 = some MX6_wouldStore := rfl
theorem qX6_wouldStore {d : Nat} {As : List Value} {T : TS} {Q : Post} (hl : (lg_sl As).length ≤ 5) : CallQ (d + 1) 88 As T Q ↔ Ev d MX6_wouldStore [] 0 (lv_args 0 As) [] T Q := callQ_iff MX6_wouldStore mX6_wouldStore (by decide) hl
def MX6_forget : MI := (yX6_forget, cX6_forget, 6, (some (.int)), 7, false, 2)
theorem mX6_forget : mth 89 = some MX6_forget := rfl
theorem qX6_forget {d : Nat} {As : List Value} {T : TS} {Q : Post} (hl : (lg_sl As).length ≤ 6) : CallQ (d + 1) 89 As T Q ↔ Ev d MX6_forget [] 0 (lv_args 0 As) [] T Q := callQ_iff MX6_forget mX6_forget (by decide) hl
def MX6_collect : MI := (yX6_collect, cX6_collect, 1, (some (.int)), 7, false, 0)
theorem mX6_collect : mth 90 = some MX6_collect := rfl
theorem qX6_collect {d : Nat} {As : List Value} {T : TS} {Q : Post} (hl : (lg_sl As).length ≤ 1) : CallQ (d + 1) 90 As T Q ↔ Ev d MX6_collect [] 0 (lv_args 0 As) [] T Q := callQ_iff MX6_collect mX6_collect (by decide) hl
def MX6_versions : MI := (yX6_versions, cX6_versions, 1, (some (.int)), 7, false, 0)
theorem mX6_versions : mth 91 = some MX6_versions := rfl
theorem qX6_versions {d : Nat} {As : List Value} {T : TS} {Q : Post} (hl : (lg_sl As).length ≤ 1) : CallQ (d + 1) 91 As T Q ↔ Ev d MX6_versions [] 0 (lv_args 0 As) [] T Q := callQ_iff MX6_versions mX6_versions (by decide) hl
def MX6_isKept : MI := (yX6_isKept, cX6_isKept, 3, (some (.boolean)), 7, false, 2)
theorem mX6_isKept : mth 92 = some MX6_isKept := rfl
theorem qX6_isKept {d : Nat} {As : List Value} {T : TS} {Q : Post} (hl : (lg_sl As).length ≤ 3) : CallQ (d + 1) 92 As T Q ↔ Ev d MX6_isKept [] 0 (lv_args 0 As) [] T Q := callQ_iff MX6_isKept mX6_isKept (by decide) hl
def MX6_latest : MI := (yX6_latest, cX6_latest, 2, (some (.int)), 7, false, 1)
theorem mX6_latest : mth 93 = some MX6_latest := rfl
theorem qX6_latest {d : Nat} {As : List Value} {T : TS} {Q : Post} (hl : (lg_sl As).length ≤ 2) : CallQ (d + 1) 93 As T Q ↔ Ev d MX6_latest [] 0 (lv_args 0 As) [] T Q := callQ_iff MX6_latest mX6_latest (by decide) hl
def MX6_length : MI := (yX6_length, cX6_length, 3, (some (.int)), 7, false, 2)
theorem mX6_length : mth 94 = some MX6_length := rfl
theorem qX6_length {d : Nat} {As : List Value} {T : TS} {Q : Post} (hl : (lg_sl As).length ≤ 3) : CallQ (d + 1) 94 As T Q ↔ Ev d MX6_length [] 0 (lv_args 0 As) [] T Q := callQ_iff MX6_length mX6_length (by decide) hl
def MX6_byteAt : MI := (yX6_byteAt, cX6_byteAt, 5, (some (.int)), 7, false, 3)
theorem mX6_byteAt : mth 95 = some MX6_byteAt := rfl
theorem qX6_byteAt {d : Nat} {As : List Value} {T : TS} {Q : Post} (hl : (lg_sl As).length ≤ 5) : CallQ (d + 1) 95 As T Q ↔ Ev d MX6_byteAt [] 0 (lv_args 0 As) [] T Q := callQ_iff MX6_byteAt mX6_byteAt (by decide) hl
def MX6_byteByCopy : MI := (yX6_byteByCopy, cX6_byteByCopy, 5, (some (.int)), 7, false, 3)
theorem mX6_byteByCopy : mth 96 = some MX6_byteByCopy := rfl
theorem qX6_byteByCopy {d : Nat} {As : List Value} {T : TS} {Q : Post} (hl : (lg_sl As).length ≤ 5) : CallQ (d + 1) 96 As T Q ↔ Ev d MX6_byteByCopy [] 0 (lv_args 0 As) [] T Q := callQ_iff MX6_byteByCopy mX6_byteByCopy (by decide) hl
def MX6_chunksOf : MI := (yX6_chunksOf, cX6_chunksOf, 3, (some (.int)), 7, false, 2)
theorem mX6_chunksOf : mth 97 = some MX6_chunksOf := rfl
theorem qX6_chunksOf {d : Nat} {As : List Value} {T : TS} {Q : Post} (hl : (lg_sl As).length ≤ 3) : CallQ (d + 1) 97 As T Q ↔ Ev d MX6_chunksOf [] 0 (lv_args 0 As) [] T Q := callQ_iff MX6_chunksOf mX6_chunksOf (by decide) hl
def MX6_chunkAt : MI := (yX6_chunkAt, cX6_chunkAt, 5, (some (.int)), 7, false, 3)
theorem mX6_chunkAt : mth 98 = some MX6_chunkAt := rfl
theorem qX6_chunkAt {d : Nat} {As : List Value} {T : TS} {Q : Post} (hl : (lg_sl As).length ≤ 5) : CallQ (d + 1) 98 As T Q ↔ Ev d MX6_chunkAt [] 0 (lv_args 0 As) [] T Q := callQ_iff MX6_chunkAt mX6_chunkAt (by decide) hl
def MX6_baseOf : MI := (yX6_baseOf, cX6_baseOf, 3, (some (.int)), 7, false, 2)
theorem mX6_baseOf : mth 99 = some MX6_baseOf := rfl
theorem qX6_baseOf {d : Nat} {As : List Value} {T : TS} {Q : Post} (hl : (lg_sl As).length ≤ 3) : CallQ (d + 1) 99 As T Q ↔ Ev d MX6_baseOf [] 0 (lv_args 0 As) [] T Q := callQ_iff MX6_baseOf mX6_baseOf (by decide) hl
def MX6_chainOf : MI := (yX6_chainOf, cX6_chainOf, 3, (some (.int)), 7, false, 2)
theorem mX6_chainOf : mth 100 = some MX6_chainOf := rfl
theorem qX6_chainOf {d : Nat} {As : List Value} {T : TS} {Q : Post} (hl : (lg_sl As).length ≤ 3) : CallQ (d + 1) 100 As T Q ↔ Ev d MX6_chainOf [] 0 (lv_args 0 As) [] T Q := callQ_iff MX6_chainOf mX6_chainOf (by decide) hl
def MX6_costOf : MI := (yX6_costOf, cX6_costOf, 3, (some (.int)), 7, false, 2)
theorem mX6_costOf : mth 101 = some MX6_costOf := rfl
theorem qX6_costOf {d : Nat} {As : List Value} {T : TS} {Q : Post} (hl : (lg_sl As).length ≤ 3) : CallQ (d + 1) 101 As T Q ↔ Ev d MX6_costOf [] 0 (lv_args 0 As) [] T Q := callQ_iff MX6_costOf mX6_costOf (by decide) hl
def MX6_isStored : MI := (yX6_isStored, cX6_isStored, 2, (some (.boolean)), 7, false, 1)
theorem mX6_isStored : mth 102 = some MX6_isStored := rfl
theorem qX6_isStored {d : Nat} {As : List Value} {T : TS} {Q : Post} (hl : (lg_sl As).length ≤ 2) : CallQ (d + 1) 102 As T Q ↔ Ev d MX6_isStored [] 0 (lv_args 0 As) [] T Q := callQ_iff MX6_isStored mX6_isStored (by decide) hl
def MX6_chunks : MI := (yX6_chunks, cX6_chunks, 1, (some (.int)), 7, false, 0)
theorem mX6_chunks : mth 103 = some MX6_chunks := rfl
theorem qX6_chunks {d : Nat} {As : List Value} {T : TS} {Q : Post} (hl : (lg_sl As).length ≤ 1) : CallQ (d + 1) 103 As T Q ↔ Ev d MX6_chunks [] 0 (lv_args 0 As) [] T Q := callQ_iff MX6_chunks mX6_chunks (by decide) hl
def MX6_chunkLength : MI := (yX6_chunkLength, cX6_chunkLength, 2, (some (.int)), 7, false, 1)
theorem mX6_chunkLength : mth 104 = some MX6_chunkLength := rfl
theorem qX6_chunkLength {d : Nat} {As : List Value} {T : TS} {Q : Post} (hl : (lg_sl As).length ≤ 2) : CallQ (d + 1) 104 As T Q ↔ Ev d MX6_chunkLength [] 0 (lv_args 0 As) [] T Q := callQ_iff MX6_chunkLength mX6_chunkLength (by decide) hl
def MX6_fingerprint : MI := (yX6_fingerprint, cX6_fingerprint, 2, (some (.int)), 7, false, 1)
theorem mX6_fingerprint : mth 105 = some MX6_fingerprint := rfl
theorem qX6_fingerprint {d : Nat} {As : List Value} {T : TS} {Q : Post} (hl : (lg_sl As).length ≤ 2) : CallQ (d + 1) 105 As T Q ↔ Ev d MX6_fingerprint [] 0 (lv_args 0 As) [] T Q := callQ_iff MX6_fingerprint mX6_fingerprint (by decide) hl
def MX6_references : MI := (yX6_references, cX6_references, 2, (some (.int)), 7, false, 1)
theorem mX6_references : mth 106 = some MX6_references := rfl
theorem qX6_references {d : Nat} {As : List Value} {T : TS} {Q : Post} (hl : (lg_sl As).length ≤ 2) : CallQ (d + 1) 106 As T Q ↔ Ev d MX6_references [] 0 (lv_args 0 As) [] T Q := callQ_iff MX6_references mX6_references (by decide) hl
def MX6_containerOf : MI := (yX6_containerOf, cX6_containerOf, 2, (some (.int)), 7, false, 1)
theorem mX6_containerOf : mth 107 = some MX6_containerOf := rfl
theorem qX6_containerOf {d : Nat} {As : List Value} {T : TS} {Q : Post} (hl : (lg_sl As).length ≤ 2) : CallQ (d + 1) 107 As T Q ↔ Ev d MX6_containerOf [] 0 (lv_args 0 As) [] T Q := callQ_iff MX6_containerOf mX6_containerOf (by decide) hl
def MX6_containers : MI := (yX6_containers, cX6_containers, 1, (some (.int)), 7, false, 0)
theorem mX6_containers : mth 108 = some MX6_containers := rfl
theorem qX6_containers {d : Nat} {As : List Value} {T : TS} {Q : Post} (hl : (lg_sl As).length ≤ 1) : CallQ (d + 1) 108 As T Q ↔ Ev d MX6_containers [] 0 (lv_args 0 As) [] T Q := callQ_iff MX6_containers mX6_containers (by decide) hl
def MX6_openContainer : MI := (yX6_openContainer, cX6_openContainer, 1, (some (.int)), 7, false, 0)
theorem mX6_openContainer : mth 109 = some MX6_openContainer := rfl
theorem qX6_openContainer {d : Nat} {As : List Value} {T : TS} {Q : Post} (hl : (lg_sl As).length ≤ 1) : CallQ (d + 1) 109 As T Q ↔ Ev d MX6_openContainer [] 0 (lv_args 0 As) [] T Q := callQ_iff MX6_openContainer mX6_openContainer (by decide) hl
def MX6_cached : MI := (yX6_cached, cX6_cached, 2, (some (.int)), 7, false, 1)
theorem mX6_cached : mth 110 = some MX6_cached := rfl
theorem qX6_cached {d : Nat} {As : List Value} {T : TS} {Q : Post} (hl : (lg_sl As).length ≤ 2) : CallQ (d + 1) 110 As T Q ↔ Ev d MX6_cached [] 0 (lv_args 0 As) [] T Q := callQ_iff MX6_cached mX6_cached (by decide) hl
def MX6_cacheHits : MI := (yX6_cacheHits, cX6_cacheHits, 1, (some (.int)), 7, false, 0)
theorem mX6_cacheHits : mth 111 = some MX6_cacheHits := rfl
theorem qX6_cacheHits {d : Nat} {As : List Value} {T : TS} {Q : Post} (hl : (lg_sl As).length ≤ 1) : CallQ (d + 1) 111 As T Q ↔ Ev d MX6_cacheHits [] 0 (lv_args 0 As) [] T Q := callQ_iff MX6_cacheHits mX6_cacheHits (by decide) hl
def MX6_indexReads : MI := (yX6_indexReads, cX6_indexReads, 1, (some (.int)), 7, false, 0)
theorem mX6_indexReads : mth 112 = some MX6_indexReads := rfl
theorem qX6_indexReads {d : Nat} {As : List Value} {T : TS} {Q : Post} (hl : (lg_sl As).length ≤ 1) : CallQ (d + 1) 112 As T Q ↔ Ev d MX6_indexReads [] 0 (lv_args 0 As) [] T Q := callQ_iff MX6_indexReads mX6_indexReads (by decide) hl
def MX6_storedBytes : MI := (yX6_storedBytes, cX6_storedBytes, 1, (some (.int)), 7, false, 0)
theorem mX6_storedBytes : mth 113 = some MX6_storedBytes := rfl
theorem qX6_storedBytes {d : Nat} {As : List Value} {T : TS} {Q : Post} (hl : (lg_sl As).length ≤ 1) : CallQ (d + 1) 113 As T Q ↔ Ev d MX6_storedBytes [] 0 (lv_args 0 As) [] T Q := callQ_iff MX6_storedBytes mX6_storedBytes (by decide) hl
def MX6_savedBytes : MI := (yX6_savedBytes, cX6_savedBytes, 3, (some (.int)), 7, false, 0)
theorem mX6_savedBytes : mth 114 = some MX6_savedBytes := rfl
theorem qX6_savedBytes {d : Nat} {As : List Value} {T : TS} {Q : Post} (hl : (lg_sl As).length ≤ 3) : CallQ (d + 1) 114 As T Q ↔ Ev d MX6_savedBytes [] 0 (lv_args 0 As) [] T Q := callQ_iff MX6_savedBytes mX6_savedBytes (by decide) hl
def MX6_garbage : MI := (yX6_garbage, cX6_garbage, 1, (some (.int)), 7, false, 0)
theorem mX6_garbage : mth 115 = some MX6_garbage := rfl
theorem qX6_garbage {d : Nat} {As : List Value} {T : TS} {Q : Post} (hl : (lg_sl As).length ≤ 1) : CallQ (d + 1) 115 As T Q ↔ Ev d MX6_garbage [] 0 (lv_args 0 As) [] T Q := callQ_iff MX6_garbage mX6_garbage (by decide) hl
def MX6_ratio : MI := (yX6_ratio, cX6_ratio, 2, (some (.double)), 7, false, 0)
theorem mX6_ratio : mth 116 = some MX6_ratio := rfl
theorem qX6_ratio {d : Nat} {As : List Value} {T : TS} {Q : Post} (hl : (lg_sl As).length ≤ 2) : CallQ (d + 1) 116 As T Q ↔ Ev d MX6_ratio [] 0 (lv_args 0 As) [] T Q := callQ_iff MX6_ratio mX6_ratio (by decide) hl
def MX6_noByteValue : MI := (yX6_noByteValue, cX6_noByteValue, 1, (some (.boolean)), 7, true, 1)
theorem mX6_noByteValue : mth 117 = some MX6_noByteValue := rfl
theorem qX6_noByteValue {d : Nat} {As : List Value} {T : TS} {Q : Post} (hl : (lg_sl As).length ≤ 1) : CallQ (d + 1) 117 As T Q ↔ Ev d MX6_noByteValue [] 0 (lv_args 0 As) [] T Q := callQ_iff MX6_noByteValue mX6_noByteValue (by decide) hl
def MX6_noPlace : MI := (yX6_noPlace, cX6_noPlace, 2, (some (.boolean)), 7, true, 2)
theorem mX6_noPlace : mth 118 = some MX6_noPlace := rfl
theorem qX6_noPlace {d : Nat} {As : List Value} {T : TS} {Q : Post} (hl : (lg_sl As).length ≤ 2) : CallQ (d + 1) 118 As T Q ↔ Ev d MX6_noPlace [] 0 (lv_args 0 As) [] T Q := callQ_iff MX6_noPlace mX6_noPlace (by decide) hl
def MX6_noSpan : MI := (yX6_noSpan, cX6_noSpan, 3, (some (.boolean)), 7, true, 3)
theorem mX6_noSpan : mth 119 = some MX6_noSpan := rfl
theorem qX6_noSpan {d : Nat} {As : List Value} {T : TS} {Q : Post} (hl : (lg_sl As).length ≤ 3) : CallQ (d + 1) 119 As T Q ↔ Ev d MX6_noSpan [] 0 (lv_args 0 As) [] T Q := callQ_iff MX6_noSpan mX6_noSpan (by decide) hl
def MX6_numberOf : MI := (yX6_numberOf, cX6_numberOf, 1, (some (.int)), 7, true, 1)
theorem mX6_numberOf : mth 120 = some MX6_numberOf := rfl
theorem qX6_numberOf {d : Nat} {As : List Value} {T : TS} {Q : Post} (hl : (lg_sl As).length ≤ 1) : CallQ (d + 1) 120 As T Q ↔ Ev d MX6_numberOf [] 0 (lv_args 0 As) [] T Q := callQ_iff MX6_numberOf mX6_numberOf (by decide) hl
def MX6_findVersion : MI := (yX6_findVersion, cX6_findVersion, 5, (some (.object "DedupVault$Version")), 7, false, 2)
theorem mX6_findVersion : mth 121 = some MX6_findVersion := rfl
theorem qX6_findVersion {d : Nat} {As : List Value} {T : TS} {Q : Post} (hl : (lg_sl As).length ≤ 5) : CallQ (d + 1) 121 As T Q ↔ Ev d MX6_findVersion [] 0 (lv_args 0 As) [] T Q := callQ_iff MX6_findVersion mX6_findVersion (by decide) hl
def MX6_demandVersion : MI := (yX6_demandVersion, cX6_demandVersion, 4, (some (.object "DedupVault$Version")), 7, false, 2)
theorem mX6_demandVersion : mth 122 = some MX6_demandVersion := rfl
theorem qX6_demandVersion {d : Nat} {As : List Value} {T : TS} {Q : Post} (hl : (lg_sl As).length ≤ 4) : CallQ (d + 1) 122 As T Q ↔ Ev d MX6_demandVersion [] 0 (lv_args 0 As) [] T Q := callQ_iff MX6_demandVersion mX6_demandVersion (by decide) hl
def MX6_demandChunk : MI := (yX6_demandChunk, cX6_demandChunk, 3, (some (.object "DedupVault$Chunk")), 7, false, 1)
theorem mX6_demandChunk : mth 123 = some MX6_demandChunk := rfl
theorem qX6_demandChunk {d : Nat} {As : List Value} {T : TS} {Q : Post} (hl : (lg_sl As).length ≤ 3) : CallQ (d + 1) 123 As T Q ↔ Ev d MX6_demandChunk [] 0 (lv_args 0 As) [] T Q := callQ_iff MX6_demandChunk mX6_demandChunk (by decide) hl
def MX6_latestKept : MI := (yX6_latestKept, cX6_latestKept, 4, (some (.object "DedupVault$Version")), 7, false, 1)
theorem mX6_latestKept : mth 124 = some MX6_latestKept := rfl
theorem qX6_latestKept {d : Nat} {As : List Value} {T : TS} {Q : Post} (hl : (lg_sl As).length ≤ 4) : CallQ (d + 1) 124 As T Q ↔ Ev d MX6_latestKept [] 0 (lv_args 0 As) [] T Q := callQ_iff MX6_latestKept mX6_latestKept (by decide) hl
def MX6_piecesOf : MI := (yX6_piecesOf, cX6_piecesOf, 4, (some (.object "java/util/ArrayList")), 7, true, 1)
theorem mX6_piecesOf : mth 125 = some MX6_piecesOf := rfl
theorem qX6_piecesOf {d : Nat} {As : List Value} {T : TS} {Q : Post} (hl : (lg_sl As).length ≤ 4) : CallQ (d + 1) 125 As T Q ↔ Ev d MX6_piecesOf [] 0 (lv_args 0 As) [] T Q := callQ_iff MX6_piecesOf mX6_piecesOf (by decide) hl
def MX6_endsPiece : MI := (yX6_endsPiece, cX6_endsPiece, 4, (some (.boolean)), 7, true, 3)
theorem mX6_endsPiece : mth 126 = some MX6_endsPiece := rfl
theorem qX6_endsPiece {d : Nat} {As : List Value} {T : TS} {Q : Post} (hl : (lg_sl As).length ≤ 4) : CallQ (d + 1) 126 As T Q ↔ Ev d MX6_endsPiece [] 0 (lv_args 0 As) [] T Q := callQ_iff MX6_endsPiece mX6_endsPiece (by decide) hl
def MX6_windowSum : MI := (yX6_windowSum, cX6_windowSum, 4, (some (.int)), 7, true, 2)
theorem mX6_windowSum : mth 127 = some MX6_windowSum := rfl
theorem qX6_windowSum {d : Nat} {As : List Value} {T : TS} {Q : Post} (hl : (lg_sl As).length ≤ 4) : CallQ (d + 1) 127 As T Q ↔ Ev d MX6_windowSum [] 0 (lv_args 0 As) [] T Q := callQ_iff MX6_windowSum mX6_windowSum (by decide) hl
def MX6_cameBefore : MI := (yX6_cameBefore, cX6_cameBefore, 3, (some (.boolean)), 7, true, 2)
theorem mX6_cameBefore : mth 128 = some MX6_cameBefore := rfl
theorem qX6_cameBefore {d : Nat} {As : List Value} {T : TS} {Q : Post} (hl : (lg_sl As).length ≤ 3) : CallQ (d + 1) 128 As T Q ↔ Ev d MX6_cameBefore [] 0 (lv_args 0 As) [] T Q := callQ_iff MX6_cameBefore mX6_cameBefore (by decide) hl
def ML_draw : MI := (yL_draw, cL_draw, 4, (some (.int)), 9, true, 3)
theorem mL_draw : mth 129 = some ML_draw := rfl
theorem qL_draw {d : Nat} {As : List Value} {T : TS} {Q : Post} (hl : (lg_sl As).length ≤ 4) : CallQ (d + 1) 129 As T Q ↔ Ev d ML_draw [] 0 (lv_args 0 As) [] T Q := callQ_iff ML_draw mL_draw (by decide) hl
def ML_isIn : MI := (yL_isIn, cL_isIn, 3, (some (.boolean)), 9, true, 2)
theorem mL_isIn : mth 130 = some ML_isIn := rfl
theorem qL_isIn {d : Nat} {As : List Value} {T : TS} {Q : Post} (hl : (lg_sl As).length ≤ 3) : CallQ (d + 1) 130 As T Q ↔ Ev d ML_isIn [] 0 (lv_args 0 As) [] T Q := callQ_iff ML_isIn mL_isIn (by decide) hl
def ML_many : MI := (yL_many, cL_many, 3, (some (.int)), 9, true, 1)
theorem mL_many : mth 131 = some ML_many := rfl
theorem qL_many {d : Nat} {As : List Value} {T : TS} {Q : Post} (hl : (lg_sl As).length ≤ 3) : CallQ (d + 1) 131 As T Q ↔ Ev d ML_many [] 0 (lv_args 0 As) [] T Q := callQ_iff ML_many mL_many (by decide) hl
def ML_kept : MI := (yL_kept, cL_kept, 4, (some (.int)), 9, true, 3)
theorem mL_kept : mth 132 = some ML_kept := rfl
theorem qL_kept {d : Nat} {As : List Value} {T : TS} {Q : Post} (hl : (lg_sl As).length ≤ 4) : CallQ (d + 1) 132 As T Q ↔ Ev d ML_kept [] 0 (lv_args 0 As) [] T Q := callQ_iff ML_kept mL_kept (by decide) hl
def ML_isVersion : MI := (yL_isVersion, cL_isVersion, 10, (some (.boolean)), 9, true, 3)
theorem mL_isVersion : mth 133 = some ML_isVersion := rfl
theorem qL_isVersion {d : Nat} {As : List Value} {T : TS} {Q : Post} (hl : (lg_sl As).length ≤ 10) : CallQ (d + 1) 133 As T Q ↔ Ev d ML_isVersion [] 0 (lv_args 0 As) [] T Q := callQ_iff ML_isVersion mL_isVersion (by decide) hl
def ML_isListed : MI := (yL_isListed, cL_isListed, 10, (some (.boolean)), 9, true, 4)
theorem mL_isListed : mth 134 = some ML_isListed := rfl
theorem qL_isListed {d : Nat} {As : List Value} {T : TS} {Q : Post} (hl : (lg_sl As).length ≤ 10) : CallQ (d + 1) 134 As T Q ↔ Ev d ML_isListed [] 0 (lv_args 0 As) [] T Q := callQ_iff ML_isListed mL_isListed (by decide) hl
def ML_areUnlike : MI := (yL_areUnlike, cL_areUnlike, 18, (some (.boolean)), 9, true, 7)
theorem mL_areUnlike : mth 135 = some ML_areUnlike := rfl
theorem qL_areUnlike {d : Nat} {As : List Value} {T : TS} {Q : Post} (hl : (lg_sl As).length ≤ 18) : CallQ (d + 1) 135 As T Q ↔ Ev d ML_areUnlike [] 0 (lv_args 0 As) [] T Q := callQ_iff ML_areUnlike mL_areUnlike (by decide) hl
def ML_areVersions : MI := (yL_areVersions, cL_areVersions, 11, (some (.boolean)), 9, true, 4)
theorem mL_areVersions : mth 136 = some ML_areVersions := rfl
theorem qL_areVersions {d : Nat} {As : List Value} {T : TS} {Q : Post} (hl : (lg_sl As).length ≤ 11) : CallQ (d + 1) 136 As T Q ↔ Ev d ML_areVersions [] 0 (lv_args 0 As) [] T Q := callQ_iff ML_areVersions mL_areVersions (by decide) hl
def ML_uses : MI := (yL_uses, cL_uses, 7, (some (.int)), 9, true, 3)
theorem mL_uses : mth 137 = some ML_uses := rfl
theorem qL_uses {d : Nat} {As : List Value} {T : TS} {Q : Post} (hl : (lg_sl As).length ≤ 7) : CallQ (d + 1) 137 As T Q ↔ Ev d ML_uses [] 0 (lv_args 0 As) [] T Q := callQ_iff ML_uses mL_uses (by decide) hl
def ML_areChunks : MI := (yL_areChunks, cL_areChunks, 10, (some (.boolean)), 9, true, 2)
theorem mL_areChunks : mth 138 = some ML_areChunks := rfl
theorem qL_areChunks {d : Nat} {As : List Value} {T : TS} {Q : Post} (hl : (lg_sl As).length ≤ 10) : CallQ (d + 1) 138 As T Q ↔ Ev d ML_areChunks [] 0 (lv_args 0 As) [] T Q := callQ_iff ML_areChunks mL_areChunks (by decide) hl
def ML_isCache : MI := (yL_isCache, cL_isCache, 5, (some (.boolean)), 9, true, 1)
theorem mL_isCache : mth 139 = some ML_isCache := rfl
theorem qL_isCache {d : Nat} {As : List Value} {T : TS} {Q : Post} (hl : (lg_sl As).length ≤ 5) : CallQ (d + 1) 139 As T Q ↔ Ev d ML_isCache [] 0 (lv_args 0 As) [] T Q := callQ_iff ML_isCache mL_isCache (by decide) hl
def ML_saves : MI := (yL_saves, cL_saves, 13, (some (.boolean)), 9, true, 4)
theorem mL_saves : mth 140 = some ML_saves := rfl
theorem qL_saves {d : Nat} {As : List Value} {T : TS} {Q : Post} (hl : (lg_sl As).length ≤ 13) : CallQ (d + 1) 140 As T Q ↔ Ev d ML_saves [] 0 (lv_args 0 As) [] T Q := callQ_iff ML_saves mL_saves (by decide) hl
def ML_forgets : MI := (yL_forgets, cL_forgets, 6, (some (.boolean)), 9, true, 4)
theorem mL_forgets : mth 141 = some ML_forgets := rfl
theorem qL_forgets {d : Nat} {As : List Value} {T : TS} {Q : Post} (hl : (lg_sl As).length ≤ 6) : CallQ (d + 1) 141 As T Q ↔ Ev d ML_forgets [] 0 (lv_args 0 As) [] T Q := callQ_iff ML_forgets mL_forgets (by decide) hl
def ML_collects : MI := (yL_collects, cL_collects, 12, (some (.boolean)), 9, true, 2)
theorem mL_collects : mth 142 = some ML_collects := rfl
theorem qL_collects {d : Nat} {As : List Value} {T : TS} {Q : Post} (hl : (lg_sl As).length ≤ 12) : CallQ (d + 1) 142 As T Q ↔ Ev d ML_collects [] 0 (lv_args 0 As) [] T Q := callQ_iff ML_collects mL_collects (by decide) hl
def ML_drafts : MI := (yL_drafts, cL_drafts, 11, (some (.boolean)), 9, true, 5)
theorem mL_drafts : mth 143 = some ML_drafts := rfl
theorem qL_drafts {d : Nat} {As : List Value} {T : TS} {Q : Post} (hl : (lg_sl As).length ≤ 11) : CallQ (d + 1) 143 As T Q ↔ Ev d ML_drafts [] 0 (lv_args 0 As) [] T Q := callQ_iff ML_drafts mL_drafts (by decide) hl
def ML_vault : MI := (yL_vault, cL_vault, 12, (some (.boolean)), 9, true, 2)
theorem mL_vault : mth 144 = some ML_vault := rfl
theorem qL_vault {d : Nat} {As : List Value} {T : TS} {Q : Post} (hl : (lg_sl As).length ≤ 12) : CallQ (d + 1) 144 As T Q ↔ Ev d ML_vault [] 0 (lv_args 0 As) [] T Q := callQ_iff ML_vault mL_vault (by decide) hl
theorem f_1_7 : fldOf 1 7 = some (1, 0) := by decide +kernel
theorem f_1_13 : fldOf 1 13 = some (1, 1) := by decide +kernel
theorem f_1_17 : fldOf 1 17 = some (1, 2) := by decide +kernel
theorem f_1_21 : fldOf 1 21 = some (1, 3) := by decide +kernel
theorem f_2_9 : fldOf 2 9 = some (2, 0) := by decide +kernel
theorem f_2_18 : fldOf 2 18 = some (2, 1) := by decide +kernel
theorem f_2_22 : fldOf 2 22 = some (2, 2) := by decide +kernel
theorem f_3_9 : fldOf 3 9 = some (3, 0) := by decide +kernel
theorem f_3_15 : fldOf 3 15 = some (3, 1) := by decide +kernel
theorem f_3_19 : fldOf 3 19 = some (3, 2) := by decide +kernel
theorem f_3_26 : fldOf 3 26 = some (3, 3) := by decide +kernel
theorem f_4_7 : fldOf 4 7 = some (4, 0) := by decide +kernel
theorem f_4_13 : fldOf 4 13 = some (4, 1) := by decide +kernel
theorem f_5_12 : fldOf 5 12 = some (5, 0) := by decide +kernel
theorem f_5_18 : fldOf 5 18 = some (5, 1) := by decide +kernel
theorem f_5_26 : fldOf 5 26 = some (5, 2) := by decide +kernel
theorem f_5_34 : fldOf 5 34 = some (5, 3) := by decide +kernel
theorem f_5_38 : fldOf 5 38 = some (5, 4) := by decide +kernel
theorem f_5_41 : fldOf 5 41 = some (5, 5) := by decide +kernel
theorem f_6_9 : fldOf 6 9 = some (6, 0) := by decide +kernel
theorem f_6_15 : fldOf 6 15 = some (6, 1) := by decide +kernel
theorem f_6_27 : fldOf 6 27 = some (6, 2) := by decide +kernel
theorem f_6_38 : fldOf 6 38 = some (6, 3) := by decide +kernel
theorem f_6_42 : fldOf 6 42 = some (6, 4) := by decide +kernel
theorem f_7_14 : fldOf 7 14 = some (7, 0) := by decide +kernel
theorem f_7_21 : fldOf 7 21 = some (7, 1) := by decide +kernel
theorem f_7_25 : fldOf 7 25 = some (7, 2) := by decide +kernel
theorem f_7_32 : fldOf 7 32 = some (7, 3) := by decide +kernel
theorem f_7_36 : fldOf 7 36 = some (7, 4) := by decide +kernel
theorem c_1_1 : callOf 1 1 = some (4, 0) := by decide +kernel
theorem c_2_3 : callOf 2 3 = some (4, 0) := by decide +kernel
theorem c_2_17 : callOf 2 17 = some (3, 0) := by decide +kernel
theorem c_2_25 : callOf 2 25 = some (0, 3) := by decide +kernel
theorem c_2_29 : callOf 2 29 = some (0, 32) := by decide +kernel
theorem c_2_32 : callOf 2 32 = some (0, 7) := by decide +kernel
theorem c_2_36 : callOf 2 36 = some (0, 15) := by decide +kernel
theorem c_2_42 : callOf 2 42 = some (0, 17) := by decide +kernel
theorem c_2_46 : callOf 2 46 = some (0, 5) := by decide +kernel
theorem c_2_50 : callOf 2 50 = some (0, 36) := by decide +kernel
theorem c_2_54 : callOf 2 54 = some (0, 14) := by decide +kernel
theorem c_2_56 : callOf 2 56 = some (0, 18) := by decide +kernel
theorem c_3_3 : callOf 3 3 = some (4, 0) := by decide +kernel
theorem c_3_22 : callOf 3 22 = some (1, 31) := by decide +kernel
theorem c_3_29 : callOf 3 29 = some (0, 39) := by decide +kernel
theorem c_3_35 : callOf 3 35 = some (3, 37) := by decide +kernel
theorem c_3_38 : callOf 3 38 = some (0, 41) := by decide +kernel
theorem c_3_42 : callOf 3 42 = some (3, 30) := by decide +kernel
theorem c_4_1 : callOf 4 1 = some (4, 0) := by decide +kernel
theorem c_4_17 : callOf 4 17 = some (0, 42) := by decide +kernel
theorem c_4_21 : callOf 4 21 = some (0, 39) := by decide +kernel
theorem c_4_25 : callOf 4 25 = some (0, 40) := by decide +kernel
theorem c_4_29 : callOf 4 29 = some (2, 119) := by decide +kernel
theorem c_5_3 : callOf 5 3 = some (4, 0) := by decide +kernel
theorem c_5_11 : callOf 5 11 = some (3, 0) := by decide +kernel
theorem c_5_23 : callOf 5 23 = some (3, 20) := by decide +kernel
theorem c_5_30 : callOf 5 30 = some (0, 7) := by decide +kernel
theorem c_5_44 : callOf 5 44 = some (0, 3) := by decide +kernel
theorem c_5_48 : callOf 5 48 = some (0, 21) := by decide +kernel
theorem c_5_51 : callOf 5 51 = some (2, 118) := by decide +kernel
theorem c_5_55 : callOf 5 55 = some (0, 5) := by decide +kernel
theorem c_5_59 : callOf 5 59 = some (1, 56) := by decide +kernel
theorem c_5_63 : callOf 5 63 = some (0, 27) := by decide +kernel
theorem c_5_67 : callOf 5 67 = some (0, 23) := by decide +kernel
theorem c_5_70 : callOf 5 70 = some (0, 22) := by decide +kernel
theorem c_5_73 : callOf 5 73 = some (0, 29) := by decide +kernel
theorem c_5_76 : callOf 5 76 = some (0, 57) := by decide +kernel
theorem c_5_80 : callOf 5 80 = some (0, 16) := by decide +kernel
theorem c_5_86 : callOf 5 86 = some (0, 59) := by decide +kernel
theorem c_5_90 : callOf 5 90 = some (0, 26) := by decide +kernel
theorem c_5_93 : callOf 5 93 = some (0, 58) := by decide +kernel
theorem c_5_97 : callOf 5 97 = some (0, 35) := by decide +kernel
theorem c_5_103 : callOf 5 103 = some (3, 13) := by decide +kernel
theorem c_5_106 : callOf 5 106 = some (0, 25) := by decide +kernel
theorem c_5_110 : callOf 5 110 = some (0, 24) := by decide +kernel
theorem c_5_114 : callOf 5 114 = some (0, 60) := by decide +kernel
theorem c_5_117 : callOf 5 117 = some (0, 8) := by decide +kernel
theorem c_5_120 : callOf 5 120 = some (0, 9) := by decide +kernel
theorem c_5_123 : callOf 5 123 = some (0, 62) := by decide +kernel
theorem c_5_126 : callOf 5 126 = some (0, 28) := by decide +kernel
theorem c_5_130 : callOf 5 130 = some (0, 15) := by decide +kernel
theorem c_6_3 : callOf 6 3 = some (4, 0) := by decide +kernel
theorem c_6_20 : callOf 6 20 = some (0, 38) := by decide +kernel
theorem c_6_24 : callOf 6 24 = some (3, 37) := by decide +kernel
theorem c_6_31 : callOf 6 31 = some (0, 41) := by decide +kernel
theorem c_6_37 : callOf 6 37 = some (3, 0) := by decide +kernel
theorem c_6_46 : callOf 6 46 = some (0, 3) := by decide +kernel
theorem c_6_47 : callOf 6 47 = some (2, 118) := by decide +kernel
theorem c_6_51 : callOf 6 51 = some (0, 5) := by decide +kernel
theorem c_6_57 : callOf 6 57 = some (0, 14) := by decide +kernel
theorem c_6_59 : callOf 6 59 = some (0, 7) := by decide +kernel
theorem c_6_63 : callOf 6 63 = some (0, 19) := by decide +kernel
theorem c_6_66 : callOf 6 66 = some (0, 15) := by decide +kernel
theorem c_6_70 : callOf 6 70 = some (0, 32) := by decide +kernel
theorem c_6_73 : callOf 6 73 = some (0, 34) := by decide +kernel
theorem c_6_76 : callOf 6 76 = some (0, 77) := by decide +kernel
theorem c_6_80 : callOf 6 80 = some (0, 73) := by decide +kernel
theorem c_6_83 : callOf 6 83 = some (5, 0) := by decide +kernel
theorem c_6_89 : callOf 6 89 = some (0, 69) := by decide +kernel
theorem c_6_92 : callOf 6 92 = some (0, 78) := by decide +kernel
theorem c_7_1 : callOf 7 1 = some (4, 0) := by decide +kernel
theorem c_7_11 : callOf 7 11 = some (3, 37) := by decide +kernel
theorem c_7_20 : callOf 7 20 = some (3, 0) := by decide +kernel
theorem c_7_31 : callOf 7 31 = some (3, 44) := by decide +kernel
theorem c_7_40 : callOf 7 40 = some (1, 117) := by decide +kernel
theorem c_7_47 : callOf 7 47 = some (0, 38) := by decide +kernel
theorem c_7_54 : callOf 7 54 = some (0, 40) := by decide +kernel
theorem c_7_57 : callOf 7 57 = some (0, 122) := by decide +kernel
theorem c_7_61 : callOf 7 61 = some (0, 66) := by decide +kernel
theorem c_7_67 : callOf 7 67 = some (1, 119) := by decide +kernel
theorem c_7_74 : callOf 7 74 = some (0, 41) := by decide +kernel
theorem c_7_78 : callOf 7 78 = some (0, 42) := by decide +kernel
theorem c_7_82 : callOf 7 82 = some (0, 43) := by decide +kernel
theorem c_7_85 : callOf 7 85 = some (1, 118) := by decide +kernel
theorem c_7_89 : callOf 7 89 = some (0, 39) := by decide +kernel
theorem c_7_93 : callOf 7 93 = some (0, 3) := by decide +kernel
theorem c_7_94 : callOf 7 94 = some (3, 63) := by decide +kernel
theorem c_7_97 : callOf 7 97 = some (1, 125) := by decide +kernel
theorem c_7_101 : callOf 7 101 = some (0, 5) := by decide +kernel
theorem c_7_106 : callOf 7 106 = some (0, 55) := by decide +kernel
theorem c_7_110 : callOf 7 110 = some (0, 70) := by decide +kernel
theorem c_7_114 : callOf 7 114 = some (0, 124) := by decide +kernel
theorem c_7_118 : callOf 7 118 = some (0, 75) := by decide +kernel
theorem c_7_122 : callOf 7 122 = some (0, 7) := by decide +kernel
theorem c_7_125 : callOf 7 125 = some (1, 128) := by decide +kernel
theorem c_7_129 : callOf 7 129 = some (0, 50) := by decide +kernel
theorem c_7_133 : callOf 7 133 = some (0, 32) := by decide +kernel
theorem c_7_134 : callOf 7 134 = some (0, 9) := by decide +kernel
theorem c_7_137 : callOf 7 137 = some (0, 76) := by decide +kernel
theorem c_7_140 : callOf 7 140 = some (0, 71) := by decide +kernel
theorem c_7_143 : callOf 7 143 = some (0, 61) := by decide +kernel
theorem c_7_146 : callOf 7 146 = some (0, 121) := by decide +kernel
theorem c_7_149 : callOf 7 149 = some (1, 120) := by decide +kernel
theorem c_7_153 : callOf 7 153 = some (0, 72) := by decide +kernel
theorem c_7_156 : callOf 7 156 = some (0, 68) := by decide +kernel
theorem c_7_159 : callOf 7 159 = some (0, 69) := by decide +kernel
theorem c_7_162 : callOf 7 162 = some (0, 67) := by decide +kernel
theorem c_7_166 : callOf 7 166 = some (0, 73) := by decide +kernel
theorem c_7_169 : callOf 7 169 = some (0, 74) := by decide +kernel
theorem c_7_172 : callOf 7 172 = some (0, 51) := by decide +kernel
theorem c_7_176 : callOf 7 176 = some (0, 52) := by decide +kernel
theorem c_7_179 : callOf 7 179 = some (0, 123) := by decide +kernel
theorem c_7_182 : callOf 7 182 = some (0, 15) := by decide +kernel
theorem c_7_188 : callOf 7 188 = some (0, 33) := by decide +kernel
theorem c_7_191 : callOf 7 191 = some (0, 18) := by decide +kernel
theorem c_7_194 : callOf 7 194 = some (0, 16) := by decide +kernel
theorem c_7_198 : callOf 7 198 = some (0, 21) := by decide +kernel
theorem c_7_203 : callOf 7 203 = some (0, 47) := by decide +kernel
theorem c_7_206 : callOf 7 206 = some (0, 48) := by decide +kernel
theorem c_7_209 : callOf 7 209 = some (0, 49) := by decide +kernel
theorem c_7_212 : callOf 7 212 = some (0, 45) := by decide +kernel
theorem c_7_215 : callOf 7 215 = some (0, 46) := by decide +kernel
theorem c_7_218 : callOf 7 218 = some (0, 53) := by decide +kernel
theorem c_7_221 : callOf 7 221 = some (0, 54) := by decide +kernel
theorem c_7_224 : callOf 7 224 = some (0, 114) := by decide +kernel
theorem c_7_227 : callOf 7 227 = some (0, 65) := by decide +kernel
theorem c_7_228 : callOf 7 228 = some (0, 64) := by decide +kernel
theorem c_7_231 : callOf 7 231 = some (1, 126) := by decide +kernel
theorem c_7_235 : callOf 7 235 = some (3, 30) := by decide +kernel
theorem c_7_237 : callOf 7 237 = some (1, 127) := by decide +kernel
theorem c_7_241 : callOf 7 241 = some (0, 36) := by decide +kernel
theorem c_9_10 : callOf 9 10 = some (1, 130) := by decide +kernel
theorem c_9_16 : callOf 9 16 = some (0, 94) := by decide +kernel
theorem c_9_22 : callOf 9 22 = some (0, 95) := by decide +kernel
theorem c_9_26 : callOf 9 26 = some (0, 96) := by decide +kernel
theorem c_9_29 : callOf 9 29 = some (0, 97) := by decide +kernel
theorem c_9_32 : callOf 9 32 = some (0, 98) := by decide +kernel
theorem c_9_35 : callOf 9 35 = some (0, 104) := by decide +kernel
theorem c_9_39 : callOf 9 39 = some (0, 99) := by decide +kernel
theorem c_9_42 : callOf 9 42 = some (0, 100) := by decide +kernel
theorem c_9_45 : callOf 9 45 = some (0, 101) := by decide +kernel
theorem c_9_48 : callOf 9 48 = some (0, 105) := by decide +kernel
theorem c_9_51 : callOf 9 51 = some (0, 92) := by decide +kernel
theorem c_9_55 : callOf 9 55 = some (1, 134) := by decide +kernel
theorem c_9_59 : callOf 9 59 = some (0, 93) := by decide +kernel
theorem c_9_62 : callOf 9 62 = some (1, 132) := by decide +kernel
theorem c_9_66 : callOf 9 66 = some (0, 91) := by decide +kernel
theorem c_9_70 : callOf 9 70 = some (0, 114) := by decide +kernel
theorem c_9_73 : callOf 9 73 = some (1, 133) := by decide +kernel
theorem c_9_77 : callOf 9 77 = some (1, 135) := by decide +kernel
theorem c_9_81 : callOf 9 81 = some (0, 109) := by decide +kernel
theorem c_9_84 : callOf 9 84 = some (0, 102) := by decide +kernel
theorem c_9_88 : callOf 9 88 = some (0, 107) := by decide +kernel
theorem c_9_91 : callOf 9 91 = some (0, 106) := by decide +kernel
theorem c_9_94 : callOf 9 94 = some (1, 137) := by decide +kernel
theorem c_9_98 : callOf 9 98 = some (0, 103) := by decide +kernel
theorem c_9_101 : callOf 9 101 = some (0, 113) := by decide +kernel
theorem c_9_104 : callOf 9 104 = some (0, 115) := by decide +kernel
theorem c_9_107 : callOf 9 107 = some (0, 108) := by decide +kernel
theorem c_9_110 : callOf 9 110 = some (0, 116) := by decide +kernel
theorem c_9_114 : callOf 9 114 = some (0, 110) := by decide +kernel
theorem c_9_117 : callOf 9 117 = some (0, 88) := by decide +kernel
theorem c_9_120 : callOf 9 120 = some (0, 111) := by decide +kernel
theorem c_9_123 : callOf 9 123 = some (0, 112) := by decide +kernel
theorem c_9_126 : callOf 9 126 = some (0, 87) := by decide +kernel
theorem c_9_129 : callOf 9 129 = some (0, 85) := by decide +kernel
theorem c_9_132 : callOf 9 132 = some (0, 86) := by decide +kernel
theorem c_9_137 : callOf 9 137 = some (0, 89) := by decide +kernel
theorem c_9_140 : callOf 9 140 = some (1, 131) := by decide +kernel
theorem c_9_144 : callOf 9 144 = some (0, 90) := by decide +kernel
theorem c_9_147 : callOf 9 147 = some (0, 80) := by decide +kernel
theorem c_9_150 : callOf 9 150 = some (0, 81) := by decide +kernel
theorem c_9_154 : callOf 9 154 = some (0, 82) := by decide +kernel
theorem c_9_157 : callOf 9 157 = some (0, 83) := by decide +kernel
theorem c_9_160 : callOf 9 160 = some (3, 79) := by decide +kernel
theorem c_9_162 : callOf 9 162 = some (1, 129) := by decide +kernel
theorem c_9_166 : callOf 9 166 = some (1, 143) := by decide +kernel
theorem c_9_170 : callOf 9 170 = some (1, 140) := by decide +kernel
theorem c_9_173 : callOf 9 173 = some (1, 141) := by decide +kernel
theorem c_9_176 : callOf 9 176 = some (1, 142) := by decide +kernel
theorem c_9_180 : callOf 9 180 = some (0, 84) := by decide +kernel
theorem c_9_183 : callOf 9 183 = some (1, 136) := by decide +kernel
theorem c_9_186 : callOf 9 186 = some (1, 138) := by decide +kernel
theorem c_9_189 : callOf 9 189 = some (1, 139) := by decide +kernel
theorem c_9_193 : callOf 9 193 = some (1, 144) := by decide +kernel
theorem k_2_15 : clOf 2 15 = some 0 := by decide +kernel
theorem k_2_37 : clOf 2 37 = some 1 := by decide +kernel
theorem k_3_10 : clOf 3 10 = some 3 := by decide +kernel
theorem k_3_30 : clOf 3 30 = some 4 := by decide +kernel
theorem k_5_9 : clOf 5 9 = some 0 := by decide +kernel
theorem k_5_21 : clOf 5 21 = some 2 := by decide +kernel
theorem k_5_81 : clOf 5 81 = some 1 := by decide +kernel
theorem k_6_18 : clOf 6 18 = some 4 := by decide +kernel
theorem k_6_35 : clOf 6 35 = some 0 := by decide +kernel
theorem k_6_55 : clOf 6 55 = some 1 := by decide +kernel
theorem k_7_7 : clOf 7 7 = some 4 := by decide +kernel
theorem k_7_18 : clOf 7 18 = some 0 := by decide +kernel
theorem k_7_29 : clOf 7 29 = some 5 := by decide +kernel
theorem k_7_44 : clOf 7 44 = some 100 := by decide +kernel
theorem k_7_51 : clOf 7 51 = some 101 := by decide +kernel
theorem k_7_62 : clOf 7 62 = some 6 := by decide +kernel
theorem k_7_71 : clOf 7 71 = some 102 := by decide +kernel
theorem k_7_104 : clOf 7 104 = some 3 := by decide +kernel
theorem k_9_17 : clOf 9 17 = some 7 := by decide +kernel
