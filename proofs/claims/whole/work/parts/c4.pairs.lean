section
variable {D : Nat → Nat → Int32} {E : Nat → Nat → Int64} {c : mm_M} {d s p : Nat}
theorem T3 (h : WI D E c s p) (hd : 70 ≤ d) {x y : Int32} : PR d 106 [some (.ref 100), some (.int x), some (.int y), none] 199 [some (.ref 316), some (.int x), some (.int y)] c := by
  obtain ⟨x, rfl, x_0, x_1⟩ := iI_of x
  obtain ⟨y, rfl, y_0, y_1⟩ := iI_of y
  exact q_pair h (C106 (WI.rq h) h.iS h.iL h.iB (by omega) x_0 x_1 y_0 y_1) (fun m hm => M199 hm h.iS h.iL h.iB (by omega) x_0 x_1 y_0 y_1)
theorem T4 (h : WI D E c s p) (hd : 70 ≤ d) {x : Int32} : PR d 108 [some (.ref 100), some (.int x)] 214 [some (.ref 316), some (.int x)] c := by
  obtain ⟨x, rfl, x_0, x_1⟩ := iI_of x
  exact q_pair h ⟨c, C108 (WI.rq h) h.iS (by omega) x_0 x_1, FC.rf⟩ (fun m hm => M214 hm h.iS (by omega) x_0 x_1)
theorem T10 (h : WI D E c s p) (hd : 70 ≤ d) {x : Int32} : PR d 117 [some (.ref 100), some (.int x), none, none, none] 225 [some (.ref 316), some (.int x), none, none, none, none, none, none] c := by
  obtain ⟨x, rfl, x_0, x_1⟩ := iI_of x
  exact q_pair h (C117 (WI.rq h) h.iS h.iL h.iN h.1.2.1 h.1.2.2.1 h.1.2.2.2.1 (by omega) x_0 x_1) (fun m hm => M225 hm h.iS h.iL h.iN (by omega) x_0 x_1)
theorem T11 (h : WI D E c s p) (hd : 70 ≤ d) {x y : Int32} : PR d 118 [some (.ref 100), some (.int x), some (.int y)] 233 [some (.ref 316), some (.int x), some (.int y)] c := by
  obtain ⟨x, rfl, x_0, x_1⟩ := iI_of x
  obtain ⟨y, rfl, y_0, y_1⟩ := iI_of y
  exact q_pair h ⟨c, C118 (WI.rq h) h.iS h.iL h.iB (by omega) x_0 x_1 y_0 y_1, FC.rf⟩ (fun m hm => M233 hm h.iS h.iL h.iB (by omega) x_0 x_1 y_0 y_1)
theorem T12 (h : WI D E c s p) (hd : 70 ≤ d) {x y : Int32} : PR d 120 [some (.ref 100), some (.int x), some (.int y)] 235 [some (.ref 316), some (.int x), some (.int y)] c := by
  obtain ⟨x, rfl, x_0, x_1⟩ := iI_of x
  obtain ⟨y, rfl, y_0, y_1⟩ := iI_of y
  exact q_pair h ⟨c, C120 (WI.rq h) h.iS h.iL h.iB (by omega) x_0 x_1 y_0 y_1, FC.rf⟩ (fun m hm => M235 hm h.iS h.iL h.iB (by omega) x_0 x_1 y_0 y_1)
theorem T13 (h : WI D E c s p) (hd : 70 ≤ d) {x y : Int32} : PR d 121 [some (.ref 100), some (.int x), some (.int y)] 236 [some (.ref 316), some (.int x), some (.int y)] c := by
  obtain ⟨x, rfl, x_0, x_1⟩ := iI_of x
  obtain ⟨y, rfl, y_0, y_1⟩ := iI_of y
  exact q_pair h ⟨c, C121 (WI.rq h) h.iS h.iL h.iB (by omega) x_0 x_1 y_0 y_1, FC.rf⟩ (fun m hm => M236 hm h.iS h.iL h.iB (by omega) x_0 x_1 y_0 y_1)
theorem T15 (h : WI D E c s p) (hd : 70 ≤ d) {x : Int32} : PR d 123 [some (.ref 100), some (.int x)] 238 [some (.ref 316), some (.int x)] c := by
  obtain ⟨x, rfl, x_0, x_1⟩ := iI_of x
  exact q_pair h ⟨c, C123 (WI.rq h) h.iS h.iL h.iB (by omega) x_0 x_1, FC.rf⟩ (fun m hm => M238 hm h.iS h.iL h.iB (by omega) x_0 x_1)
theorem T16 (h : WI D E c s p) (hd : 70 ≤ d) {x y : Int32} : PR d 125 [some (.ref 100), some (.int x), some (.int y), none] 239 [some (.ref 316), some (.int x), some (.int y), none] c := by
  obtain ⟨x, rfl, x_0, x_1⟩ := iI_of x
  obtain ⟨y, rfl, y_0, y_1⟩ := iI_of y
  exact q_pair h (C125 (WI.rq h) h.iS h.iL h.iB (by omega) x_0 x_1 y_0 y_1) (fun m hm => M239 hm h.iS h.iL h.iB (by omega) x_0 x_1 y_0 y_1)
theorem T17 (h : WI D E c s p) (hd : 70 ≤ d) : PR d 126 [some (.ref 100), none, none, none, none, none] 240 [some (.ref 316), none, none, none, none, none] c := by
  exact q_pair h (C126 (WI.rq h) h.iS h.iL h.iB (by omega)) (fun m hm => M240 hm h.iS h.iL h.iB (by omega))
theorem T18 (h : WI D E c s p) (hd : 70 ≤ d) {x y : Int32} : PR d 127 [some (.ref 100), some (.int x), some (.int y), none] 244 [some (.ref 316), some (.int x), some (.int y), none] c := by
  obtain ⟨x, rfl, x_0, x_1⟩ := iI_of x
  obtain ⟨y, rfl, y_0, y_1⟩ := iI_of y
  exact q_pair h (C127 (WI.rq h) h.iS h.iL h.iB (by omega) x_0 x_1 y_0 y_1) (fun m hm => M244 hm h.iS h.iL h.iB (by omega) x_0 x_1 y_0 y_1)
theorem T19 (h : WI D E c s p) (hd : 70 ≤ d) {x : Int32} : PR d 129 [some (.ref 100), some (.int x), none, none, none, none, none, none, none] 252 [some (.ref 316), some (.int x), none, none, none, none, none, none] c := by
  obtain ⟨x, rfl, x_0, x_1⟩ := iI_of x
  exact q_pair h ⟨c, C129 (WI.rq h) h.iS h.iL h.iB (by omega) x_0 x_1, FC.rf⟩ (fun m hm => M252 hm h.iS h.iL h.iB (by omega) x_0 x_1)
theorem T20 (h : WI D E c s p) (hd : 70 ≤ d) {x y z u w : Int32} : PR d 132 [some (.ref 100), some (.int x), some (.int y), some (.int z), some (.int u), some (.int w), none] 253 [some (.ref 316), some (.int x), some (.int y), some (.int z), some (.int u), some (.int w), none] c := by
  obtain ⟨x, rfl, x_0, x_1⟩ := iI_of x
  obtain ⟨y, rfl, y_0, y_1⟩ := iI_of y
  obtain ⟨z, rfl, z_0, z_1⟩ := iI_of z
  obtain ⟨u, rfl, u_0, u_1⟩ := iI_of u
  obtain ⟨w, rfl, w_0, w_1⟩ := iI_of w
  exact q_pair h (C132 (WI.rq h) h.iS h.iL h.iB (by omega) x_0 x_1 y_0 y_1 z_0 z_1 u_0 u_1 w_0 w_1) (fun m hm => M253 hm h.iS h.iL h.iB (by omega) x_0 x_1 y_0 y_1 z_0 z_1 u_0 u_1 w_0 w_1)
theorem T21 (h : WI D E c s p) (hd : 70 ≤ d) {x y : Int32} : PR d 135 [some (.ref 100), some (.int x), some (.int y), none, none, none, none, none, none] 256 [some (.ref 316), some (.int x), some (.int y), none, none, none, none, none, none] c := by
  obtain ⟨x, rfl, x_0, x_1⟩ := iI_of x
  obtain ⟨y, rfl, y_0, y_1⟩ := iI_of y
  exact q_pair h (C135 (WI.rq h) h.iS h.iL h.iB (by omega) x_0 x_1 y_0 y_1) (fun m hm => M256 hm h.iS h.iL h.iB (by omega) x_0 x_1 y_0 y_1)
theorem T22 (h : WI D E c s p) (hd : 70 ≤ d) {x y : Int32} : PRl d 136 [some (.ref 100), some (.int x), some (.int y), none, none, none, none] 241 [some (.ref 316), some (.int x), some (.int y), none, none, none, none] c := by
  obtain ⟨x, rfl, x_0, x_1⟩ := iI_of x
  obtain ⟨y, rfl, y_0, y_1⟩ := iI_of y
  exact q_pairL h ⟨c, C136 (WI.rq h) h.iS h.iL h.iB (by omega) x_0 x_1 y_0 y_1, FC.rf⟩ (fun m hm => M241 hm h.iS h.iL h.iB (by omega) x_0 x_1 y_0 y_1)
theorem T23 (h : WI D E c s p) (hd : 70 ≤ d) : PR d 138 [some (.ref 100), none, none, none, none] 257 [some (.ref 316), none, none, none, none] c := by
  exact q_pair h ⟨c, C138 (WI.rq h) h.iS h.iL h.iB (by omega), FC.rf⟩ (fun m hm => M257 hm h.iS h.iL h.iB (by omega))
theorem T24 (h : WI D E c s p) (hd : 70 ≤ d) {x y : Int32} : PR d 139 [some (.ref 100), some (.int x), some (.int y), none, none] 258 [some (.ref 316), some (.int x), some (.int y), none, none] c := by
  obtain ⟨x, rfl, x_0, x_1⟩ := iI_of x
  obtain ⟨y, rfl, y_0, y_1⟩ := iI_of y
  exact q_pair h ⟨c, C139 (WI.rq h) h.iS h.iL h.iB (by omega) x_0 x_1 y_0 y_1, FC.rf⟩ (fun m hm => M258 hm h.iS h.iL h.iB (by omega) x_0 x_1 y_0 y_1)
theorem T25 (h : WI D E c s p) (hd : 70 ≤ d) {x y z : Int32} : PR d 141 [some (.ref 100), some (.int x), some (.int y), some (.int z), none] 260 [some (.ref 316), some (.int x), some (.int y), some (.int z), none] c := by
  obtain ⟨x, rfl, x_0, x_1⟩ := iI_of x
  obtain ⟨y, rfl, y_0, y_1⟩ := iI_of y
  obtain ⟨z, rfl, z_0, z_1⟩ := iI_of z
  exact q_pair h ⟨c, C141 (WI.rq h) h.iS h.iL h.iB (by omega) x_0 x_1 y_0 y_1 z_0 z_1, FC.rf⟩ (fun m hm => M260 hm h.iS h.iL h.iB (by omega) x_0 x_1 y_0 y_1 z_0 z_1)
theorem T28 (h : WI D E c s p) (hd : 70 ≤ d) {x : Int32} : PR d 143 [some (.ref 100), some (.int x), none, none, none, none, none] 264 [some (.ref 316), some (.int x), none, none, none, none, none, none, none] c := by
  obtain ⟨x, rfl, x_0, x_1⟩ := iI_of x
  exact q_pair h (C143 (WI.rq h) h.iS h.iL h.iB (by omega) x_0 x_1) (fun m hm => M264 hm h.iS h.iL h.iB (by omega) x_0 x_1)
theorem T29 (h : WI D E c s p) (hd : 70 ≤ d) {x y z : Int32} : PR d 146 [some (.ref 100), some (.int x), some (.int y), some (.int z), none, none] 243 [some (.ref 316), some (.int x), some (.int y), some (.int z), none, none] c := by
  obtain ⟨x, rfl, x_0, x_1⟩ := iI_of x
  obtain ⟨y, rfl, y_0, y_1⟩ := iI_of y
  obtain ⟨z, rfl, z_0, z_1⟩ := iI_of z
  exact q_pair h ⟨c, C146 (WI.rq h) h.iS h.iL h.iB (by omega) x_0 x_1 y_0 y_1 z_0 z_1, FC.rf⟩ (fun m hm => M243 hm h.iS h.iL h.iB (by omega) x_0 x_1 y_0 y_1 z_0 z_1)
theorem T31 (h : WI D E c s p) (hd : 70 ≤ d) {x : Int32} : PR d 148 [some (.ref 100), some (.int x), none] 266 [some (.ref 316), some (.int x), none] c := by
  obtain ⟨x, rfl, x_0, x_1⟩ := iI_of x
  exact q_pair h (C148 h.1 h.iS h.iP (by omega) x_0 x_1) (fun m hm => M266 hm h.iS h.iP (by omega) x_0 x_1)
theorem T32 (h : WI D E c s p) (hd : 70 ≤ d) {x y z : Int32} : PR d 149 [some (.ref 100), some (.int x), some (.int y), some (.int z), none, none, none, none, none, none, none, none, none] 273 [some (.ref 316), some (.int x), some (.int y), some (.int z), none, none, none, none, none, none] c := by
  obtain ⟨x, rfl, x_0, x_1⟩ := iI_of x
  obtain ⟨y, rfl, y_0, y_1⟩ := iI_of y
  obtain ⟨z, rfl, z_0, z_1⟩ := iI_of z
  exact q_pair h (C149 (WI.rq h) h.iS h.iL h.iB h.b60 (by omega) x_0 x_1 y_0 y_1 z_0 z_1) (fun m hm => M273 hm h.iS h.iL h.iB (by omega) h.b60 x_0 x_1 y_0 y_1 z_0 z_1)
theorem T34 (h : WI D E c s p) (hd : 70 ≤ d) {x : Int32} : PR d 153 [some (.ref 100), some (.int x)] 276 [some (.ref 316), some (.int x)] c := by
  obtain ⟨x, rfl, x_0, x_1⟩ := iI_of x
  exact q_pair h ⟨c, C153' h.1 h.2.1 h.iS h.iB (by omega) x_0 x_1, FC.rf⟩ (fun m hm => M276 hm h.iS h.iL h.iB (by omega) x_0 x_1)
theorem T5 (h : WI D E c s p) (hd : 70 ≤ d) {x y : Int32} : PR d 110 [some (.ref 100), some (.int x), some (.int y)] 217 [some (.ref 316), some (.int x), some (.int y)] c := by
  obtain ⟨x, rfl, x_0, x_1⟩ := iI_of x
  obtain ⟨y, rfl, y_0, y_1⟩ := iI_of y
  exact u_pair h (C110 h.1 h.iS h.iL (by omega) x_0 x_1 y_0 y_1) (fun m hm => M217 hm h.iS (by omega) h.u0 h.u1 x_0 x_1 y_0 y_1) (GI.start h.2.2.2 h.u0 h.u1) (kt_if fun _ => kt_keep.tr (kt_up (Or.inl rfl)))
theorem T6 (h : WI D E c s p) (hd : 70 ≤ d) {x : Int32} : PR d 113 [some (.ref 100), some (.int x)] 220 [some (.ref 316), some (.int x)] c := by
  obtain ⟨x, rfl, x_0, x_1⟩ := iI_of x
  exact u_pair h (C113 h.1 h.iS h.iL h.iB (by omega) x_0 x_1) (fun m hm => M220 hm h.iS (by omega) h.u0 h.u1 x_0 x_1) (GI.turn h.2.2.2 h.u0 h.u1) (kt_if fun _ => kt_keep.tr (kt_up (Or.inl rfl)))
theorem T7 (h : WI D E c s p) (hd : 70 ≤ d) {x y : Int32} : PR d 114 [some (.ref 100), some (.int x), some (.int y)] 221 [some (.ref 316), some (.int x), some (.int y)] c := by
  obtain ⟨x, rfl, x_0, x_1⟩ := iI_of x
  obtain ⟨y, rfl, y_0, y_1⟩ := iI_of y
  exact u_pair h (C114 h.1 h.iS h.iL (by omega) x_0 x_1 y_0 y_1) (fun m hm => M221 hm h.iS (by omega) h.u0 h.u1 x_0 x_1 y_0 y_1) (GI.late h.2.2.2 h.u0 h.u1) (kt_if fun _ => kt_keep.tr (kt_up (Or.inl rfl)))
theorem T8 (h : WI D E c s p) (hd : 70 ≤ d) : PR d 115 [some (.ref 100)] 222 [some (.ref 316)] c := by
  refine u_pair h (C115 h.1 h.iS h.iL h.iB.1.1 h.b60 (by omega)) (fun m hm => M222 hm (by omega) h.u0 h.u1 h.iB.1.1 h.b60) (GI.take h.2.2.2 h.u0 h.u1) ?_
  unfold takeD
  split
  · exact KeepT.rf
  · exact kt_keep.tr kt_next
theorem T9 (h : WI D E c s p) (hd : 70 ≤ d) : PR d 116 [some (.ref 100)] 224 [some (.ref 316)] c := by
  refine u_pair h (C116 h.1 h.iS h.iL (by omega)) (fun m hm => M224 hm (by omega) h.u0 h.u1) (GI.undo h.2.2.2 h.u0 h.u1) ?_
  unfold undoD
  split
  · exact KeepT.rf
  · exact (kt_up (Or.inr (Or.inr ⟨rfl, rfl⟩))).tr kt_cp
theorem T26 (h : WI D E c s p) (hd : 70 ≤ d) {x y : Int32} : PR d 142 [some (.ref 100), some (.int x), some (.int y)] 261 [some (.ref 316), some (.int x), some (.int y)] c := by
  obtain ⟨x, rfl, x_0, x_1⟩ := iI_of x
  obtain ⟨y, rfl, y_0, y_1⟩ := iI_of y
  exact u_pair h (C142 h.1 h.iS h.iT (by omega) x_0 x_1 y_0 y_1) (fun m hm => M261 hm (by omega) h.iT.1.1 h.iT.1.2 x_0 x_1 y_0 y_1) (GI.tell h.2.2.2) (kt_if fun _ => ((kt_up (Or.inl rfl)).tr (kt_up (Or.inl rfl))).tr (kt_up (Or.inl rfl)))
theorem T30 (h : WI D E c s p) (hd : 70 ≤ d) {x y : Int32} {r : Bool} : PR d 147 [some (.ref 100), some (.int x), some (.int y), (some (.int (iI (bI r))))] 265 [some (.ref 316), some (.int x), some (.int y), (some (.int (iI (bI r)))), none] c := by
  obtain ⟨x, rfl, x_0, x_1⟩ := iI_of x
  obtain ⟨y, rfl, y_0, y_1⟩ := iI_of y
  exact u_pair h (C147 h.1 h.iS h.iP (by omega) x_0 x_1 y_0 y_1) (fun m hm => M265 hm h.iS (by omega) h.iP.1.1 h.iP.1.2 x_0 x_1 y_0 y_1) (GI.sight h.2.2.2) (kt_if fun _ => (((kt_up (Or.inl rfl)).tr (kt_up (Or.inl rfl))).tr (kt_up (Or.inl rfl))).tr (kt_up (Or.inl rfl)))
theorem T33 (h : WI D E c s p) (hd : 70 ≤ d) {x : Int32} {r : Bool} : PR d 152 [some (.ref 100), some (.int x), (some (.int (iI (bI r))))] 275 [some (.ref 316), some (.int x), (some (.int (iI (bI r))))] c := by
  obtain ⟨x, rfl, x_0, x_1⟩ := iI_of x
  refine u_pair h (C152 h.1 h.iS h.iL (by omega) x_0 x_1) (fun m hm => M275 hm (by omega) h.u0 h.u1 x_0 x_1) (GI.mark h.2.2.2) (kt_if fun _ => ?_)
  split
  · exact ((kt_up (Or.inr (Or.inl rfl))).tr kt_cp).tr (kt_up (Or.inr (Or.inr ⟨rfl, rfl⟩)))
  · exact (kt_up (Or.inr (Or.inl rfl))).tr kt_cp
theorem T14 (h : WI D E c s p) (hd : 70 ≤ d) : PR d 122 [some (.ref 100)] 237 [some (.ref 316)] c := by
  refine q_pair h (C122 (WI.rq h) h.iS h.iL h.iB (by omega)) (fun m hm => ?_)
  obtain ⟨m', is', e, f, g⟩ := M237 hm h.iS h.iL h.iB (d := d) (by omega)
  rw [← good_b g]
  exact ⟨m', e, f⟩
theorem T0 (h : WI D E c s p) (hd : 70 ≤ d) {u v w : Int64} : PR d 100 [some (.ref 100), some (.long u), none, some (.long v), none, some (.long w), none] 156 [some (.ref 316), some (.long u), none, some (.long v), none, some (.long w), none] c := by
  obtain ⟨c1, c2, e1, e2, h1, h2, h3⟩ := Tfeed (d := d) (u := u) (v := v) (w := w) h.1 h.2.1 h.2.2.1 h.2.2.2.k9 (by omega)
  exact ⟨_, c1, c2, e1, e2, _, E, s, p, h2, h3, h1, h.2.2.2.lay.lay.lay⟩
theorem T1 (h : WI D E c s p) (hd : 70 ≤ d) : PR d 101 [some (.ref 100), none, none] 163 [some (.ref 316), none] c := by
  obtain ⟨f, c1, c2, e1, e2, h3⟩ := Tstreet (d := d) h.1 h.2.1 h.2.2.1 h.2.2.2.k9 hd
  refine ⟨iI f, c1, c2, e1, e2, ?_⟩
  rcases h3 with ⟨a1, a2, a3⟩ | ⟨X, Y, j, a0, a1, a2, a3⟩
  · exact ⟨_, E, s, p, a2, a3, a1, h.2.2.2.len⟩
  · exact ⟨_, _, _, p, a2, a3, a1, GI.bg a0⟩
theorem T2 (h : WI D E c s p) (hd : 70 ≤ d) : PR d 105 [some (.ref 100), none, none] 198 [some (.ref 316), none, none] c := by
  obtain ⟨f, c1, c2, e1, e2, h3⟩ := Ttakes (d := d) h.1 h.2.1 h.2.2.1 h.iS hd
  refine ⟨iI f, c1, c2, e1, e2, ?_⟩
  rcases h3 with ⟨a1, a2, a3⟩ | ⟨A, k, a1, a2, a3, a4⟩
  · exact ⟨_, E, s, p, a2, a3, a1, h.2.2.2.len⟩
  · exact ⟨_, E, s, _, a2, a3, a1, h.2.2.2.len.ly a4⟩
end
