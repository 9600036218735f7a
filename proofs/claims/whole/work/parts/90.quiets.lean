/-! KM: both sides: the quiet ones, and those of part 81 on, from where all is kept -/
theorem I_on {h : KH} (hi : Inv h) (v : Int32) : JI h 112 [.ref 0, .int v] 226 [.ref 59, .int v] :=
  JI_of hi (fun _ _ _ _ _ _ hb => J_q (dc := 6) (dm := 8) hi.1 hb (c_on hi.1 hb.1 (Nat.le_refl _)) (fun _ kw hm => m_on kw hm (Nat.le_refl _)))
theorem I_when {h : KH} (hi : Inv h) (v : Int32) : JI h 113 [.ref 0, .int v] 227 [.ref 59, .int v] :=
  JI_of hi (fun _ _ _ _ _ _ hb => J_q (dc := 5) (dm := 7) hi.1 hb (c_when hi.1 hb.1 (Nat.le_refl _)) (fun _ kw hm => m_when kw hm (Nat.le_refl _)))
theorem I_chalk {h : KH} (hi : Inv h) (v : Int32) : JI h 114 [.ref 0, .int v] 229 [.ref 59, .int v] :=
  JI_of hi (fun _ _ _ _ _ _ hb => J_q (dc := 7) (dm := 9) hi.1 hb (c_chalk hi.1 hb.1 (Nat.le_refl _)) (fun _ kw hm => m_chalk kw hm (Nat.le_refl _)))
theorem I_facing {h : KH} (hi : Inv h) (v : Int32) : JI h 115 [.ref 0, .int v] 230 [.ref 59, .int v] :=
  JI_of hi (fun _ _ _ _ _ _ hb => J_q (dc := 7) (dm := 9) hi.1 hb (c_facing hi.1 hb.1 (Nat.le_refl _)) (fun _ kw hm => m_facing kw hm (Nat.le_refl _)))
theorem I_cut {h : KH} (hi : Inv h) (v w : Int32) : JI h 118 [.ref 0, .int v, .int w] 232 [.ref 59, .int v, .int w] :=
  JI_of hi (fun _ _ _ _ _ _ hb => J_q (dc := 2) (dm := 4) hi.1 hb (c_cut hi.1 hb.1 (Nat.le_refl _)) (fun _ kw hm => m_cut kw hm (Nat.le_refl _)))
theorem I_way {h : KH} (hi : Inv h) (v w : Int32) : JI h 120 [.ref 0, .int v, .int w] 233 [.ref 59, .int v, .int w] :=
  JI_of hi (fun _ _ _ _ _ _ hb => J_q (dc := 1) (dm := 2) hi.1 hb (c_way hi.1 hb.1 (Nat.le_refl _)) (fun _ kw hm => m_way kw hm (Nat.le_refl _)))
theorem I_bridges {h : KH} (hi : Inv h) : JI h 121 [.ref 0] 234 [.ref 59] :=
  JI_of hi (fun _ _ _ _ _ _ hb => J_q (dc := 3) (dm := 4) hi.1 hb (c_bridges hi.1 hb.1 (Nat.le_refl _)) (fun _ kw hm => m_bridges kw hm (Nat.le_refl _)))
theorem I_best {h : KH} (hi : Inv h) (v : Int32) : JI h 122 [.ref 0, .int v] 240 [.ref 59, .int v] :=
  JI_of hi (fun _ _ _ _ _ _ hb => J_q (dc := 11) (dm := 8) hi.1 hb (c_best hi.1 hb.1 (Nat.le_refl _)) (fun _ kw hm => m_best kw hm (Nat.le_refl _)))
theorem I_ith {h : KH} (hi : Inv h) (v w : Int32) : JI h 123 [.ref 0, .int v, .int w] 241 [.ref 59, .int v, .int w] :=
  JI_of hi (fun _ _ _ _ _ _ hb => J_q (dc := 11) (dm := 8) hi.1 hb (c_ith hi.1 hb.1 (Nat.le_refl _)) (fun _ kw hm => m_ith kw hm (Nat.le_refl _)))
theorem I_ways {h : KH} (hi : Inv h) (v : Int32) : JI h 124 [.ref 0, .int v] 242 [.ref 59, .int v] :=
  JI_of hi (fun _ _ _ _ _ _ hb => J_q (dc := 11) (dm := 8) hi.1 hb (c_ways hi.1 hb.1 (Nat.le_refl _)) (fun _ kw hm => m_ways kw hm (Nat.le_refl _)))
theorem I_siege {h : KH} (hi : Inv h) (v w : Int32) : JI h 125 [.ref 0, .int v, .int w] 244 [.ref 59, .int v, .int w] :=
  JI_of hi (fun _ _ _ _ _ _ hb => J_q (dc := 11) (dm := 7) hi.1 hb (c_siege hi.1 hb.1 (Nat.le_refl _)) (fun _ kw hm => m_siege kw hm (Nat.le_refl _)))
theorem I_bars {h : KH} (hi : Inv h) (v w : Int32) : JI h 126 [.ref 0, .int v, .int w] 245 [.ref 59, .int v, .int w] :=
  JI_of hi (fun _ _ _ _ _ _ hb => J_q (dc := 11) (dm := 7) hi.1 hb (c_bars hi.1 hb.1 (Nat.le_refl _)) (fun _ kw hm => m_bars kw hm (Nat.le_refl _)))
theorem I_game {h : KH} (hi : Inv h) (v : Int32) : JI h 129 [.ref 0, .int v] 247 [.ref 59, .int v] :=
  JI_of hi (fun _ _ _ _ _ _ hb => J_q (dc := 10) (dm := 12) hi.1 hb (c_game hi.1 hb.1 (Nat.le_refl _)) (fun _ kw hm => m_game kw hm (Nat.le_refl _)))
theorem I_play {h : KH} (hi : Inv h) (v : Int32) : JI h 130 [.ref 0, .int v] 248 [.ref 59, .int v] :=
  JI_of hi (fun _ _ _ _ _ _ hb => J_q (dc := 10) (dm := 12) hi.1 hb (c_play hi.1 hb.1 (Nat.le_refl _)) (fun _ kw hm => m_play kw hm (Nat.le_refl _)))
theorem I_times {h : KH} (hi : Inv h) (v w : Int32) : JI h 141 [.ref 0, .int v, .int w] 258 [.ref 59, .int v, .int w] :=
  JI_of hi (fun _ _ _ _ _ _ hb => J_q (dc := 7) (dm := 8) hi.1 hb (c_times hi.1 hb.1 (Nat.le_refl _)) (fun _ kw hm => m_times kw hm (Nat.le_refl _)))
theorem I_dusk {h : KH} (hi : Inv h) : JI h 111 [.ref 0] 224 [.ref 59] :=
  JI_of hi (fun _ _ _ _ _ _ hb => J_m (dc := 6) (dm := 7) hi.1 hb (c_dusk hi.1 hb.1 (Nat.le_refl _)) (fun _ kw hm => m_dusk kw hm (Nat.le_refl _)))
theorem I_lot {h : KH} (hi : Inv h) : JI h 140 [.ref 0] 257 [.ref 59] :=
  JI_of hi (fun _ _ _ _ _ _ hb => J_m (dc := 6) (dm := 7) hi.1 hb (c_lot hi.1 hb.1 (Nat.le_refl _)) (fun _ kw hm => m_lot kw hm (Nat.le_refl _)))
theorem I_change {h : KH} (hi : Inv h) (v w x : Int32) : JI h 90 [.ref 0, .int v, .int w, .int x] 196 [.ref 59, .int v, .int w, .int x] :=
  JI_of hi (fun _ _ _ _ _ _ hb => J_change hi.1 hb v w x)
theorem I_remake {h : KH} (hi : Inv h) (v x : Int32) : JI h 91 [.ref 0, .int v, .int x] 197 [.ref 59, .int v, .int x] :=
  JI_of hi (fun _ _ _ _ _ _ hb => J_remake hi.1 hb v x)
theorem I_set {h : KH} (hi : Inv h) (w v : Int32) : JI h 92 [.ref 0, .int w, .int v] 198 [.ref 59, .int w, .int v] :=
  JI_of hi (fun _ _ _ _ _ _ hb => J_set hi.1 hb w v)
theorem I_anew {h : KH} (hi : Inv h) : JI h 99 [.ref 0] 200 [.ref 59] :=
  JI_of hi (fun _ _ _ _ _ _ hb => J_anew hi.1 hb)
theorem I_seed {h : KH} (hi : Inv h) (v : Int32) : JI h 139 [.ref 0, .int v] 255 [.ref 59, .int v] :=
  JI_of hi (fun _ _ _ _ _ _ hb => J_seed hi.1 hb v)
theorem I_hand {h : KH} (hi : Inv h) (k p f y : Int32) : JI h 88 [.ref 0, .int k, .int p, .int f, .int y] 194 [.ref 59, .int k, .int p, .int f, .int y] :=
  JI_of hi (fun _ _ _ _ _ _ hb => J_hand hi.1 hb k p f y)
theorem I_edge {h : KH} (hi : Inv h) (v f : Int32) : JI h 98 [.ref 0, .int v, .int f] 199 [.ref 59, .int v, .int f] :=
  JI_of hi (fun _ _ _ _ _ _ hb => J_edge hi.1 hb v f)
theorem I_state {h : KH} (hi : Inv h) (w : Int32) : JI h 100 [.ref 0, .int w] 201 [.ref 59, .int w] :=
  JI_of hi (fun _ _ _ _ _ _ hb => J_state hi.1 hb w)
theorem I_handOf {h : KH} (hi : Inv h) (v w : Int32) : JI h 89 [.ref 0, .int v, .int w] 195 [.ref 59, .int v, .int w] :=
  JI_of hi (fun _ _ _ _ _ _ hb => J_handOf hi.1 hb v w)
