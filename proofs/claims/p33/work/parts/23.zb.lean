theorem qzb_some (r : Int32) (M : zM) {β : Type} (f : Int32 → zM → Option β) : zb (some (r, M)) f = f r M := rfl
