/-- worlds by their leaves -/
def qwW (x0 : Nat) (x1 x2 x3 x4 x5 x6 x7 x8 x9 x10 x11 x12 x13 x14 x15 x16 x17 x18 : Value) (x19 : Int32) : va_W := [(x0, .inr (10, [x1, x2, x3, x4, x5, x6, x7, x8, x9, x10, x11, x12, x13, x14, x15, x16, x17, x18, .int x19]))]
def qazl (x0 x1 : Nat) (x2 x3 x4 : Value) (x5 x6 : Nat) (x7 : Value) (x8 x9 x10 : Nat) (x11 : ClassId) (x12 : NI) (x13 : Nat) (x14 : ClassId) (x15 : NI) : va_W := [(x0, .inr (1, [.ref x1, x2, x3, x4])), (x5, .inr (1, [.ref x6, x7, .ref x8, .ref x9])), (x10, .inl (x11, 64, .inl x12)), (x13, .inl (x14, 64, .inl x15))]
def qaLv (x0 x1 : Nat) (x2 : Value) (x3 x4 x5 x6 : Nat) (x7 : Value) (x8 x9 x10 : Nat) (x11 : ClassId) (x12 : NI) (x13 : Nat) (x14 : ClassId) (x15 : NI) : va_W := [(x0, .inr (1, [.ref x1, x2, .ref x3, .ref x4])), (x5, .inr (1, [.ref x6, x7, .ref x8, .ref x9])), (x10, .inl (x11, 64, .inl x12)), (x13, .inl (x14, 64, .inl x15))]
def qbdS (x0 x1 : Nat) (x2 : Value) (x3 : Nat) (x4 : Value) (x5 x6 : Nat) (x7 : Value) (x8 x9 x10 : Nat) (x11 : ClassId) (x12 : NI) (x13 : Nat) (x14 : ClassId) (x15 : NI) : va_W := [(x0, .inr (1, [.ref x1, x2, .ref x3, x4])), (x5, .inr (1, [.ref x6, x7, .ref x8, .ref x9])), (x10, .inl (x11, 64, .inl x12)), (x13, .inl (x14, 64, .inl x15))]
def qaH (x0 x1 : Nat) (x2 x3 x4 : Value) (x5 : Nat) (x6 : ClassId) (x7 : NI) : va_W := [(x0, .inr (1, [.ref x1, x2, x3, x4])), (x5, .inl (x6, 64, .inl x7))]
def qafe (x0 : Nat) (x1 x2 x3 x4 x5 x6 x7 x8 x9 x10 x11 : Value) (x12 : Int32) : va_W := [(x0, .inr (2, [x1, x2, x3, x4, x5, x6, x7, x8, x9, x10, x11, .int x12]))]
def qGh (x0 x1 : Nat) (x2 : Value) (x3 : Nat) (x4 : Value) (x5 : Nat) (x6 x7 x8 x9 x10 x11 x12 x13 x14 : Value) (x15 : Int32) (x16 : Value) (x17 : Int32) (x18 : Nat) (x19 : ClassId) (x20 : NI) : va_W := [(x0, .inr (1, [.ref x1, x2, .ref x3, x4])), (x5, .inr (2, [x6, x7, x8, x9, x10, x11, x12, x13, x14, .int x15, x16, .int x17])), (x18, .inl (x19, 64, .inl x20))]
def qafV (x0 x1 : Nat) (x2 : Value) (x3 : Nat) (x4 : Value) (x5 : Nat) (x6 : ClassId) (x7 : NI) : va_W := [(x0, .inr (1, [.ref x1, x2, .ref x3, x4])), (x5, .inl (x6, 64, .inl x7))]
def qaUH (x0 : Nat) (x1 x2 x3 x4 x5 x6 x7 x8 x9 : Value) (x10 : Int32) (x11 : Value) (x12 : Int32) : va_W := [(x0, .inr (2, [x1, x2, x3, x4, x5, x6, x7, x8, x9, .int x10, x11, .int x12]))]
def qpU (x0 x1 : Nat) (x2 : Value) (x3 : Nat) (x4 : Value) (x5 : Nat) (x6 x7 x8 x9 x10 x11 x12 x13 x14 : Value) (x15 : Int32) (x16 x17 : Value) (x18 : Nat) (x19 : ClassId) (x20 : NI) : va_W := [(x0, .inr (1, [.ref x1, x2, .ref x3, x4])), (x5, .inr (2, [x6, x7, x8, x9, x10, x11, x12, x13, x14, .int x15, x16, x17])), (x18, .inl (x19, 64, .inl x20))]
def qeT (x0 x1 : Nat) (x2 : Value) (x3 : Nat) (x4 : Value) (x5 : Nat) (x6 x7 x8 x9 x10 : Value) (x11 : Nat) (x12 x13 x14 : Value) (x15 : Int32) (x16 : Value) (x17 : Int32) (x18 : Nat) (x19 : ClassId) (x20 : NI) (x21 : Nat) (x22 : ClassId) (x23 : NI) : va_W := [(x0, .inr (1, [.ref x1, x2, .ref x3, x4])), (x5, .inr (2, [x6, x7, x8, x9, x10, .ref x11, x12, x13, x14, .int x15, x16, .int x17])), (x18, .inl (x19, 64, .inl x20)), (x21, .inl (x22, 6, .inl x23))]
def qaPv (x0 x1 : Nat) (x2 : Value) (x3 : Nat) (x4 : Value) (x5 : Nat) (x6 x7 x8 x9 x10 : Value) (x11 : Nat) (x12 x13 x14 : Value) (x15 : Int32) (x16 : Value) (x17 : Int32) (x18 : Nat) (x19 : ClassId) (x20 : NI) : va_W := [(x0, .inr (1, [.ref x1, x2, .ref x3, x4])), (x5, .inr (2, [x6, x7, x8, x9, x10, .ref x11, x12, x13, x14, .int x15, x16, .int x17])), (x18, .inl (x19, 64, .inl x20))]
def qa4Z (x0 : Nat) (x1 : ClassId) (x2 : NI) : va_W := [(x0, .inl (x1, 6, .inl x2))]
def q9l (x0 : Nat) (x1 x2 x3 x4 x5 x6 x7 x8 : Value) (x9 x10 : Nat) (x11 x12 x13 x14 x15 x16 x17 x18 : Value) (x19 : Int32) (x20 x21 : Nat) (x22 : Value) (x23 x24 x25 x26 : Nat) (x27 : Value) (x28 x29 x30 : Nat) (x31 : ClassId) (x32 : NI) (x33 : Nat) (x34 : ClassId) (x35 : NI) (x36 : Nat) (x37 x38 x39 x40 x41 : Value) (x42 : Nat) (x43 x44 x45 : Value) (x46 : Int32) (x47 : Value) (x48 : Int32) (x49 : Nat) (x50 : ClassId) (x51 : NI) : va_W := [(x0, .inr (10, [x1, x2, x3, x4, x5, x6, x7, x8, .ref x9, .ref x10, x11, x12, x13, x14, x15, x16, x17, x18, .int x19])), (x20, .inr (1, [.ref x21, x22, .ref x23, .ref x24])), (x25, .inr (1, [.ref x26, x27, .ref x28, .ref x29])), (x30, .inl (x31, 64, .inl x32)), (x33, .inl (x34, 64, .inl x35)), (x36, .inr (2, [x37, x38, x39, x40, x41, .ref x42, x43, x44, x45, .int x46, x47, .int x48])), (x49, .inl (x50, 6, .inl x51))]
def qDF (x0 : Nat) (x1 x2 x3 x4 x5 x6 x7 x8 : Value) (x9 x10 : Nat) (x11 x12 x13 x14 x15 x16 x17 x18 : Value) (x19 : Int32) (x20 x21 : Nat) (x22 x23 x24 : Value) (x25 x26 : Nat) (x27 : Value) (x28 x29 x30 : Nat) (x31 : ClassId) (x32 : NI) (x33 : Nat) (x34 : ClassId) (x35 : NI) (x36 : Nat) (x37 x38 x39 x40 x41 : Value) (x42 : Nat) (x43 x44 x45 : Value) (x46 : Int32) (x47 : Value) (x48 : Int32) (x49 : Nat) (x50 : ClassId) (x51 : NI) : va_W := [(x0, .inr (10, [x1, x2, x3, x4, x5, x6, x7, x8, .ref x9, .ref x10, x11, x12, x13, x14, x15, x16, x17, x18, .int x19])), (x20, .inr (1, [.ref x21, x22, x23, x24])), (x25, .inr (1, [.ref x26, x27, .ref x28, .ref x29])), (x30, .inl (x31, 64, .inl x32)), (x33, .inl (x34, 64, .inl x35)), (x36, .inr (2, [x37, x38, x39, x40, x41, .ref x42, x43, x44, x45, .int x46, x47, .int x48])), (x49, .inl (x50, 6, .inl x51))]
def qaPg (x0 x1 : Nat) (x2 : Value) (x3 x4 x5 : Nat) (x6 : ClassId) (x7 : NI) : va_W := [(x0, .inr (1, [.ref x1, x2, .ref x3, .ref x4])), (x5, .inl (x6, 64, .inl x7))]
def qa9P (x0 : Nat) (x1 x2 x3 x4 x5 x6 x7 x8 : Value) (x9 x10 : Nat) (x11 x12 x13 x14 x15 x16 x17 x18 : Value) (x19 : Int32) (x20 x21 : Nat) (x22 : Value) (x23 x24 x25 : Nat) (x26 : ClassId) (x27 : NI) (x28 : Nat) (x29 x30 x31 x32 x33 : Value) (x34 : Nat) (x35 x36 x37 : Value) (x38 : Int32) (x39 : Value) (x40 : Int32) (x41 : Nat) (x42 : ClassId) (x43 : NI) : va_W := [(x0, .inr (10, [x1, x2, x3, x4, x5, x6, x7, x8, .ref x9, .ref x10, x11, x12, x13, x14, x15, x16, x17, x18, .int x19])), (x20, .inr (1, [.ref x21, x22, .ref x23, .ref x24])), (x25, .inl (x26, 64, .inl x27)), (x28, .inr (2, [x29, x30, x31, x32, x33, .ref x34, x35, x36, x37, .int x38, x39, .int x40])), (x41, .inl (x42, 6, .inl x43))]
def qa7M (x0 x1 : Nat) (x2 : Value) (x3 x4 x5 : Nat) (x6 x7 x8 x9 x10 : Value) (x11 : Nat) (x12 x13 x14 : Value) (x15 : Int32) (x16 : Value) (x17 : Int32) (x18 : Nat) (x19 : ClassId) (x20 : NI) : va_W := [(x0, .inr (1, [.ref x1, x2, .ref x3, .ref x4])), (x5, .inr (2, [x6, x7, x8, x9, x10, .ref x11, x12, x13, x14, .int x15, x16, .int x17])), (x18, .inl (x19, 64, .inl x20))]
def qa5I (x0 x1 : Nat) (x2 : Value) (x3 x4 x5 : Nat) (x6 x7 x8 x9 x10 : Value) (x11 : Nat) (x12 x13 x14 : Value) (x15 : Int32) (x16 : Value) (x17 : Int32) (x18 : Nat) (x19 : ClassId) (x20 : NI) (x21 : Nat) (x22 : ClassId) (x23 : NI) : va_W := [(x0, .inr (1, [.ref x1, x2, .ref x3, .ref x4])), (x5, .inr (2, [x6, x7, x8, x9, x10, .ref x11, x12, x13, x14, .int x15, x16, .int x17])), (x18, .inl (x19, 64, .inl x20)), (x21, .inl (x22, 6, .inl x23))]
def qalW (x0 : Nat) (x1 x2 x3 x4 x5 x6 x7 x8 : Value) (x9 x10 : Nat) (x11 x12 x13 x14 x15 x16 x17 x18 : Value) (x19 : Int32) : va_W := [(x0, .inr (10, [x1, x2, x3, x4, x5, x6, x7, x8, .ref x9, .ref x10, x11, x12, x13, x14, x15, x16, x17, x18, .int x19]))]
def qaMV (x0 x1 : Nat) (x2 x3 x4 : Value) (x5 x6 : Nat) (x7 : Value) (x8 x9 x10 : Nat) (x11 : ClassId) (x12 : NI) (x13 : Nat) (x14 : ClassId) (x15 : NI) (x16 : Nat) (x17 x18 x19 x20 x21 : Value) (x22 : Nat) (x23 x24 x25 : Value) (x26 : Int32) (x27 : Value) (x28 : Int32) (x29 : Nat) (x30 : ClassId) (x31 : NI) : va_W := [(x0, .inr (1, [.ref x1, x2, x3, x4])), (x5, .inr (1, [.ref x6, x7, .ref x8, .ref x9])), (x10, .inl (x11, 64, .inl x12)), (x13, .inl (x14, 64, .inl x15)), (x16, .inr (2, [x17, x18, x19, x20, x21, .ref x22, x23, x24, x25, .int x26, x27, .int x28])), (x29, .inl (x30, 6, .inl x31))]
def qMQ (x0 : Nat) (x1 : Value) (x2 : Nat) (x3 : Value) (x4 : Nat) (x5 x6 x7 x8 : Value) (x9 x10 : Nat) (x11 x12 x13 x14 x15 x16 x17 x18 : Value) (x19 : Int32) (x20 x21 : Nat) (x22 x23 x24 : Value) (x25 x26 : Nat) (x27 : Value) (x28 x29 x30 : Nat) (x31 : ClassId) (x32 : NI) (x33 : Nat) (x34 : ClassId) (x35 : NI) (x36 : Nat) (x37 x38 x39 x40 x41 : Value) (x42 : Nat) (x43 x44 x45 : Value) (x46 : Int32) (x47 : Value) (x48 : Int32) (x49 : Nat) (x50 : ClassId) (x51 : NI) (x52 : Nat) (x53 : ClassId) (x54 : Nat) (x55 : Nat → Int64) : va_W := [(x0, .inr (10, [x1, .ref x2, x3, .ref x4, x5, x6, x7, x8, .ref x9, .ref x10, x11, x12, x13, x14, x15, x16, x17, x18, .int x19])), (x20, .inr (1, [.ref x21, x22, x23, x24])), (x25, .inr (1, [.ref x26, x27, .ref x28, .ref x29])), (x30, .inl (x31, 64, .inl x32)), (x33, .inl (x34, 64, .inl x35)), (x36, .inr (2, [x37, x38, x39, x40, x41, .ref x42, x43, x44, x45, .int x46, x47, .int x48])), (x49, .inl (x50, 6, .inl x51)), (x52, .inl (x53, x54, .inr (.inl x55)))]
def qaXH (x0 : Nat) (x1 : Value) (x2 : Nat) (x3 : Value) (x4 : Nat) (x5 x6 x7 x8 : Value) (x9 x10 : Nat) (x11 x12 x13 x14 x15 x16 x17 x18 : Value) (x19 : Int32) (x20 x21 : Nat) (x22 x23 x24 : Value) (x25 x26 : Nat) (x27 : Value) (x28 x29 x30 : Nat) (x31 : ClassId) (x32 : NI) (x33 : Nat) (x34 : ClassId) (x35 : NI) (x36 : Nat) (x37 x38 x39 x40 x41 : Value) (x42 : Nat) (x43 x44 x45 : Value) (x46 : Int32) (x47 : Value) (x48 : Int32) (x49 : Nat) (x50 : ClassId) (x51 : NI) : va_W := [(x0, .inr (10, [x1, .ref x2, x3, .ref x4, x5, x6, x7, x8, .ref x9, .ref x10, x11, x12, x13, x14, x15, x16, x17, x18, .int x19])), (x20, .inr (1, [.ref x21, x22, x23, x24])), (x25, .inr (1, [.ref x26, x27, .ref x28, .ref x29])), (x30, .inl (x31, 64, .inl x32)), (x33, .inl (x34, 64, .inl x35)), (x36, .inr (2, [x37, x38, x39, x40, x41, .ref x42, x43, x44, x45, .int x46, x47, .int x48])), (x49, .inl (x50, 6, .inl x51))]
def qwc (x0 : Nat) (x1 : Value) (x2 x3 x4 x5 x6 x7 : Int32) : va_W := [(x0, .inr (8, [x1, .int x2, .int x3, .int x4, .int x5, .int x6, .int x7]))]
def qJL (x0 x1 : Nat) (x2 x3 x4 x5 x6 x7 x8 x9 x10 x11 x12 x13 x14 x15 x16 x17 x18 : Value) (x19 : Int32) (x20 : Nat) (x21 : Value) (x22 x23 x24 x25 x26 x27 : Int32) : va_W := [(x0, .inr (10, [.ref x1, x2, x3, x4, x5, x6, x7, x8, x9, x10, x11, x12, x13, x14, x15, x16, x17, x18, .int x19])), (x20, .inr (8, [x21, .int x22, .int x23, .int x24, .int x25, .int x26, .int x27]))]
def qaO6 (x0 x1 : Nat) (x2 x3 x4 x5 x6 x7 x8 x9 x10 x11 x12 x13 x14 x15 x16 x17 x18 : Value) (x19 : Int32) : va_W := [(x0, .inr (10, [.ref x1, x2, x3, x4, x5, x6, x7, x8, x9, x10, x11, x12, x13, x14, x15, x16, x17, x18, .int x19]))]
def qwk (x0 x1 : Nat) (x2 : Int32) (x3 : Nat) (x4 : ClassId) (x5 : NI) : va_W := [(x0, .inr (0, [.ref x1, .int x2])), (x3, .inl (x4, 8, .inl x5))]
def qacj (x0 : Nat) (x1 x2 x3 x4 x5 : Value) (x6 : Int32) (x7 : Value) : va_W := [(x0, .inr (8, [x1, x2, x3, x4, x5, .int x6, x7]))]
def qwm (x0 x1 : Nat) (x2 x3 : Int32) (x4 x5 x6 x7 : Value) (x8 : Nat) (x9 : ClassId) (x10 : NI) : va_W := [(x0, .inr (8, [.ref x1, .int x2, .int x3, x4, x5, x6, x7])), (x8, .inl (x9, 600, .inl x10))]
def q8y (x0 x1 : Nat) (x2 : Int32) (x3 x4 x5 x6 x7 : Value) (x8 : Nat) (x9 : ClassId) (x10 : NI) : va_W := [(x0, .inr (8, [.ref x1, .int x2, x3, x4, x5, x6, x7])), (x8, .inl (x9, 600, .inl x10))]
def qPH (x0 : Nat) (x1 x2 x3 x4 x5 : Value) (x6 x7 : Int32) : va_W := [(x0, .inr (8, [x1, x2, x3, x4, x5, .int x6, .int x7]))]
def qdL (x0 x1 : Nat) (x2 x3 x4 : Int32) (x5 : Value) (x6 x7 : Int32) (x8 : Nat) (x9 : ClassId) (x10 : NI) : va_W := [(x0, .inr (8, [.ref x1, .int x2, .int x3, .int x4, x5, .int x6, .int x7])), (x8, .inl (x9, 600, .inl x10))]
def qL0 (x0 x1 : Nat) (x2 x3 x4 : Int32) (x5 : Value) (x6 x7 : Int32) : va_W := [(x0, .inr (8, [.ref x1, .int x2, .int x3, .int x4, x5, .int x6, .int x7]))]
def qaCm (x0 : Nat) (x1 : ClassId) (x2 : NI) : va_W := [(x0, .inl (x1, 600, .inl x2))]
def q9W (x0 x1 : Nat) (x2 : Value) (x3 : Nat) (x4 : ClassId) (x5 : NI) : va_W := [(x0, .inr (0, [.ref x1, x2])), (x3, .inl (x4, 8, .inl x5))]
def qUr (x0 : Nat) (x1 x2 x3 : Value) (x4 : Int32) (x5 : Value) (x6 x7 : Int32) : va_W := [(x0, .inr (8, [x1, x2, x3, .int x4, x5, .int x6, .int x7]))]
def qFL (x0 x1 : Nat) (x2 x3 x4 : Int32) (x5 : Value) (x6 : Int32) (x7 : Value) (x8 : Nat) (x9 : ClassId) (x10 : NI) : va_W := [(x0, .inr (8, [.ref x1, .int x2, .int x3, .int x4, x5, .int x6, x7])), (x8, .inl (x9, 600, .inl x10))]
def qa4I (x0 x1 : Nat) (x2 x3 x4 : Int32) (x5 : Value) (x6 : Int32) (x7 : Value) : va_W := [(x0, .inr (8, [.ref x1, .int x2, .int x3, .int x4, x5, .int x6, x7]))]
def qQs (x0 x1 : Nat) (x2 x3 : Int32) (x4 x5 : Value) (x6 x7 : Int32) (x8 : Nat) (x9 : ClassId) (x10 : NI) : va_W := [(x0, .inr (8, [.ref x1, .int x2, .int x3, x4, x5, .int x6, .int x7])), (x8, .inl (x9, 600, .inl x10))]
def qa8D (x0 x1 : Nat) (x2 x3 : Int32) (x4 x5 : Value) (x6 x7 : Int32) : va_W := [(x0, .inr (8, [.ref x1, .int x2, .int x3, x4, x5, .int x6, .int x7]))]
def qu2 (x0 x1 : Nat) (x2 : Int32) (x3 x4 : Nat) (x5 x6 x7 : Int32) (x8 : Value) (x9 x10 : Int32) (x11 : Nat) (x12 : ClassId) (x13 : NI) (x14 : Nat) (x15 : ClassId) (x16 : NI) : va_W := [(x0, .inr (0, [.ref x1, .int x2])), (x3, .inr (8, [.ref x4, .int x5, .int x6, .int x7, x8, .int x9, .int x10])), (x11, .inl (x12, 600, .inl x13)), (x14, .inl (x15, 8, .inl x16))]
def qa3p (x0 x1 : Nat) (x2 : Int32) (x3 : Nat) (x4 : ClassId) (x5 : NI) (x6 : Nat) (x7 : ClassId) (x8 : NI) : va_W := [(x0, .inr (0, [.ref x1, .int x2])), (x3, .inl (x4, 600, .inl x5)), (x6, .inl (x7, 8, .inl x8))]
def qHs (x0 x1 : Nat) (x2 : Int32) (x3 : Nat) (x4 : ClassId) (x5 : NI) (x6 x7 : Nat) (x8 x9 x10 : Int32) (x11 : Value) (x12 x13 : Int32) (x14 : Nat) (x15 : ClassId) (x16 : NI) : va_W := [(x0, .inr (0, [.ref x1, .int x2])), (x3, .inl (x4, 8, .inl x5)), (x6, .inr (8, [.ref x7, .int x8, .int x9, .int x10, x11, .int x12, .int x13])), (x14, .inl (x15, 600, .inl x16))]
def qBH (x0 x1 x2 : Nat) (x3 x4 x5 : Value) (x6 x7 : Nat) (x8 x9 x10 x11 x12 x13 x14 x15 x16 x17 x18 : Value) (x19 : Int32) (x20 x21 : Nat) (x22 x23 x24 x25 x26 x27 : Int32) (x28 : Nat) (x29 x30 x31 x32 x33 x34 x35 x36 : Value) (x37 : Int32) (x38 x39 x40 : Value) (x41 x42 : Nat) (x43 : Int32) (x44 : Nat) (x45 : ClassId) (x46 : NI) (x47 : Nat) (x48 : ClassId) (x49 : NI) : va_W := [(x0, .inr (10, [.ref x1, .ref x2, x3, x4, x5, .ref x6, .ref x7, x8, x9, x10, x11, x12, x13, x14, x15, x16, x17, x18, .int x19])), (x20, .inr (8, [.ref x21, .int x22, .int x23, .int x24, .int x25, .int x26, .int x27])), (x28, .inr (2, [x29, x30, x31, x32, x33, x34, x35, x36, .int x37, x38, x39, x40])), (x41, .inr (0, [.ref x42, .int x43])), (x44, .inl (x45, 8, .inl x46)), (x47, .inl (x48, 600, .inl x49))]
def qaNd (x0 x1 x2 : Nat) (x3 x4 x5 x6 x7 x8 x9 x10 x11 x12 x13 x14 x15 x16 x17 x18 : Value) (x19 : Int32) (x20 x21 : Nat) (x22 x23 x24 x25 x26 x27 : Int32) (x28 : Nat) (x29 x30 x31 x32 x33 x34 x35 x36 : Value) (x37 : Int32) (x38 x39 x40 : Value) (x41 x42 : Nat) (x43 : Int32) (x44 : Nat) (x45 : ClassId) (x46 : NI) (x47 : Nat) (x48 : ClassId) (x49 : NI) : va_W := [(x0, .inr (10, [.ref x1, .ref x2, x3, x4, x5, x6, x7, x8, x9, x10, x11, x12, x13, x14, x15, x16, x17, x18, .int x19])), (x20, .inr (8, [.ref x21, .int x22, .int x23, .int x24, .int x25, .int x26, .int x27])), (x28, .inr (2, [x29, x30, x31, x32, x33, x34, x35, x36, .int x37, x38, x39, x40])), (x41, .inr (0, [.ref x42, .int x43])), (x44, .inl (x45, 8, .inl x46)), (x47, .inl (x48, 600, .inl x49))]
def qaZD (x0 x1 x2 : Nat) (x3 x4 x5 : Value) (x6 x7 : Nat) (x8 x9 x10 x11 x12 x13 x14 x15 x16 x17 x18 : Value) (x19 : Int32) (x20 x21 : Nat) (x22 x23 x24 x25 x26 x27 : Int32) : va_W := [(x0, .inr (10, [.ref x1, .ref x2, x3, x4, x5, .ref x6, .ref x7, x8, x9, x10, x11, x12, x13, x14, x15, x16, x17, x18, .int x19])), (x20, .inr (8, [.ref x21, .int x22, .int x23, .int x24, .int x25, .int x26, .int x27]))]
def qa47 (x0 : Nat) (x1 x2 x3 x4 x5 x6 x7 x8 : Value) (x9 : Int32) (x10 x11 x12 : Value) (x13 x14 : Nat) (x15 : Int32) (x16 : Nat) (x17 : ClassId) (x18 : NI) (x19 : Nat) (x20 : ClassId) (x21 : NI) : va_W := [(x0, .inr (2, [x1, x2, x3, x4, x5, x6, x7, x8, .int x9, x10, x11, x12])), (x13, .inr (0, [.ref x14, .int x15])), (x16, .inl (x17, 8, .inl x18)), (x19, .inl (x20, 600, .inl x21))]
def qa4N (x0 x1 : Nat) (x2 : Int32) (x3 : Nat) (x4 : ClassId) (x5 : NI) (x6 x7 : Nat) (x8 x9 x10 x11 x12 x13 : Int32) (x14 : Nat) (x15 : ClassId) (x16 : NI) : va_W := [(x0, .inr (0, [.ref x1, .int x2])), (x3, .inl (x4, 8, .inl x5)), (x6, .inr (8, [.ref x7, .int x8, .int x9, .int x10, .int x11, .int x12, .int x13])), (x14, .inl (x15, 600, .inl x16))]
def qa5W (x0 x1 : Nat) (x2 x3 x4 x5 x6 x7 : Int32) : va_W := [(x0, .inr (8, [.ref x1, .int x2, .int x3, .int x4, .int x5, .int x6, .int x7]))]
def qang (x0 x1 x2 : Nat) (x3 x4 x5 : Value) (x6 x7 : Nat) (x8 x9 x10 x11 x12 x13 x14 x15 x16 x17 x18 : Value) (x19 : Int32) (x20 x21 : Nat) (x22 x23 x24 x25 x26 x27 : Int32) (x28 : Nat) (x29 x30 x31 x32 x33 x34 x35 x36 : Value) (x37 : Int32) (x38 x39 x40 : Value) (x41 x42 : Nat) (x43 : Int32) (x44 : Nat) (x45 : ClassId) (x46 : NI) (x47 : Nat) (x48 : ClassId) (x49 : NI) (x50 : Nat) (x51 : ClassId) (x52 : Nat) (x53 : Nat → Int64) : va_W := [(x0, .inr (10, [.ref x1, .ref x2, x3, x4, x5, .ref x6, .ref x7, x8, x9, x10, x11, x12, x13, x14, x15, x16, x17, x18, .int x19])), (x20, .inr (8, [.ref x21, .int x22, .int x23, .int x24, .int x25, .int x26, .int x27])), (x28, .inr (2, [x29, x30, x31, x32, x33, x34, x35, x36, .int x37, x38, x39, x40])), (x41, .inr (0, [.ref x42, .int x43])), (x44, .inl (x45, 8, .inl x46)), (x47, .inl (x48, 600, .inl x49)), (x50, .inl (x51, x52, .inr (.inl x53)))]
def qakg (x0 x1 x2 : Nat) (x3 x4 x5 x6 x7 x8 x9 x10 x11 x12 x13 x14 x15 x16 x17 x18 : Value) (x19 : Int32) (x20 x21 : Nat) (x22 x23 x24 x25 x26 x27 : Int32) (x28 : Nat) (x29 x30 x31 x32 x33 x34 x35 x36 : Value) (x37 : Int32) (x38 x39 x40 : Value) (x41 x42 : Nat) (x43 : Int32) (x44 : Nat) (x45 : ClassId) (x46 : NI) (x47 : Nat) (x48 : ClassId) (x49 : NI) (x50 : Nat) (x51 : ClassId) (x52 : Nat) (x53 : Nat → Int64) : va_W := [(x0, .inr (10, [.ref x1, .ref x2, x3, x4, x5, x6, x7, x8, x9, x10, x11, x12, x13, x14, x15, x16, x17, x18, .int x19])), (x20, .inr (8, [.ref x21, .int x22, .int x23, .int x24, .int x25, .int x26, .int x27])), (x28, .inr (2, [x29, x30, x31, x32, x33, x34, x35, x36, .int x37, x38, x39, x40])), (x41, .inr (0, [.ref x42, .int x43])), (x44, .inl (x45, 8, .inl x46)), (x47, .inl (x48, 600, .inl x49)), (x50, .inl (x51, x52, .inr (.inl x53)))]
def qGK (x0 : Nat) (x1 : Value) (x2 : Nat) (x3 x4 x5 x6 x7 x8 x9 x10 x11 x12 x13 x14 x15 x16 x17 : Value) (x18 : Int32) (x19 : Value) (x20 : Nat) (x21 x22 x23 x24 x25 x26 x27 x28 x29 : Value) (x30 : Int32) (x31 x32 : Value) : va_W := [(x0, .inr (10, [x1, .ref x2, x3, x4, x5, x6, x7, x8, x9, x10, x11, x12, x13, x14, x15, x16, x17, .int x18, x19])), (x20, .inr (2, [x21, x22, x23, x24, x25, x26, x27, x28, x29, .int x30, x31, x32]))]
theorem qTl : (.constant RJ6 265 (1431655765) : Cond) ∈ wsJ6_bitCount_0f7a4 := qFH 1805 (by decide +kernel)
theorem qDT : (.constant RJ6 266 (858993459) : Cond) ∈ wsJ6_bitCount_0f7a4 := qFH 1806 (by decide +kernel)
theorem qTu : (.constant RJ6 267 (252645135) : Cond) ∈ wsJ6_bitCount_0f7a4 := qFH 1807 (by decide +kernel)
set_option maxHeartbeats 4000000 in
set_option maxRecDepth 100000 in
theorem qx2 (l : Launch) (dC : Nat → ClassId) (dI : Nat → Nat → Nat) (cyB cyI cyJ cyP : ClassId) (sz : Nat) (p0 : Int32) {Q : Int32 → Prop} (hw : qoE p0 Q) : Met l yJ6_bitCount_0f7a4 wsJ6_bitCount_0f7a4 ({ frames := 0, cells := 0, slots := 0, locals := 0 }) (va_Pc [.int p0] (cPc (dC, dI) (kT cyB cyI cyJ cyP) [] sz)) (va_Qi (fun (r : Int32) (_ : Unit) => Q r ) (cB (dC, dI) (kT cyB cyI cyJ cyP) (va_A [] sz) (fun u : Unit => ([] : va_W))) (va_A [] sz)) 0 0 (va_A [] sz) := by
  refine Met.ofW (cc := cJ6_bitCount_0f7a4) (maxL := 1) (ret := (some .int)) (by decide) rfl ?_
  intro p e s m args below meth c s₁ B hml hv
  obtain ⟨rfl, hsz, hP, hK, hD0, hNw⟩ := hv
  have hx := B.exec
  have hb := B.bytes
  have hr := B.returns
  have hts := atoms_spec (ws := wsJ6_bitCount_0f7a4) B.pre
  have hown : s.vm.findClass RJ6 = some m.cls := findClass_of_methodNamed B.named
  have hlocks := B.notSynchronized
  subst hsz
  have hD := hD0.self (sz := s.heap.size)
  generalize hAe : va_A [] s.heap.size = A at hD ⊢
  have hA : ∀ q : Nat, s.heap.size ≤ q → A q := fun q h => by rw [← hAe]; exact Or.inr h
  have hS : va_S A s.heap s.heap [] := va_S.rf
  have hP : va_P (dC, dI) vwCl [] s.heap := hP
  have hl := lv_entry ([.int p0]) (n := 1) (nbq rfl)
  rw [lg_entry_eq]
  generalize (lg_sl ([.int p0]) ++ List.replicate (1 - (lg_sl ([.int p0])).length) Slot.unset).toArray = ls at hl ⊢
  have hl : lv_has ls 1 [(0, .int p0)] := hl
  have C0 : cfx p s m _ meth c cJ6_bitCount_0f7a4 (some .int) wsJ6_bitCount_0f7a4 RJ6 1 A (dC, dI) (kT cyB cyI cyJ cyP) := ⟨hx, hb, hr, hts, hown, hlocks, hml, hA, hK, hNw⟩
  clear hAe
  obtain ⟨H, hH⟩ : ∃ H, H = s.heap := ⟨_, rfl⟩
  rw [← hH] at hP ⊢
  have hS : va_S A s.heap H [] := by rw [hH]; exact va_S.rf
  have hS := hS
  refine lv_iload_n hx hb (qaa qbZ 0 rfl) rfl (lv_at hl 0 rfl) ?_
  refine lv_iload_n hx hb (qaa qbZ 1 rfl) rfl (lv_at hl 0 rfl) ?_
  refine lv_iconst (v := 1) hx hb (qaa qbZ 2 rfl) (by decide) ?_
  refine lv_iushr (v := (p0.toUInt32 >>> ((1 : Int32).toUInt32 &&& Int32.toUInt32 31)).toInt32) hx hb (qaa qbZ 3 rfl) rfl ?_
  refine lv_topi (fun x1 ex1 => ?_)
  have hw := hw x1 ex1
  refine lv_ldcw (v := 1431655765) hx hb hown (hts _ qTl) (qaa qbZ 4 rfl) ?_
  refine lv_iand hx hb (qaa qbZ 5 rfl) ?_
  refine lv_isub hx hb (qaa qbZ 6 rfl) ?_
  refine lv_topi (fun x2 ex2 => ?_)
  have hw := hw x2 ex2
  refine lv_istore_n (lv' := [(0, .int x2)]) hx hb (qaa qbZ 7 rfl) rfl hl (by decide) rfl (fun ls hl => ?_)
  refine lv_iload_n hx hb (qaa qbZ 8 rfl) rfl (lv_at hl 0 rfl) ?_
  refine lv_ldcw (v := 858993459) hx hb hown (hts _ qDT) (qaa qbZ 9 rfl) ?_
  refine lv_iand hx hb (qaa qbZ 10 rfl) ?_
  refine lv_iload_n hx hb (qaa qbZ 11 rfl) rfl (lv_at hl 0 rfl) ?_
  refine lv_iconst (v := 2) hx hb (qaa qbZ 12 rfl) (by decide) ?_
  refine lv_iushr (v := (x2.toUInt32 >>> ((2 : Int32).toUInt32 &&& Int32.toUInt32 31)).toInt32) hx hb (qaa qbZ 13 rfl) rfl ?_
  refine lv_topi (fun x3 ex3 => ?_)
  have hw := hw x3 ex3
  refine lv_ldcw (v := 858993459) hx hb hown (hts _ qDT) (qaa qbZ 14 rfl) ?_
  refine lv_iand hx hb (qaa qbZ 15 rfl) ?_
  refine lv_iadd hx hb (qaa qbR 0 rfl) ?_
  refine lv_topi (fun x4 ex4 => ?_)
  have hw := hw x4 ex4
  refine lv_istore_n (lv' := [(0, .int x4)]) hx hb (qaa qbR 1 rfl) rfl hl (by decide) rfl (fun ls hl => ?_)
  refine lv_iload_n hx hb (qaa qbR 2 rfl) rfl (lv_at hl 0 rfl) ?_
  refine lv_iload_n hx hb (qaa qbR 3 rfl) rfl (lv_at hl 0 rfl) ?_
  refine lv_iconst (v := 4) hx hb (qaa qbR 4 rfl) (by decide) ?_
  refine lv_iushr (v := (x4.toUInt32 >>> ((4 : Int32).toUInt32 &&& Int32.toUInt32 31)).toInt32) hx hb (qaa qbR 5 rfl) rfl ?_
  refine lv_topi (fun x5 ex5 => ?_)
  have hw := hw x5 ex5
  refine lv_iadd hx hb (qaa qbR 6 rfl) ?_
  refine lv_ldcw (v := 252645135) hx hb hown (hts _ qTu) (qaa qbR 7 rfl) ?_
  refine lv_iand hx hb (qaa qbR 8 rfl) ?_
  refine lv_topi (fun x6 ex6 => ?_)
  have hw := hw x6 ex6
  refine lv_istore_n (lv' := [(0, .int x6)]) hx hb (qaa qbR 9 rfl) rfl hl (by decide) rfl (fun ls hl => ?_)
  refine lv_iload_n hx hb (qaa qbR 10 rfl) rfl (lv_at hl 0 rfl) ?_
  refine lv_iload_n hx hb (qaa qbR 11 rfl) rfl (lv_at hl 0 rfl) ?_
  refine lv_bipush (v := 8) hx hb (qaa qbR 12 rfl) (by decide) ?_
  refine lv_iushr (v := (x6.toUInt32 >>> ((8 : Int32).toUInt32 &&& Int32.toUInt32 31)).toInt32) hx hb (qaa qbR 13 rfl) rfl ?_
  refine lv_topi (fun x7 ex7 => ?_)
  have hw := hw x7 ex7
  refine lv_iadd hx hb (qaa qbR 14 rfl) ?_
  refine lv_topi (fun x8 ex8 => ?_)
  have hw := hw x8 ex8
  refine lv_istore_n (lv' := [(0, .int x8)]) hx hb (qaa qbR 15 rfl) rfl hl (by decide) rfl (fun ls hl => ?_)
  refine lv_iload_n hx hb (qaa qgb 0 rfl) rfl (lv_at hl 0 rfl) ?_
  refine lv_iload_n hx hb (qaa qgb 1 rfl) rfl (lv_at hl 0 rfl) ?_
  refine lv_bipush (v := 16) hx hb (qaa qgb 2 rfl) (by decide) ?_
  refine lv_iushr (v := (x8.toUInt32 >>> ((16 : Int32).toUInt32 &&& Int32.toUInt32 31)).toInt32) hx hb (qaa qgb 3 rfl) rfl ?_
  refine lv_topi (fun x9 ex9 => ?_)
  have hw := hw x9 ex9
  refine lv_iadd hx hb (qaa qgb 4 rfl) ?_
  refine lv_topi (fun x10 ex10 => ?_)
  have hw := hw x10 ex10
  refine lv_istore_n (lv' := [(0, .int x10)]) hx hb (qaa qgb 5 rfl) rfl hl (by decide) rfl (fun ls hl => ?_)
  refine lv_iload_n hx hb (qaa qgb 6 rfl) rfl (lv_at hl 0 rfl) ?_
  refine lv_bipush (v := 63) hx hb (qaa qgb 7 rfl) (by decide) ?_
  refine lv_iand hx hb (qaa qgb 8 rfl) ?_
  exact ((W.iret (v := (x10 &&& 63)) hx hb hr (fun t ht hW => ⟨⟨(x10 &&& 63), (), rfl, hw, by rw [ht]; exact hP, va_K.moved hW.alike hK, hD⟩, hS.F ht⟩) hS.2.2 (qaa qgb 9 rfl)))
set_option maxHeartbeats 4000000 in
set_option maxRecDepth 100000 in
theorem qzC (l : Launch) (dC : Nat → ClassId) (dI : Nat → Nat → Nat) (cyB cyI cyJ cyP : ClassId) (sz : Nat) (p0 p1 p2 : Int32) {Q : Int32 → Prop} (hw : qqN p0 p1 p2 Q) : Met l yX10_within wsX10_within ({ frames := 0, cells := 0, slots := 0, locals := 0 }) (va_Pc [.int p0, .int p1, .int p2] (cPc (dC, dI) (kT cyB cyI cyJ cyP) [] sz)) (va_Qi (fun (r : Int32) (_ : Unit) => Q r ) (cB (dC, dI) (kT cyB cyI cyJ cyP) (va_A [] sz) (fun u : Unit => ([] : va_W))) (va_A [] sz)) 0 0 (va_A [] sz) := by
  refine Met.ofW (cc := cX10_within) (maxL := 3) (ret := (some .boolean)) (by decide) rfl ?_
  intro p e s m args below meth c s₁ B hml hv
  obtain ⟨rfl, hsz, hP, hK, hD0, hNw⟩ := hv
  have hx := B.exec
  have hb := B.bytes
  have hr := B.returns
  have hts := atoms_spec (ws := wsX10_within) B.pre
  have hown : s.vm.findClass RX10 = some m.cls := findClass_of_methodNamed B.named
  have hlocks := B.notSynchronized
  subst hsz
  have hD := hD0.self (sz := s.heap.size)
  generalize hAe : va_A [] s.heap.size = A at hD ⊢
  have hA : ∀ q : Nat, s.heap.size ≤ q → A q := fun q h => by rw [← hAe]; exact Or.inr h
  have hS : va_S A s.heap s.heap [] := va_S.rf
  have hP : va_P (dC, dI) vwCl [] s.heap := hP
  have hl := lv_entry ([.int p0, .int p1, .int p2]) (n := 3) (nbq rfl)
  rw [lg_entry_eq]
  generalize (lg_sl ([.int p0, .int p1, .int p2]) ++ List.replicate (3 - (lg_sl ([.int p0, .int p1, .int p2])).length) Slot.unset).toArray = ls at hl ⊢
  have hl : lv_has ls 3 [(0, .int p0), (1, .int p1), (2, .int p2)] := hl
  have C0 : cfx p s m _ meth c cX10_within (some .boolean) wsX10_within RX10 3 A (dC, dI) (kT cyB cyI cyJ cyP) := ⟨hx, hb, hr, hts, hown, hlocks, hml, hA, hK, hNw⟩
  clear hAe
  obtain ⟨H, hH⟩ : ∃ H, H = s.heap := ⟨_, rfl⟩
  rw [← hH] at hP ⊢
  have hS : va_S A s.heap H [] := by rw [hH]; exact va_S.rf
  have hS := hS
  refine lv_iload_n hx hb (qaa qm6 0 rfl) rfl (lv_at hl 0 rfl) ?_
  refine lv_iload_n hx hb (qaa qm6 1 rfl) rfl (lv_at hl 1 rfl) ?_
  refine lv_icmp_lt (tgt := 14) hx hb (qaa qm6 2 rfl) (by decide) (fun c1 => ?_) (fun c1 => ?_)
  · have hw := hw.1 c1
    refine lv_iconst (v := 0) hx hb (qaa qm6 8 rfl) (by decide) ?_
    exact ((W.zret (v := 0) hx hb hr rfl (fun t ht hW => ⟨⟨0, (), rfl, hw, by rw [ht]; exact hP, va_K.moved hW.alike hK, hD⟩, hS.F ht⟩) hS.2.2 (qaa qm6 9 rfl)))
  · have hw := hw.2 c1
    refine lv_iload_n hx hb (qaa qm6 3 rfl) rfl (lv_at hl 0 rfl) ?_
    refine lv_iload_n hx hb (qaa qm6 4 rfl) rfl (lv_at hl 2 rfl) ?_
    refine lv_icmp_gt (tgt := 14) hx hb (qaa qm6 5 rfl) (by decide) (fun c2 => ?_) (fun c2 => ?_)
    · have hw := hw.1 c2
      refine lv_iconst (v := 0) hx hb (qaa qm6 8 rfl) (by decide) ?_
      exact ((W.zret (v := 0) hx hb hr rfl (fun t ht hW => ⟨⟨0, (), rfl, hw, by rw [ht]; exact hP, va_K.moved hW.alike hK, hD⟩, hS.F ht⟩) hS.2.2 (qaa qm6 9 rfl)))
    · have hw := hw.2 c2
      refine lv_iconst (v := 1) hx hb (qaa qm6 6 rfl) (by decide) ?_
      refine lv_goto (tgt := 15) hx hb (qaa qm6 7 rfl) (by decide) ?_
      exact ((W.zret (v := 1) hx hb hr rfl (fun t ht hW => ⟨⟨1, (), rfl, hw, by rw [ht]; exact hP, va_K.moved hW.alike hK, hD⟩, hS.F ht⟩) hS.2.2 (qaa qm6 9 rfl)))
theorem q6d : ∀ w ∈ (vx_atS RX10 409 "java/lang/IllegalArgumentException" ["java/lang/RuntimeException", "java/lang/Exception"]).filter (fun w => !goodWord w), w ∈ xB := by decide +kernel
theorem q5G : ∀ w ∈ Cond.classLink RX10 405 "java/lang/IllegalArgumentException" :: Cond.initialized "java/lang/IllegalArgumentException" :: vx_atS RX10 409 "java/lang/IllegalArgumentException" ["java/lang/RuntimeException", "java/lang/Exception"], vx_ot w = true := by decide +kernel
theorem q54 : ∀ w ∈ (vx_atS RX10 409 "java/lang/IllegalArgumentException" ["java/lang/RuntimeException", "java/lang/Exception"]).filter goodWord, w ∈ wsX10_needLegal := by decide +kernel
theorem qNr : ∀ w ∈ u_ws RX10 TX10 19, w ∈ wsX10_needLegal := uiM qIv qyN (by decide +kernel)
theorem q0s : (.classLink RX10 405 "java/lang/IllegalArgumentException" : Cond) ∈ wsX10_needLegal := qIv 704 (by decide +kernel)
theorem qLz : (.fieldLink RX10 395 "MarchHares" "callsIllegal" "I" : Cond) ∈ wsX10_needLegal := qIv 706 (by decide +kernel)
theorem qXU : (.initialized "java/lang/IllegalArgumentException" : Cond) ∈ wsX10_needLegal := qIv 705 (by decide +kernel)
set_option maxHeartbeats 4000000 in
set_option maxRecDepth 100000 in
theorem qZk (l : Launch) (dC : Nat → ClassId) (dI : Nat → Nat → Nat) (cyB cyI cyJ cyP : ClassId) (a0 sz : Nat) (jaK jfS ja1 jcp jbc jbV ja3 jbH ja2 jbO jaq jac jbI jbl jbn jba jaa jbA : Value) (jbz p1 : Int32) {E : String → Int32 → Prop} {Q : Int32 → Prop} (hw : qL9 jbz p1 E Q) : vx_Met l yX10_needLegal wsX10_needLegal ({ frames := 6, cells := 1, slots := 6, locals := 120 }) (va_Pc [.ref a0, .int p1] (cPx l (dC, dI) (kT cyB cyI cyJ cyP) (qwW a0 jaK jfS ja1 jcp jbc jbV ja3 jbH ja2 jbO jaq jac jbI jbl jbn jba jaa jbA jbz) sz)) (va_Qv (fun (u : Int32) => Q u) (cB (dC, dI) (kT cyB cyI cyJ cyP) (va_A (qwW a0 jaK jfS ja1 jcp jbc jbV ja3 jbH ja2 jbO jaq jac jbI jbl jbn jba jaa jbA jbz) sz) (fun u : Int32 => ((qwW a0 jaK jfS ja1 jcp jbc jbV ja3 jbH ja2 jbO jaq jac jbI jbl jbn jba jaa jbA u) : va_W))) (va_A (qwW a0 jaK jfS ja1 jcp jbc jbV ja3 jbH ja2 jbO jaq jac jbI jbl jbn jba jaa jbA jbz) sz)) (vx_X (fun _ => True) (fun (en : String) (u : Int32) (t : State) => E en u ∧ cB (dC, dI) (kT cyB cyI cyJ cyP) (va_A (qwW a0 jaK jfS ja1 jcp jbc jbV ja3 jbH ja2 jbO jaq jac jbI jbl jbn jba jaa jbA jbz) sz) (fun u : Int32 => ((qwW a0 jaK jfS ja1 jcp jbc jbV ja3 jbH ja2 jbO jaq jac jbI jbl jbn jba jaa jbA u) : va_W)) u t) (va_A (qwW a0 jaK jfS ja1 jcp jbc jbV ja3 jbH ja2 jbO jaq jac jbI jbl jbn jba jaa jbA jbz) sz)) 1 6 (va_A (qwW a0 jaK jfS ja1 jcp jbc jbV ja3 jbH ja2 jbO jaq jac jbI jbl jbn jba jaa jbA jbz) sz) := by
  refine vx_ofW (cc := cX10_needLegal) (maxL := 2) (ret := none) (by decide) rfl ?_
  intro p e s m args below meth c s₁ B hml hnt hv
  obtain ⟨rfl, hsz, hP, hK, hD0, hNw, hXl, hXu, hXn, hXt⟩ := hv
  have hx := B.exec
  have hb := B.bytes
  have hr := B.returns
  have hts := atoms_spec (ws := wsX10_needLegal) B.pre
  have hown : s.vm.findClass RX10 = some m.cls := findClass_of_methodNamed B.named
  have hlocks := B.notSynchronized
  subst hsz
  have hD := hD0.self (sz := s.heap.size)
  generalize hAe : va_A (qwW a0 jaK jfS ja1 jcp jbc jbV ja3 jbH ja2 jbO jaq jac jbI jbl jbn jba jaa jbA jbz) s.heap.size = A at hD hXu hXn ⊢
  have hA : ∀ q : Nat, s.heap.size ≤ q → A q := fun q h => by rw [← hAe]; exact Or.inr h
  have hS : va_S A s.heap s.heap [] := va_S.rf
  have hP : va_P (dC, dI) vwCl (qwW a0 jaK jfS ja1 jcp jbc jbV ja3 jbH ja2 jbO jaq jac jbI jbl jbn jba jaa jbA jbz) s.heap := hP
  have hl := lv_entry ([.ref a0, .int p1]) (n := 2) (nbq rfl)
  rw [lg_entry_eq]
  generalize (lg_sl ([.ref a0, .int p1]) ++ List.replicate (2 - (lg_sl ([.ref a0, .int p1])).length) Slot.unset).toArray = ls at hl ⊢
  have hl : lv_has ls 2 [(0, .ref a0), (1, .int p1)] := hl
  have hY : cfY l s A := ⟨hXl, hXu, hXn, hXt⟩
  have hXs : cfX l s c A := ⟨hnt, hY⟩
  have C0 : cfx p s m _ meth c cX10_needLegal none wsX10_needLegal RX10 2 A (dC, dI) (kT cyB cyI cyJ cyP) ∧ cfX l s c A := ⟨⟨hx, hb, hr, hts, hown, hlocks, hml, hA, hK, hNw⟩, hXs⟩
  clear hAe
  obtain ⟨H, hH⟩ : ∃ H, H = s.heap := ⟨_, rfl⟩
  rw [← hH] at hP ⊢
  have hS : va_S A s.heap H [] := by rw [hH]; exact va_S.rf
  have hS := hS
  refine lv_iload_n hx hb (qaa qe3 0 rfl) rfl (lv_at hl 1 rfl) ?_
  refine lv_if_ne (tgt := 25) hx hb (qaa qe3 1 rfl) (by decide) (fun c1 => ?_) (fun c1 => ?_)
  · have hw := hw.1 c1
    exact vx_ret (W.widen (k := 1) (n := 6) (nbq rfl) (nbq rfl) (W.vret hx hb hr (fun t ht hW => ⟨⟨(jbz), rfl, hw, by rw [ht]; exact hP, va_K.moved hW.alike hK, hD⟩, hS.F ht⟩) hS.2.2 (qaa qe3 13 rfl)))
  · have hw := hw.2 c1
    refine lv_aload_n hx hb (qaa qe3 2 rfl) rfl (lv_at hl 0 rfl) ?_
    refine lv_dup hx hb (qaa qe3 3 rfl) rfl ?_
    refine va_get (D := (dC, dI)) (ci := 10) (v := .int jbz) (C := RX10) (T := TX10) (N := 19) hx hb hts qNr hown hK hP 0 rfl rfl 18 (by decide) (hts _ qLz) (fun _ h9 => h9) rfl (qaa qe3 4 rfl) ?_
    refine lv_iconst (v := 1) hx hb (qaa qe3 5 rfl) (by decide) ?_
    refine lv_iadd hx hb (qaa qe3 6 rfl) ?_
    refine lv_topi (fun x2 ex2 => ?_)
    have hw := hw x2 ex2
    refine va_put (D := (dC, dI)) (ci := 10) (v := .int x2) (ty := .int) (C := RX10) (T := TX10) (N := 19) hx hb hts qNr tyX10 tyX10_ok nmX10 hown hK hP hD hS 0 rfl rfl 18 (by decide) (hts _ qLz) (fun _ h9 => h9) rfl (by decide +kernel) rfl rfl (nbq rfl) (qaa qe3 7 rfl) (fun H locs hP hD hS => ?_)
    have hP : va_P (dC, dI) vwCl (qwW a0 jaK jfS ja1 jcp jbc jbV ja3 jbH ja2 jbO jaq jac jbI jbl jbn jba jaa jbA x2) H := hP
    have hD : va_D A (qwW a0 jaK jfS ja1 jcp jbc jbV ja3 jbH ja2 jbO jaq jac jbI jbl jbn jba jaa jbA x2) := hD
    obtain ⟨sa9, hsa9⟩ := hY.2.2.2.2.1 _ (List.mem_of_getElem? (i := 3) rfl)
    exact vx_throwSW hx hb hY.1 (own := RX10) (cls := "java/lang/IllegalArgumentException") (names := ["java/lang/RuntimeException", "java/lang/Exception"]) (ik := 405) (is := 407) (ic := 409) hown (by decide +kernel) (by decide +kernel) (hts _ q0s) (hts _ qXU) hsa9 (vx_hat (fun w hw9 => hts w (q54 w hw9)) q6d (qa1a hY.2.2.2.1)) q5G hY.2.1 hY.2.2.1 hS (by rw [hml]; exact hl.1) (qaa qe3 8 rfl) (qaa qe3 9 rfl) (qaa qe3 10 rfl) (qaa qe3 11 rfl) (qaa qe3 12 rfl) (fun x hx9 => (hXs.1 x hx9).elim) (nbq rfl) (nbq rfl) (nbq rfl) (nbq rfl) hlocks (fun t hal hsz9 hq9 => ⟨(x2), trivial, ⟨hw, hP.kept (fun k q hk9 => hq9 _ ((hP k q hk9).lt)), va_K.moved hal hK, hD⟩, qau3 hS hsz9 hq9⟩) hS.2.2 (nbq rfl) (nbq rfl)
set_option maxHeartbeats 4000000 in
set_option maxRecDepth 100000 in
theorem qaV (l : Launch) (dC : Nat → ClassId) (dI : Nat → Nat → Nat) (cyB cyI cyJ cyP : ClassId) (a0 sz : Nat) (jaK jfS ja1 jcp jbc jbV ja3 jbH ja2 jbO jaq jac jbI jbl jbn jba jaa jbA : Value) (jbz p1 p2 p3 : Int32) {E : String → Int32 → Prop} {Q : Int32 → Prop} (hw : qaC jbz p1 p2 p3 E Q) : vx_Met l yX10_needWithin wsX10_needWithin ({ frames := 7, cells := 1, slots := 6, locals := 141 }) (va_Pc [.ref a0, .int p1, .int p2, .int p3] (cPx l (dC, dI) (kT cyB cyI cyJ cyP) (qwW a0 jaK jfS ja1 jcp jbc jbV ja3 jbH ja2 jbO jaq jac jbI jbl jbn jba jaa jbA jbz) sz)) (va_Qv (fun (u : Int32) => Q u) (cB (dC, dI) (kT cyB cyI cyJ cyP) (va_A (qwW a0 jaK jfS ja1 jcp jbc jbV ja3 jbH ja2 jbO jaq jac jbI jbl jbn jba jaa jbA jbz) sz) (fun u : Int32 => ((qwW a0 jaK jfS ja1 jcp jbc jbV ja3 jbH ja2 jbO jaq jac jbI jbl jbn jba jaa jbA u) : va_W))) (va_A (qwW a0 jaK jfS ja1 jcp jbc jbV ja3 jbH ja2 jbO jaq jac jbI jbl jbn jba jaa jbA jbz) sz)) (vx_X (fun _ => True) (fun (en : String) (u : Int32) (t : State) => E en u ∧ cB (dC, dI) (kT cyB cyI cyJ cyP) (va_A (qwW a0 jaK jfS ja1 jcp jbc jbV ja3 jbH ja2 jbO jaq jac jbI jbl jbn jba jaa jbA jbz) sz) (fun u : Int32 => ((qwW a0 jaK jfS ja1 jcp jbc jbV ja3 jbH ja2 jbO jaq jac jbI jbl jbn jba jaa jbA u) : va_W)) u t) (va_A (qwW a0 jaK jfS ja1 jcp jbc jbV ja3 jbH ja2 jbO jaq jac jbI jbl jbn jba jaa jbA jbz) sz)) 1 6 (va_A (qwW a0 jaK jfS ja1 jcp jbc jbV ja3 jbH ja2 jbO jaq jac jbI jbl jbn jba jaa jbA jbz) sz) := by
  refine vx_ofW (cc := cX10_needWithin) (maxL := 4) (ret := none) (by decide) rfl ?_
  intro p e s m args below meth c s₁ B hml hnt hv
  obtain ⟨rfl, hsz, hP, hK, hD0, hNw, hXl, hXu, hXn, hXt⟩ := hv
  have hx := B.exec
  have hb := B.bytes
  have hr := B.returns
  have hts := atoms_spec (ws := wsX10_needWithin) B.pre
  have hown : s.vm.findClass RX10 = some m.cls := findClass_of_methodNamed B.named
  have hlocks := B.notSynchronized
  subst hsz
  have hD := hD0.self (sz := s.heap.size)
  generalize hAe : va_A (qwW a0 jaK jfS ja1 jcp jbc jbV ja3 jbH ja2 jbO jaq jac jbI jbl jbn jba jaa jbA jbz) s.heap.size = A at hD hXu hXn ⊢
  have hA : ∀ q : Nat, s.heap.size ≤ q → A q := fun q h => by rw [← hAe]; exact Or.inr h
  have hS : va_S A s.heap s.heap [] := va_S.rf
  have hP : va_P (dC, dI) vwCl (qwW a0 jaK jfS ja1 jcp jbc jbV ja3 jbH ja2 jbO jaq jac jbI jbl jbn jba jaa jbA jbz) s.heap := hP
  have hl := lv_entry ([.ref a0, .int p1, .int p2, .int p3]) (n := 4) (nbq rfl)
  rw [lg_entry_eq]
  generalize (lg_sl ([.ref a0, .int p1, .int p2, .int p3]) ++ List.replicate (4 - (lg_sl ([.ref a0, .int p1, .int p2, .int p3])).length) Slot.unset).toArray = ls at hl ⊢
  have hl : lv_has ls 4 [(0, .ref a0), (1, .int p1), (2, .int p2), (3, .int p3)] := hl
  have hY : cfY l s A := ⟨hXl, hXu, hXn, hXt⟩
  have hXs : cfX l s c A := ⟨hnt, hY⟩
  have C0 : cfx p s m _ meth c cX10_needWithin none wsX10_needWithin RX10 4 A (dC, dI) (kT cyB cyI cyJ cyP) ∧ cfX l s c A := ⟨⟨hx, hb, hr, hts, hown, hlocks, hml, hA, hK, hNw⟩, hXs⟩
  clear hAe
  obtain ⟨H, hH⟩ : ∃ H, H = s.heap := ⟨_, rfl⟩
  rw [← hH] at hP ⊢
  have hS : va_S A s.heap H [] := by rw [hH]; exact va_S.rf
  have hS := hS
  refine lv_aload_n hx hb (qaa qq2 0 rfl) rfl (lv_at hl 0 rfl) ?_
  refine lv_iload_n hx hb (qaa qq2 1 rfl) rfl (lv_at hl 1 rfl) ?_
  refine lv_iload_n hx hb (qaa qq2 2 rfl) rfl (lv_at hl 2 rfl) ?_
  refine lv_iload_n hx hb (qaa qq2 3 rfl) rfl (lv_at hl 3 rfl) ?_
  obtain ⟨hCc, hPc, hDc, hFc⟩ := qac (ws' := []) hP hD hS hA [] (by decide +kernel) rfl
  refine va_calli (va_runS (As := [.int p1, .int p2, .int p3]) (rest := [.ref a0]) ⟨hx, hb, hml, hown, hts⟩ (qzC l dC dI cyB cyI cyJ cyP H.size p1 p2 p3 hw) (va_cwS 3 hts gX10_needWithin_X10_within rfl rfl rfl (by decide +kernel) ⟨nbq rfl, nbq rfl⟩) ⟨qab, qae hPc hK hDc hNw⟩ rfl rfl hl.1 rfl (lv_room (nbq rfl)) (qaa qq2 4 rfl) ⟨nbq rfl, nbq rfl⟩) hS (fun q _ h => hFc q h) hFc (fun r1 u t H1 locs ht hvm hw hB hz1 hk1 hS => ?_)
  obtain ⟨hP1, hK1, hD1⟩ := hB
  rw [ht] at hP1
  obtain ⟨hP, hD⟩ := qah (wr := (qwW a0 jaK jfS ja1 jcp jbc jbV ja3 jbH ja2 jbO jaq jac jbI jbl jbn jba jaa jbA jbz)) (w1 := []) (wn := (qwW a0 jaK jfS ja1 jcp jbc jbV ja3 jbH ja2 jbO jaq jac jbI jbl jbn jba jaa jbA jbz)) hP hD [] [0] hCc rfl (by decide +kernel) (by decide +kernel) rfl hk1 hFc hP1 hD1
  generalize H1 = H at hP hS ⊢
  obtain ⟨hCc, hPc, hDc, hFc⟩ := qac (ws' := (qwW a0 jaK jfS ja1 jcp jbc jbV ja3 jbH ja2 jbO jaq jac jbI jbl jbn jba jaa jbA jbz)) hP hD hS hA [0] (by decide +kernel) rfl
  refine vx_callv (vx_runV (As := [.int r1]) (rest := []) ⟨hx, hb, hml, hown, hts⟩ (qZk l dC dI cyB cyI cyJ cyP a0 H.size (jaK) (jfS) (ja1) (jcp) (jbc) (jbV) (ja3) (jbH) (ja2) (jbO) (jaq) (jac) (jbI) (jbl) (jbn) (jba) (jaa) (jbA) jbz r1 hw) (cwV 1 hts gX10_needWithin_X10_needLegal rfl rfl rfl (by decide +kernel) ⟨nbq rfl, nbq rfl⟩) ⟨qav, va_recv (q := (RX10, TX10, 19)) hK hPc (ci := 10) (q0 := 0) rfl rfl, qbl hPc hK hDc hNw hY hS hFc⟩ rfl rfl hl.1 rfl (lv_room (nbq rfl)) (qaa qq2 5 rfl) ⟨nbq rfl, nbq rfl⟩) hS (fun q _ h => hFc q h) hFc (fun q _ h => hFc q h) (fun en ce q9 u t H1 locs ht hvm hpx hB hz1 hk1 hS hc9 hv9 hcl9 => ?_) (fun u t H1 locs ht hvm hw hB hz1 hk1 hS => ?_)
  · obtain ⟨x2, rfl⟩ : ∃ z, z = u := ⟨_, rfl⟩
    obtain ⟨hw, hP1, hK1, hD1⟩ := hB
    rw [ht] at hP1
    obtain ⟨hP, hD⟩ := qah (wr := []) (w1 := (qwW a0 jaK jfS ja1 jcp jbc jbV ja3 jbH ja2 jbO jaq jac jbI jbl jbn jba jaa jbA x2)) (wn := (qwW a0 jaK jfS ja1 jcp jbc jbV ja3 jbH ja2 jbO jaq jac jbI jbl jbn jba jaa jbA x2)) hP hD [0] [] hCc rfl (by decide +kernel) (by decide +kernel) rfl hk1 hFc hP1 hD1
    generalize H1 = H at hP hS hc9 ⊢
    exact vx_out (fun x hx9 => (hXs.1 x hx9).elim) hlocks hc9 hv9 hcl9 (fun t2 ht2 hal2 => ⟨(x2), trivial, ⟨hw, by rw [ht2]; exact hP, va_K.moved hal2 hK, hD⟩, hS.F ht2⟩) hS.2.2 (nbq rfl) (nbq rfl)
  obtain ⟨x2, rfl⟩ : ∃ z, z = u := ⟨_, rfl⟩
  obtain ⟨hP1, hK1, hD1⟩ := hB
  rw [ht] at hP1
  obtain ⟨hP, hD⟩ := qah (wr := []) (w1 := (qwW a0 jaK jfS ja1 jcp jbc jbV ja3 jbH ja2 jbO jaq jac jbI jbl jbn jba jaa jbA x2)) (wn := (qwW a0 jaK jfS ja1 jcp jbc jbV ja3 jbH ja2 jbO jaq jac jbI jbl jbn jba jaa jbA x2)) hP hD [0] [] hCc rfl (by decide +kernel) (by decide +kernel) rfl hk1 hFc hP1 hD1
  generalize H1 = H at hP hS ⊢
  exact vx_ret (W.widen (k := 1) (n := 6) (nbq rfl) (nbq rfl) (W.vret hx hb hr (fun t ht hW => ⟨⟨(x2), rfl, hw, by rw [ht]; exact hP, va_K.moved hW.alike hK, hD⟩, hS.F ht⟩) hS.2.2 (qaa qq2 6 rfl)))
theorem qvH : ∀ w ∈ u_ws RX1 TX1 4, w ∈ wsX1_copyFrom := uiM qxd qWg (by decide +kernel)
theorem qahz : (.initialized "java/lang/System" : Cond) ∈ wsX1_copyFrom := qxd 331 (by decide +kernel)
theorem qahm : (.native arraycopyName : Cond) ∈ wsX1_copyFrom := qxd 329 (by decide +kernel)
theorem qadF : (.static arraycopyName : Cond) ∈ wsX1_copyFrom := qxd 330 (by decide +kernel)
theorem qSc : (.fieldLink RX1 13 "MarchHares$Days" "row" "[I" : Cond) ∈ wsX1_copyFrom := qxd 276 (by decide +kernel)
theorem qSU : (.fieldLink RX1 24 "MarchHares$Days" "down" "LMarchHares$Down;" : Cond) ∈ wsX1_copyFrom := qxd 322 (by decide +kernel)
theorem qRY : (.fieldLink RX1 28 "MarchHares$Days" "law" "LMarchHares$Law;" : Cond) ∈ wsX1_copyFrom := qxd 323 (by decide +kernel)
theorem qag3 : (.methodLink RX1 45 arraycopyName : Cond) ∈ wsX1_copyFrom := qxd 328 (by decide +kernel)
set_option maxHeartbeats 4000000 in
set_option maxRecDepth 100000 in
theorem qTZ (l : Launch) (dC : Nat → ClassId) (dI : Nat → Nat → Nat) (cyB cyI cyJ cyP : ClassId) (a0 a1 jjN jlL jjO jch sz : Nat) (jcD jpf jo9 jjP : Value) (jkO jdE : NI) {Q : NI → Prop} (hw : qD9 jkO jdE Q) : Met l yX1_copyFrom wsX1_copyFrom ({ frames := 1, cells := 0, slots := 0, locals := 40 }) (va_Pc [.ref a0, .ref a1] (cPc (dC, dI) (kT cyB cyI cyJ cyP) (qazl a0 jch jcD jpf jo9 a1 jjO jjP jjN jlL jjO cyI jkO jch cyI jdE) sz)) (va_Qv (fun (u : NI) => Q u) (cB (dC, dI) (kT cyB cyI cyJ cyP) (va_A (qazl a0 jch jcD jpf jo9 a1 jjO jjP jjN jlL jjO cyI jkO jch cyI jdE) sz) (fun u : NI => ((qaLv a0 jch jcD jjN jlL a1 jjO jjP jjN jlL jjO cyI jkO jch cyI u) : va_W))) (va_A (qazl a0 jch jcD jpf jo9 a1 jjO jjP jjN jlL jjO cyI jkO jch cyI jdE) sz)) 0 0 (va_A (qazl a0 jch jcD jpf jo9 a1 jjO jjP jjN jlL jjO cyI jkO jch cyI jdE) sz) := by
  refine Met.ofW (cc := cX1_copyFrom) (maxL := 2) (ret := none) (by decide) rfl ?_
  intro p e s m args below meth c s₁ B hml hv
  obtain ⟨rfl, hsz, hP, hK, hD0, hNw⟩ := hv
  have hx := B.exec
  have hb := B.bytes
  have hr := B.returns
  have hts := atoms_spec (ws := wsX1_copyFrom) B.pre
  have hown : s.vm.findClass RX1 = some m.cls := findClass_of_methodNamed B.named
  have hlocks := B.notSynchronized
  subst hsz
  have hD := hD0.self (sz := s.heap.size)
  generalize hAe : va_A (qazl a0 jch jcD jpf jo9 a1 jjO jjP jjN jlL jjO cyI jkO jch cyI jdE) s.heap.size = A at hD ⊢
  have hA : ∀ q : Nat, s.heap.size ≤ q → A q := fun q h => by rw [← hAe]; exact Or.inr h
  have hS : va_S A s.heap s.heap [] := va_S.rf
  have hP : va_P (dC, dI) vwCl (qazl a0 jch jcD jpf jo9 a1 jjO jjP jjN jlL jjO cyI jkO jch cyI jdE) s.heap := hP
  have hl := lv_entry ([.ref a0, .ref a1]) (n := 2) (nbq rfl)
  rw [lg_entry_eq]
  generalize (lg_sl ([.ref a0, .ref a1]) ++ List.replicate (2 - (lg_sl ([.ref a0, .ref a1])).length) Slot.unset).toArray = ls at hl ⊢
  have hl : lv_has ls 2 [(0, .ref a0), (1, .ref a1)] := hl
  have C0 : cfx p s m _ meth c cX1_copyFrom none wsX1_copyFrom RX1 2 A (dC, dI) (kT cyB cyI cyJ cyP) := ⟨hx, hb, hr, hts, hown, hlocks, hml, hA, hK, hNw⟩
  clear hAe
  obtain ⟨H, hH⟩ : ∃ H, H = s.heap := ⟨_, rfl⟩
  rw [← hH] at hP ⊢
  have hS : va_S A s.heap H [] := by rw [hH]; exact va_S.rf
  have hS := hS
  refine lv_aload_n hx hb (qaa qfV 0 rfl) rfl (lv_at hl 0 rfl) ?_
  refine lv_aload_n hx hb (qaa qfV 1 rfl) rfl (lv_at hl 1 rfl) ?_
  refine va_get (D := (dC, dI)) (ci := 1) (v := .ref jjN) (C := RX1) (T := TX1) (N := 4) hx hb hts qvH hown hK hP 1 rfl rfl 2 (by decide) (hts _ qSU) (fun _ h9 => h9) rfl (qaa qfV 2 rfl) ?_
  refine va_put (D := (dC, dI)) (ci := 1) (v := .ref jjN) (ty := .object "MarchHares$Down") (C := RX1) (T := TX1) (N := 4) hx hb hts qvH tyX1 tyX1_ok nmX1 hown hK hP hD hS 0 rfl rfl 2 (by decide) (hts _ qSU) (fun _ h9 => h9) rfl (by decide +kernel) rfl rfl (nbq rfl) (qaa qfV 3 rfl) (fun H locs hP hD hS => ?_)
  have hP : va_P (dC, dI) vwCl (qbdS a0 jch jcD jjN jo9 a1 jjO jjP jjN jlL jjO cyI jkO jch cyI jdE) H := hP
  have hD : va_D A (qbdS a0 jch jcD jjN jo9 a1 jjO jjP jjN jlL jjO cyI jkO jch cyI jdE) := hD
  refine lv_aload_n hx hb (qaa qfV 4 rfl) rfl (lv_at hl 0 rfl) ?_
  refine lv_aload_n hx hb (qaa qfV 5 rfl) rfl (lv_at hl 1 rfl) ?_
  refine va_get (D := (dC, dI)) (ci := 1) (v := .ref jlL) (C := RX1) (T := TX1) (N := 4) hx hb hts qvH hown hK hP 1 rfl rfl 3 (by decide) (hts _ qRY) (fun _ h9 => h9) rfl (qaa qfV 6 rfl) ?_
  refine va_put (D := (dC, dI)) (ci := 1) (v := .ref jlL) (ty := .object "MarchHares$Law") (C := RX1) (T := TX1) (N := 4) hx hb hts qvH tyX1 tyX1_ok nmX1 hown hK hP hD hS 0 rfl rfl 3 (by decide) (hts _ qRY) (fun _ h9 => h9) rfl (by decide +kernel) rfl rfl (nbq rfl) (qaa qfV 7 rfl) (fun H locs hP hD hS => ?_)
  have hP : va_P (dC, dI) vwCl (qaLv a0 jch jcD jjN jlL a1 jjO jjP jjN jlL jjO cyI jkO jch cyI jdE) H := hP
  have hD : va_D A (qaLv a0 jch jcD jjN jlL a1 jjO jjP jjN jlL jjO cyI jkO jch cyI jdE) := hD
  refine lv_aload_n hx hb (qaa qfV 8 rfl) rfl (lv_at hl 1 rfl) ?_
  refine va_get (D := (dC, dI)) (ci := 1) (v := .ref jjO) (C := RX1) (T := TX1) (N := 4) hx hb hts qvH hown hK hP 1 rfl rfl 0 (by decide) (hts _ qSc) (fun _ h9 => h9) rfl (qaa qfV 9 rfl) ?_
  refine lv_iconst (v := 0) hx hb (qaa qfV 10 rfl) (by decide) ?_
  refine lv_aload_n hx hb (qaa qfV 11 rfl) rfl (lv_at hl 0 rfl) ?_
  refine va_get (D := (dC, dI)) (ci := 1) (v := .ref jch) (C := RX1) (T := TX1) (N := 4) hx hb hts qvH hown hK hP 0 rfl rfl 0 (by decide) (hts _ qSc) (fun _ h9 => h9) rfl (qaa qfV 12 rfl) ?_
  refine lv_iconst (v := 0) hx hb (qaa qfV 13 rfl) (by decide) ?_
  refine lv_bipush (v := 64) hx hb (qaa qfV 14 rfl) (by decide) ?_
  refine va_copyi hx hb (by rw [hml]; exact hl.1.symm) hown (hts _ qag3) (hts _ qahm) (hts _ qadF) (hts _ qahz) hK hP hD hS 2 3 1 1 rfl rfl rfl rfl rfl (by decide) (by decide) (by decide) (by decide) (by decide) (fun _ _ => rfl) (nbq rfl) (nbq rfl) (qaa qfV 15 rfl) (fun H locs hP hD hS => ?_)
  obtain ⟨f1, ef1⟩ : ∃ y : NI, y = va_cpy jkO jdE (0 : Int32).toNatClampNeg (0 : Int32).toNatClampNeg (64 : Int32).toNatClampNeg := ⟨_, rfl⟩
  have hw := hw f1 ef1
  have hP : va_P (dC, dI) vwCl (qaLv a0 jch jcD jjN jlL a1 jjO jjP jjN jlL jjO cyI jkO jch cyI f1) H := by rw [ef1]; exact hP
  have hD : va_D A (qaLv a0 jch jcD jjN jlL a1 jjO jjP jjN jlL jjO cyI jkO jch cyI f1) := by rw [ef1]; exact hD
  exact ((W.vret hx hb hr (fun t ht hW => ⟨⟨(f1), rfl, hw, by rw [ht]; exact hP, va_K.moved hW.alike hK, hD⟩, hS.F ht⟩) hS.2.2 (qaa qalS 0 rfl)))
set_option maxHeartbeats 4000000 in
set_option maxRecDepth 100000 in
theorem qnv (l : Launch) (dC : Nat → ClassId) (dI : Nat → Nat → Nat) (cyB cyI cyJ cyP : ClassId) (sz : Nat) (p0 p1 : Int32) {Q : Int32 → Prop} (hw : qh5 p0 p1 Q) : Met l yX10_holds wsX10_holds ({ frames := 0, cells := 0, slots := 0, locals := 0 }) (va_Pc [.int p0, .int p1] (cPc (dC, dI) (kT cyB cyI cyJ cyP) [] sz)) (va_Qi (fun (r : Int32) (_ : Unit) => Q r ) (cB (dC, dI) (kT cyB cyI cyJ cyP) (va_A [] sz) (fun u : Unit => ([] : va_W))) (va_A [] sz)) 0 0 (va_A [] sz) := by
  refine Met.ofW (cc := cX10_holds) (maxL := 2) (ret := (some .boolean)) (by decide) rfl ?_
  intro p e s m args below meth c s₁ B hml hv
  obtain ⟨rfl, hsz, hP, hK, hD0, hNw⟩ := hv
  have hx := B.exec
  have hb := B.bytes
  have hr := B.returns
  have hts := atoms_spec (ws := wsX10_holds) B.pre
  have hown : s.vm.findClass RX10 = some m.cls := findClass_of_methodNamed B.named
  have hlocks := B.notSynchronized
  subst hsz
  have hD := hD0.self (sz := s.heap.size)
  generalize hAe : va_A [] s.heap.size = A at hD ⊢
  have hA : ∀ q : Nat, s.heap.size ≤ q → A q := fun q h => by rw [← hAe]; exact Or.inr h
  have hS : va_S A s.heap s.heap [] := va_S.rf
  have hP : va_P (dC, dI) vwCl [] s.heap := hP
  have hl := lv_entry ([.int p0, .int p1]) (n := 2) (nbq rfl)
  rw [lg_entry_eq]
  generalize (lg_sl ([.int p0, .int p1]) ++ List.replicate (2 - (lg_sl ([.int p0, .int p1])).length) Slot.unset).toArray = ls at hl ⊢
  have hl : lv_has ls 2 [(0, .int p0), (1, .int p1)] := hl
  have C0 : cfx p s m _ meth c cX10_holds (some .boolean) wsX10_holds RX10 2 A (dC, dI) (kT cyB cyI cyJ cyP) := ⟨hx, hb, hr, hts, hown, hlocks, hml, hA, hK, hNw⟩
  clear hAe
  obtain ⟨H, hH⟩ : ∃ H, H = s.heap := ⟨_, rfl⟩
  rw [← hH] at hP ⊢
  have hS : va_S A s.heap H [] := by rw [hH]; exact va_S.rf
  have hS := hS
  refine lv_iload_n hx hb (qaa qpr 0 rfl) rfl (lv_at hl 0 rfl) ?_
  refine lv_iload_n hx hb (qaa qpr 1 rfl) rfl (lv_at hl 1 rfl) ?_
  refine lv_ishr hx hb (qaa qpr 2 rfl) ?_
  refine lv_iconst (v := 1) hx hb (qaa qpr 3 rfl) (by decide) ?_
  refine lv_iand hx hb (qaa qpr 4 rfl) ?_
  refine lv_iconst (v := 1) hx hb (qaa qpr 5 rfl) (by decide) ?_
  refine lv_icmp_ne (tgt := 13) hx hb (qaa qpr 6 rfl) (by decide) (fun c1 => ?_) (fun c1 => ?_)
  · have hw := hw.1 c1
    refine lv_iconst (v := 0) hx hb (qaa qpr 9 rfl) (by decide) ?_
    exact ((W.zret (v := 0) hx hb hr rfl (fun t ht hW => ⟨⟨0, (), rfl, hw, by rw [ht]; exact hP, va_K.moved hW.alike hK, hD⟩, hS.F ht⟩) hS.2.2 (qaa qpr 10 rfl)))
  · have hw := hw.2 c1
    refine lv_iconst (v := 1) hx hb (qaa qpr 7 rfl) (by decide) ?_
    refine lv_goto (tgt := 14) hx hb (qaa qpr 8 rfl) (by decide) ?_
    exact ((W.zret (v := 1) hx hb hr rfl (fun t ht hW => ⟨⟨1, (), rfl, hw, by rw [ht]; exact hP, va_K.moved hW.alike hK, hD⟩, hS.F ht⟩) hS.2.2 (qaa qpr 10 rfl)))
theorem qamI : ∀ w ∈ u_ws RX1 TX1 4, w ∈ wsX1_isCaught := uiM qadM qWg (by decide +kernel)
theorem qaf4 : (.fieldLink RX1 13 "MarchHares$Days" "row" "[I" : Cond) ∈ wsX1_isCaught := qadM 276 (by decide +kernel)
set_option maxHeartbeats 4000000 in
set_option maxRecDepth 100000 in
theorem qia (l : Launch) (dC : Nat → ClassId) (dI : Nat → Nat → Nat) (cyB cyI cyJ cyP : ClassId) (a0 jch sz : Nat) (jcD ji6 jhx : Value) (jdE : NI) (p1 : Int32) {Q : Int32 → Prop} (hw : qdN jdE p1 Q) : Met l yX1_isCaught wsX1_isCaught ({ frames := 0, cells := 0, slots := 0, locals := 0 }) (va_Pc [.ref a0, .int p1] (cPc (dC, dI) (kT cyB cyI cyJ cyP) (qaH a0 jch jcD ji6 jhx jch cyI jdE) sz)) (va_Qi (fun (r : Int32) (_ : Unit) => Q r ) (cB (dC, dI) (kT cyB cyI cyJ cyP) (va_A (qaH a0 jch jcD ji6 jhx jch cyI jdE) sz) (fun u : Unit => ((qaH a0 jch jcD ji6 jhx jch cyI jdE) : va_W))) (va_A (qaH a0 jch jcD ji6 jhx jch cyI jdE) sz)) 0 0 (va_A (qaH a0 jch jcD ji6 jhx jch cyI jdE) sz) := by
  refine Met.ofW (cc := cX1_isCaught) (maxL := 2) (ret := (some .boolean)) (by decide) rfl ?_
  intro p e s m args below meth c s₁ B hml hv
  obtain ⟨rfl, hsz, hP, hK, hD0, hNw⟩ := hv
  have hx := B.exec
  have hb := B.bytes
  have hr := B.returns
  have hts := atoms_spec (ws := wsX1_isCaught) B.pre
  have hown : s.vm.findClass RX1 = some m.cls := findClass_of_methodNamed B.named
  have hlocks := B.notSynchronized
  subst hsz
  have hD := hD0.self (sz := s.heap.size)
  generalize hAe : va_A (qaH a0 jch jcD ji6 jhx jch cyI jdE) s.heap.size = A at hD ⊢
  have hA : ∀ q : Nat, s.heap.size ≤ q → A q := fun q h => by rw [← hAe]; exact Or.inr h
  have hS : va_S A s.heap s.heap [] := va_S.rf
  have hP : va_P (dC, dI) vwCl (qaH a0 jch jcD ji6 jhx jch cyI jdE) s.heap := hP
  have hl := lv_entry ([.ref a0, .int p1]) (n := 2) (nbq rfl)
  rw [lg_entry_eq]
  generalize (lg_sl ([.ref a0, .int p1]) ++ List.replicate (2 - (lg_sl ([.ref a0, .int p1])).length) Slot.unset).toArray = ls at hl ⊢
  have hl : lv_has ls 2 [(0, .ref a0), (1, .int p1)] := hl
  have C0 : cfx p s m _ meth c cX1_isCaught (some .boolean) wsX1_isCaught RX1 2 A (dC, dI) (kT cyB cyI cyJ cyP) := ⟨hx, hb, hr, hts, hown, hlocks, hml, hA, hK, hNw⟩
  clear hAe
  obtain ⟨H, hH⟩ : ∃ H, H = s.heap := ⟨_, rfl⟩
  rw [← hH] at hP ⊢
  have hS : va_S A s.heap H [] := by rw [hH]; exact va_S.rf
  have hS := hS
  refine lv_aload_n hx hb (qaa qgz 0 rfl) rfl (lv_at hl 0 rfl) ?_
  refine va_get (D := (dC, dI)) (ci := 1) (v := .ref jch) (C := RX1) (T := TX1) (N := 4) hx hb hts qamI hown hK hP 0 rfl rfl 0 (by decide) (hts _ qaf4) (fun _ h9 => h9) rfl (qaa qgz 1 rfl) ?_
  refine lv_iconst (v := 2) hx hb (qaa qgz 2 rfl) (by decide) ?_
  refine va_iald hx hb hK hP 1 1 rfl rfl (vin (by decide)) (qaa qgz 3 rfl) ?_
  refine lv_topi (fun x1 ex1 => ?_)
  have hw := hw x1 ex1
  refine lv_iload_n hx hb (qaa qgz 4 rfl) rfl (lv_at hl 1 rfl) ?_
  refine lv_ishr hx hb (qaa qgz 5 rfl) ?_
  refine lv_iconst (v := 1) hx hb (qaa qgz 6 rfl) (by decide) ?_
  refine lv_iand hx hb (qaa qgz 7 rfl) ?_
  refine lv_iconst (v := 1) hx hb (qaa qgz 8 rfl) (by decide) ?_
  refine lv_icmp_ne (tgt := 18) hx hb (qaa qgz 9 rfl) (by decide) (fun c2 => ?_) (fun c2 => ?_)
  · have hw := hw.1 c2
    refine lv_iconst (v := 0) hx hb (qaa qgz 12 rfl) (by decide) ?_
    exact ((W.zret (v := 0) hx hb hr rfl (fun t ht hW => ⟨⟨0, (), rfl, hw, by rw [ht]; exact hP, va_K.moved hW.alike hK, hD⟩, hS.F ht⟩) hS.2.2 (qaa qgz 13 rfl)))
  · have hw := hw.2 c2
    refine lv_iconst (v := 1) hx hb (qaa qgz 10 rfl) (by decide) ?_
    refine lv_goto (tgt := 19) hx hb (qaa qgz 11 rfl) (by decide) ?_
    exact ((W.zret (v := 1) hx hb hr rfl (fun t ht hW => ⟨⟨1, (), rfl, hw, by rw [ht]; exact hP, va_K.moved hW.alike hK, hD⟩, hS.F ht⟩) hS.2.2 (qaa qgz 13 rfl)))
theorem qaSb : ∀ w ∈ u_ws RX1 TX1 4, w ∈ wsX1_sits := uiM qaT8 qWg (by decide +kernel)
theorem qaIP : (.fieldLink RX1 13 "MarchHares$Days" "row" "[I" : Cond) ∈ wsX1_sits := qaT8 276 (by decide +kernel)
set_option maxHeartbeats 4000000 in
set_option maxRecDepth 100000 in
theorem qvw (l : Launch) (dC : Nat → ClassId) (dI : Nat → Nat → Nat) (cyB cyI cyJ cyP : ClassId) (a0 jch sz : Nat) (jcD ji6 jhx : Value) (jdE : NI) (p1 : Int32) {Q : Int32 → Prop} (hw : qrk jdE p1 Q) : Met l yX1_sits wsX1_sits ({ frames := 0, cells := 0, slots := 0, locals := 0 }) (va_Pc [.ref a0, .int p1] (cPc (dC, dI) (kT cyB cyI cyJ cyP) (qaH a0 jch jcD ji6 jhx jch cyI jdE) sz)) (va_Qi (fun (r : Int32) (_ : Unit) => Q r ) (cB (dC, dI) (kT cyB cyI cyJ cyP) (va_A (qaH a0 jch jcD ji6 jhx jch cyI jdE) sz) (fun u : Unit => ((qaH a0 jch jcD ji6 jhx jch cyI jdE) : va_W))) (va_A (qaH a0 jch jcD ji6 jhx jch cyI jdE) sz)) 0 0 (va_A (qaH a0 jch jcD ji6 jhx jch cyI jdE) sz) := by
  refine Met.ofW (cc := cX1_sits) (maxL := 2) (ret := (some .int)) (by decide) rfl ?_
  intro p e s m args below meth c s₁ B hml hv
  obtain ⟨rfl, hsz, hP, hK, hD0, hNw⟩ := hv
  have hx := B.exec
  have hb := B.bytes
  have hr := B.returns
  have hts := atoms_spec (ws := wsX1_sits) B.pre
  have hown : s.vm.findClass RX1 = some m.cls := findClass_of_methodNamed B.named
  have hlocks := B.notSynchronized
  subst hsz
  have hD := hD0.self (sz := s.heap.size)
  generalize hAe : va_A (qaH a0 jch jcD ji6 jhx jch cyI jdE) s.heap.size = A at hD ⊢
  have hA : ∀ q : Nat, s.heap.size ≤ q → A q := fun q h => by rw [← hAe]; exact Or.inr h
  have hS : va_S A s.heap s.heap [] := va_S.rf
  have hP : va_P (dC, dI) vwCl (qaH a0 jch jcD ji6 jhx jch cyI jdE) s.heap := hP
  have hl := lv_entry ([.ref a0, .int p1]) (n := 2) (nbq rfl)
  rw [lg_entry_eq]
  generalize (lg_sl ([.ref a0, .int p1]) ++ List.replicate (2 - (lg_sl ([.ref a0, .int p1])).length) Slot.unset).toArray = ls at hl ⊢
  have hl : lv_has ls 2 [(0, .ref a0), (1, .int p1)] := hl
  have C0 : cfx p s m _ meth c cX1_sits (some .int) wsX1_sits RX1 2 A (dC, dI) (kT cyB cyI cyJ cyP) := ⟨hx, hb, hr, hts, hown, hlocks, hml, hA, hK, hNw⟩
  clear hAe
  obtain ⟨H, hH⟩ : ∃ H, H = s.heap := ⟨_, rfl⟩
  rw [← hH] at hP ⊢
  have hS : va_S A s.heap H [] := by rw [hH]; exact va_S.rf
  have hS := hS
  refine lv_aload_n hx hb (qaa qBy 0 rfl) rfl (lv_at hl 0 rfl) ?_
  refine va_get (D := (dC, dI)) (ci := 1) (v := .ref jch) (C := RX1) (T := TX1) (N := 4) hx hb hts qaSb hown hK hP 0 rfl rfl 0 (by decide) (hts _ qaIP) (fun _ h9 => h9) rfl (qaa qBy 1 rfl) ?_
  refine lv_iconst (v := 4) hx hb (qaa qBy 2 rfl) (by decide) ?_
  refine lv_iload_n hx hb (qaa qBy 3 rfl) rfl (lv_at hl 1 rfl) ?_
  refine lv_iadd hx hb (qaa qBy 4 rfl) ?_
  refine lv_topi (fun x1 ex1 => ?_)
  have hw := hw x1 ex1
  obtain ⟨hi9, hw⟩ := hw
  refine va_iald hx hb hK hP 1 1 rfl rfl hi9 (qaa qBy 5 rfl) ?_
  refine lv_topi (fun x2 ex2 => ?_)
  have hw := hw x2 ex2
  exact ((W.iret (v := x2) hx hb hr (fun t ht hW => ⟨⟨x2, (), rfl, hw, by rw [ht]; exact hP, va_K.moved hW.alike hK, hD⟩, hS.F ht⟩) hS.2.2 (qaa qBy 6 rfl)))
theorem qaD1 : ∀ w ∈ u_ws RX2 TX2 12, w ∈ wsX2_isSafe := uiM qPn qLp (by decide +kernel)
theorem qanJ : (.fieldLink RX2 101 "MarchHares$Down" "safe" "I" : Cond) ∈ wsX2_isSafe := qPn 1047 (by decide +kernel)
theorem q6W : (.initialized RX10 : Cond) ∈ wsX2_isSafe := qPn 2 (by decide +kernel)
theorem qVb : (.static yX10_holds : Cond) ∈ wsX2_isSafe := qPn 2052 (by decide +kernel)
set_option maxHeartbeats 4000000 in
set_option maxRecDepth 100000 in
theorem q30 (l : Launch) (dC : Nat → ClassId) (dI : Nat → Nat → Nat) (cyB cyI cyJ cyP : ClassId) (a0 sz : Nat) (jmz jmA jlc jld jkJ jiU jj1 jjT ja0 ja4 jaP : Value) (jmw p1 : Int32) {Q : Int32 → Prop} (hw : qGa jmw p1 Q) : Met l yX2_isSafe wsX2_isSafe ({ frames := 1, cells := 0, slots := 0, locals := 21 }) (va_Pc [.ref a0, .int p1] (cPc (dC, dI) (kT cyB cyI cyJ cyP) (qafe a0 jmz jmA jlc jld jkJ jiU jj1 jjT ja0 ja4 jaP jmw) sz)) (va_Qi (fun (r : Int32) (_ : Unit) => Q r ) (cB (dC, dI) (kT cyB cyI cyJ cyP) (va_A (qafe a0 jmz jmA jlc jld jkJ jiU jj1 jjT ja0 ja4 jaP jmw) sz) (fun u : Unit => ((qafe a0 jmz jmA jlc jld jkJ jiU jj1 jjT ja0 ja4 jaP jmw) : va_W))) (va_A (qafe a0 jmz jmA jlc jld jkJ jiU jj1 jjT ja0 ja4 jaP jmw) sz)) 0 0 (va_A (qafe a0 jmz jmA jlc jld jkJ jiU jj1 jjT ja0 ja4 jaP jmw) sz) := by
  refine Met.ofW (cc := cX2_isSafe) (maxL := 2) (ret := (some .boolean)) (by decide) rfl ?_
  intro p e s m args below meth c s₁ B hml hv
  obtain ⟨rfl, hsz, hP, hK, hD0, hNw⟩ := hv
  have hx := B.exec
  have hb := B.bytes
  have hr := B.returns
  have hts := atoms_spec (ws := wsX2_isSafe) B.pre
  have hown : s.vm.findClass RX2 = some m.cls := findClass_of_methodNamed B.named
  have hlocks := B.notSynchronized
  subst hsz
  have hD := hD0.self (sz := s.heap.size)
  generalize hAe : va_A (qafe a0 jmz jmA jlc jld jkJ jiU jj1 jjT ja0 ja4 jaP jmw) s.heap.size = A at hD ⊢
  have hA : ∀ q : Nat, s.heap.size ≤ q → A q := fun q h => by rw [← hAe]; exact Or.inr h
  have hS : va_S A s.heap s.heap [] := va_S.rf
  have hP : va_P (dC, dI) vwCl (qafe a0 jmz jmA jlc jld jkJ jiU jj1 jjT ja0 ja4 jaP jmw) s.heap := hP
  have hl := lv_entry ([.ref a0, .int p1]) (n := 2) (nbq rfl)
  rw [lg_entry_eq]
  generalize (lg_sl ([.ref a0, .int p1]) ++ List.replicate (2 - (lg_sl ([.ref a0, .int p1])).length) Slot.unset).toArray = ls at hl ⊢
  have hl : lv_has ls 2 [(0, .ref a0), (1, .int p1)] := hl
  have C0 : cfx p s m _ meth c cX2_isSafe (some .boolean) wsX2_isSafe RX2 2 A (dC, dI) (kT cyB cyI cyJ cyP) := ⟨hx, hb, hr, hts, hown, hlocks, hml, hA, hK, hNw⟩
  clear hAe
  obtain ⟨H, hH⟩ : ∃ H, H = s.heap := ⟨_, rfl⟩
  rw [← hH] at hP ⊢
  have hS : va_S A s.heap H [] := by rw [hH]; exact va_S.rf
  have hS := hS
  refine lv_aload_n hx hb (qaa qDU 0 rfl) rfl (lv_at hl 0 rfl) ?_
  refine va_get (D := (dC, dI)) (ci := 2) (v := .int jmw) (C := RX2) (T := TX2) (N := 12) hx hb hts qaD1 hown hK hP 0 rfl rfl 11 (by decide) (hts _ qanJ) (fun _ h9 => h9) rfl (qaa qDU 1 rfl) ?_
  refine lv_iload_n hx hb (qaa qDU 2 rfl) rfl (lv_at hl 1 rfl) ?_
  obtain ⟨hCc, hPc, hDc, hFc⟩ := qac (ws' := []) hP hD hS hA [] (by decide +kernel) rfl
  refine va_calli (va_runSN (As := [.int jmw, .int p1]) (rest := []) ⟨hx, hb, hml, hown, hts⟩ (qnv l dC dI cyB cyI cyJ cyP H.size jmw p1 hw) ⟨(va_cnB 2 hts gX2_isSafe_X10_holds_n114 rfl rfl rfl (qbbT hNw) (hts _ q6W) (by decide +kernel) ⟨nbq rfl, nbq rfl⟩), (hts _ qVb), trivial⟩ ⟨qab, qae hPc hK hDc hNw⟩ rfl rfl hl.1 rfl (lv_room (nbq rfl)) (qaa qDU 3 rfl) ⟨nbq rfl, nbq rfl⟩) hS (fun q _ h => hFc q h) hFc (fun r1 u t H1 locs ht hvm hw hB hz1 hk1 hS => ?_)
  obtain ⟨hP1, hK1, hD1⟩ := hB
  rw [ht] at hP1
  obtain ⟨hP, hD⟩ := qah (wr := (qafe a0 jmz jmA jlc jld jkJ jiU jj1 jjT ja0 ja4 jaP jmw)) (w1 := []) (wn := (qafe a0 jmz jmA jlc jld jkJ jiU jj1 jjT ja0 ja4 jaP jmw)) hP hD [] [0] hCc rfl (by decide +kernel) (by decide +kernel) rfl hk1 hFc hP1 hD1
  generalize H1 = H at hP hS ⊢
  obtain ⟨hn9, hw⟩ := hw
  exact ((W.zret (v := r1) hx hb hr hn9 (fun t ht hW => ⟨⟨r1, (), rfl, hw, by rw [ht]; exact hP, va_K.moved hW.alike hK, hD⟩, hS.F ht⟩) hS.2.2 (qaa qDU 4 rfl)))
theorem qaHo : ∀ w ∈ u_ws RX1 TX1 4, w ∈ wsX1_still := uiM qaLy qWg (by decide +kernel)
theorem qayD : (.fieldLink RX1 13 "MarchHares$Days" "row" "[I" : Cond) ∈ wsX1_still := qaLy 276 (by decide +kernel)
set_option maxHeartbeats 4000000 in
set_option maxRecDepth 100000 in
theorem q9d (l : Launch) (dC : Nat → ClassId) (dI : Nat → Nat → Nat) (cyB cyI cyJ cyP : ClassId) (a0 jch sz : Nat) (jcD ji6 jhx : Value) (jdE : NI) (p1 : Int32) {Q : Int32 → Prop} (hw : qJH jdE p1 Q) : Met l yX1_still wsX1_still ({ frames := 0, cells := 0, slots := 0, locals := 0 }) (va_Pc [.ref a0, .int p1] (cPc (dC, dI) (kT cyB cyI cyJ cyP) (qaH a0 jch jcD ji6 jhx jch cyI jdE) sz)) (va_Qi (fun (r : Int32) (_ : Unit) => Q r ) (cB (dC, dI) (kT cyB cyI cyJ cyP) (va_A (qaH a0 jch jcD ji6 jhx jch cyI jdE) sz) (fun u : Unit => ((qaH a0 jch jcD ji6 jhx jch cyI jdE) : va_W))) (va_A (qaH a0 jch jcD ji6 jhx jch cyI jdE) sz)) 0 0 (va_A (qaH a0 jch jcD ji6 jhx jch cyI jdE) sz) := by
  refine Met.ofW (cc := cX1_still) (maxL := 2) (ret := (some .int)) (by decide) rfl ?_
  intro p e s m args below meth c s₁ B hml hv
  obtain ⟨rfl, hsz, hP, hK, hD0, hNw⟩ := hv
  have hx := B.exec
  have hb := B.bytes
  have hr := B.returns
  have hts := atoms_spec (ws := wsX1_still) B.pre
  have hown : s.vm.findClass RX1 = some m.cls := findClass_of_methodNamed B.named
  have hlocks := B.notSynchronized
  subst hsz
  have hD := hD0.self (sz := s.heap.size)
  generalize hAe : va_A (qaH a0 jch jcD ji6 jhx jch cyI jdE) s.heap.size = A at hD ⊢
  have hA : ∀ q : Nat, s.heap.size ≤ q → A q := fun q h => by rw [← hAe]; exact Or.inr h
  have hS : va_S A s.heap s.heap [] := va_S.rf
  have hP : va_P (dC, dI) vwCl (qaH a0 jch jcD ji6 jhx jch cyI jdE) s.heap := hP
  have hl := lv_entry ([.ref a0, .int p1]) (n := 2) (nbq rfl)
  rw [lg_entry_eq]
  generalize (lg_sl ([.ref a0, .int p1]) ++ List.replicate (2 - (lg_sl ([.ref a0, .int p1])).length) Slot.unset).toArray = ls at hl ⊢
  have hl : lv_has ls 2 [(0, .ref a0), (1, .int p1)] := hl
  have C0 : cfx p s m _ meth c cX1_still (some .int) wsX1_still RX1 2 A (dC, dI) (kT cyB cyI cyJ cyP) := ⟨hx, hb, hr, hts, hown, hlocks, hml, hA, hK, hNw⟩
  clear hAe
  obtain ⟨H, hH⟩ : ∃ H, H = s.heap := ⟨_, rfl⟩
  rw [← hH] at hP ⊢
  have hS : va_S A s.heap H [] := by rw [hH]; exact va_S.rf
  have hS := hS
  refine lv_aload_n hx hb (qaa qzq 0 rfl) rfl (lv_at hl 0 rfl) ?_
  refine va_get (D := (dC, dI)) (ci := 1) (v := .ref jch) (C := RX1) (T := TX1) (N := 4) hx hb hts qaHo hown hK hP 0 rfl rfl 0 (by decide) (hts _ qayD) (fun _ h9 => h9) rfl (qaa qzq 1 rfl) ?_
  refine lv_bipush (v := 16) hx hb (qaa qzq 2 rfl) (by decide) ?_
  refine lv_iload_n hx hb (qaa qzq 3 rfl) rfl (lv_at hl 1 rfl) ?_
  refine lv_iadd hx hb (qaa qzq 4 rfl) ?_
  refine lv_topi (fun x1 ex1 => ?_)
  have hw := hw x1 ex1
  obtain ⟨hi9, hw⟩ := hw
  refine va_iald hx hb hK hP 1 1 rfl rfl hi9 (qaa qzq 5 rfl) ?_
  refine lv_topi (fun x2 ex2 => ?_)
  have hw := hw x2 ex2
  exact ((W.iret (v := x2) hx hb hr (fun t ht hW => ⟨⟨x2, (), rfl, hw, by rw [ht]; exact hP, va_K.moved hW.alike hK, hD⟩, hS.F ht⟩) hS.2.2 (qaa qzq 6 rfl)))
theorem qQ1 : ∀ w ∈ u_ws RX1 TX1 4, w ∈ wsX1_endangered := uiM qn3 qWg (by decide +kernel)
theorem qabs : ∀ w ∈ u_ws RX2 TX2 12, w ∈ wsX1_endangered := uiM qn3 qLp (by decide +kernel)
theorem qNM : (.fieldLink RX1 24 "MarchHares$Days" "down" "LMarchHares$Down;" : Cond) ∈ wsX1_endangered := qn3 322 (by decide +kernel)
theorem q6y : (.fieldLink RX1 32 "MarchHares$Down" "hares" "I" : Cond) ∈ wsX1_endangered := qn3 324 (by decide +kernel)
set_option maxHeartbeats 4000000 in
set_option maxRecDepth 100000 in
theorem qzl {p : Program} {l : Launch} {e : Env} {s : State} {m : MethodId} {args : Array Value} {below : List Frame} {meth : Method} {c : Code} {A : Nat → Prop} (dC : Nat → ClassId) (dI : Nat → Nat → Nat) (cyB cyI cyJ cyP : ClassId) (a0 jfB jch : Nat) (jcD jhx jhr jhs jgk jgl jgm jgz jfV jgn jgO jfW : Value) (jc6 jjn : Int32) (jdE : NI) (Q : Int32 → Prop) (K4 : Int32 → Int32 → Prop) (hK4 : ∀ (H : Heap) (locs : List Loc) (ls : Array Slot) (l1 l2 : Int32), va_P (dC, dI) vwCl (qGh a0 jch jcD jfB jhx jfB jhr jhs jgk jgl jgm jgz jfV jgn jgO jc6 jfW jjn jch cyI jdE) H → va_D A (qGh a0 jch jcD jfB jhx jfB jhr jhs jgk jgl jgm jgz jfV jgn jgO jc6 jfW jjn jch cyI jdE) → va_S A s.heap H locs → lv_has ls 3 [(0, .ref a0), (1, .int l1), (2, .int l2)] → K4 l1 l2 → W p l e (headSpec wsX1_endangered ({ frames := 2, cells := 0, slots := 0, locals := 42 })).room s m args below meth c H locs 0 0 (MQ below (va_Qi (fun (r : Int32) (_ : Unit) => Q r ) (cB (dC, dI) (kT cyB cyI cyJ cyP) A (fun u : Unit => ((qGh a0 jch jcD jfB jhx jfB jhr jhs jgk jgl jgm jgz jfV jgn jgO jc6 jfW jjn jch cyI jdE) : va_W))) A) args s 0 0 A) (F0 m 4 ls [])) (C0 : cfx p s m args meth c cX1_endangered (some .int) wsX1_endangered RX1 3 A (dC, dI) (kT cyB cyI cyJ cyP)) : ∀ (H : Heap) (locs : List Loc) (ls : Array Slot) (l1 l2 : Int32), va_P (dC, dI) vwCl (qGh a0 jch jcD jfB jhx jfB jhr jhs jgk jgl jgm jgz jfV jgn jgO jc6 jfW jjn jch cyI jdE) H → va_D A (qGh a0 jch jcD jfB jhx jfB jhr jhs jgk jgl jgm jgz jfV jgn jgO jc6 jfW jjn jch cyI jdE) → va_S A s.heap H locs → lv_has ls 3 [(0, .ref a0), (1, .int l1), (2, .int l2)] → qs9 jc6 jjn jdE Q K4 l1 l2 → W p l e (headSpec wsX1_endangered ({ frames := 2, cells := 0, slots := 0, locals := 42 })).room s m args below meth c H locs 0 0 (MQ below (va_Qi (fun (r : Int32) (_ : Unit) => Q r ) (cB (dC, dI) (kT cyB cyI cyJ cyP) A (fun u : Unit => ((qGh a0 jch jcD jfB jhx jfB jhr jhs jgk jgl jgm jgz jfV jgn jgO jc6 jfW jjn jch cyI jdE) : va_W))) A) args s 0 0 A) (F0 m 53 ls []) := by
  obtain ⟨hx, hb, hr, hts, hown, hlocks, hml, hA, hK, hNw⟩ := id C0
  intro H locs ls l1 l2 hP hD hS hl hw
  obtain ⟨x10, ex10⟩ : ∃ y : Int32, y = l2 + 1 := ⟨_, rfl⟩
  have hw := hw x10 ex10
  refine lv_iinc (v := x10) (lv' := [(2, .int x10), (0, .ref a0), (1, .int l1)]) hx hb (qaa qcH 15 rfl) hl (k := 2) rfl (by rw [ex10]; rfl) (by decide) rfl (fun ls hl => ?_)
  refine lv_goto (tgt := 4) hx hb (qaa qFt 0 rfl) (by decide) ?_
  exact hK4 _ _ _ l1 x10 hP hD hS (lv_sub hl [1, 2, 0] rfl) hw
set_option maxHeartbeats 4000000 in
set_option maxRecDepth 100000 in
theorem qahd {p : Program} {l : Launch} {e : Env} {s : State} {m : MethodId} {args : Array Value} {below : List Frame} {meth : Method} {c : Code} {A : Nat → Prop} (dC : Nat → ClassId) (dI : Nat → Nat → Nat) (cyB cyI cyJ cyP : ClassId) (a0 jfB jch : Nat) (jcD jhx jhr jhs jgk jgl jgm jgz jfV jgn jgO jfW : Value) (jc6 jjn : Int32) (jdE : NI) (Q : Int32 → Prop) (C0 : cfx p s m args meth c cX1_endangered (some .int) wsX1_endangered RX1 3 A (dC, dI) (kT cyB cyI cyJ cyP)) : ∀ (n : Nat) (H : Heap) (locs : List Loc) (ls : Array Slot) (l1 l2 : Int32), va_P (dC, dI) vwCl (qGh a0 jch jcD jfB jhx jfB jhr jhs jgk jgl jgm jgz jfV jgn jgO jc6 jfW jjn jch cyI jdE) H → va_D A (qGh a0 jch jcD jfB jhx jfB jhr jhs jgk jgl jgm jgz jfV jgn jgO jc6 jfW jjn jch cyI jdE) → va_S A s.heap H locs → lv_has ls 3 [(0, .ref a0), (1, .int l1), (2, .int l2)] → qe4 jc6 jjn jdE Q n l1 l2 → W p l e (headSpec wsX1_endangered ({ frames := 2, cells := 0, slots := 0, locals := 42 })).room s m args below meth c H locs 0 0 (MQ below (va_Qi (fun (r : Int32) (_ : Unit) => Q r ) (cB (dC, dI) (kT cyB cyI cyJ cyP) A (fun u : Unit => ((qGh a0 jch jcD jfB jhx jfB jhr jhs jgk jgl jgm jgz jfV jgn jgO jc6 jfW jjn jch cyI jdE) : va_W))) A) args s 0 0 A) (F0 m 4 ls []) := by
  obtain ⟨hx, hb, hr, hts, hown, hlocks, hml, hA, hK, hNw⟩ := id C0
  intro n
  induction n with
  | zero => intro H locs ls l1 l2 hP hD hS hl hw; exact False.elim hw
  | succ n ih =>
    intro H locs ls l1 l2 hP hD hS hl hw
    refine lv_iload_n hx hb (qaa qdt 4 rfl) rfl (lv_at hl 2 rfl) ?_
    refine lv_aload_n hx hb (qaa qdt 5 rfl) rfl (lv_at hl 0 rfl) ?_
    refine va_get (D := (dC, dI)) (ci := 1) (v := .ref jfB) (C := RX1) (T := TX1) (N := 4) hx hb hts qQ1 hown hK hP 0 rfl rfl 2 (by decide) (hts _ qNM) (fun _ h9 => h9) rfl (qaa qdt 6 rfl) ?_
    refine va_get (D := (dC, dI)) (ci := 2) (v := .int jc6) (C := RX2) (T := TX2) (N := 12) hx hb hts qabs hown hK hP 1 rfl rfl 9 (by decide) (hts _ q6y) (fun _ h9 => h9) rfl (qaa qdt 7 rfl) ?_
    refine lv_icmp_ge (tgt := 59) hx hb (qaa qdt 8 rfl) (by decide) (fun c1 => ?_) (fun c1 => ?_)
    · have hw := hw.1 c1
      refine lv_iload_n hx hb (qaa qFt 1 rfl) rfl (lv_at hl 1 rfl) ?_
      exact ((W.iret (v := l1) hx hb hr (fun t ht hW => ⟨⟨l1, (), rfl, hw, by rw [ht]; exact hP, va_K.moved hW.alike hK, hD⟩, hS.F ht⟩) hS.2.2 (qaa qFt 2 rfl)))
    · have hw := hw.2 c1
      refine lv_aload_n hx hb (qaa qdt 9 rfl) rfl (lv_at hl 0 rfl) ?_
      refine lv_iload_n hx hb (qaa qdt 10 rfl) rfl (lv_at hl 2 rfl) ?_
      obtain ⟨hCc, hPc, hDc, hFc⟩ := qac (ws' := (qafV a0 jch jcD jfB jhx jch cyI jdE)) hP hD hS hA [0, 2] (by decide +kernel) rfl
      refine va_calli (va_runV (As := [.int l2]) (rest := []) ⟨hx, hb, hml, hown, hts⟩ (qia l dC dI cyB cyI cyJ cyP a0 jch H.size (jcD) (.ref jfB) (jhx) jdE l2 hw) (cwV 1 hts gX1_endangered_X1_isCaught rfl rfl rfl (by decide +kernel) ⟨nbq rfl, nbq rfl⟩) ⟨qab, va_recv (q := (RX1, TX1, 4)) hK hPc (ci := 1) (q0 := 0) rfl rfl, qae hPc hK hDc hNw⟩ rfl rfl hl.1 rfl (lv_room (nbq rfl)) (qaa qdt 11 rfl) ⟨nbq rfl, nbq rfl⟩) hS (fun q _ h => hFc q h) hFc (fun r2 u t H1 locs ht hvm hw hB hz1 hk1 hS => ?_)
      obtain ⟨hP1, hK1, hD1⟩ := hB
      rw [ht] at hP1
      obtain ⟨hP, hD⟩ := qad (wr := (qaUH jfB jhr jhs jgk jgl jgm jgz jfV jgn jgO jc6 jfW jjn)) (w1 := (qafV a0 jch jcD jfB jhx jch cyI jdE)) (wn := (qGh a0 jch jcD jfB jhx jfB jhr jhs jgk jgl jgm jgz jfV jgn jgO jc6 jfW jjn jch cyI jdE)) hP hD [0, 2] [1] [1, 0, 2] hCc rfl (by decide +kernel) (by decide +kernel) (by decide +kernel) rfl hk1 hFc hP1 hD1
      generalize H1 = H at hP hS ⊢
      refine lv_if_ne (tgt := 53) hx hb (qaa qdt 12 rfl) (by decide) (fun c3 => ?_) (fun c3 => ?_)
      · have hw := hw.1 c3
        exact qzl dC dI cyB cyI cyJ cyP a0 jfB jch jcD jhx jhr jhs jgk jgl jgm jgz jfV jgn jgO jfW jc6 jjn jdE Q (qe4 jc6 jjn jdE Q n) ih C0 _ _ _ l1 l2 hP hD hS (lv_sub hl [0, 1, 2] rfl) hw
      · have hw := hw.2 c3
        refine lv_aload_n hx hb (qaa qdt 13 rfl) rfl (lv_at hl 0 rfl) ?_
        refine va_get (D := (dC, dI)) (ci := 1) (v := .ref jfB) (C := RX1) (T := TX1) (N := 4) hx hb hts qQ1 hown hK hP 0 rfl rfl 2 (by decide) (hts _ qNM) (fun _ h9 => h9) rfl (qaa qdt 14 rfl) ?_
        refine lv_aload_n hx hb (qaa qdt 15 rfl) rfl (lv_at hl 0 rfl) ?_
        refine lv_iload_n hx hb (qaa qcH 0 rfl) rfl (lv_at hl 2 rfl) ?_
        obtain ⟨hCc, hPc, hDc, hFc⟩ := qac (ws' := (qafV a0 jch jcD jfB jhx jch cyI jdE)) hP hD hS hA [0, 2] (by decide +kernel) rfl
        refine va_calli (va_runV (As := [.int l2]) (rest := [.ref jfB]) ⟨hx, hb, hml, hown, hts⟩ (qvw l dC dI cyB cyI cyJ cyP a0 jch H.size (jcD) (.ref jfB) (jhx) jdE l2 hw) (cwV 1 hts gX1_endangered_X1_sits rfl rfl rfl (by decide +kernel) ⟨nbq rfl, nbq rfl⟩) ⟨qab, va_recv (q := (RX1, TX1, 4)) hK hPc (ci := 1) (q0 := 0) rfl rfl, qae hPc hK hDc hNw⟩ rfl rfl hl.1 rfl (lv_room (nbq rfl)) (qaa qcH 1 rfl) ⟨nbq rfl, nbq rfl⟩) hS (fun q _ h => hFc q h) hFc (fun r4 u t H1 locs ht hvm hw hB hz1 hk1 hS => ?_)
        obtain ⟨hP1, hK1, hD1⟩ := hB
        rw [ht] at hP1
        obtain ⟨hP, hD⟩ := qad (wr := (qaUH jfB jhr jhs jgk jgl jgm jgz jfV jgn jgO jc6 jfW jjn)) (w1 := (qafV a0 jch jcD jfB jhx jch cyI jdE)) (wn := (qGh a0 jch jcD jfB jhx jfB jhr jhs jgk jgl jgm jgz jfV jgn jgO jc6 jfW jjn jch cyI jdE)) hP hD [0, 2] [1] [1, 0, 2] hCc rfl (by decide +kernel) (by decide +kernel) (by decide +kernel) rfl hk1 hFc hP1 hD1
        generalize H1 = H at hP hS ⊢
        obtain ⟨hCc, hPc, hDc, hFc⟩ := qac (ws' := (qaUH jfB jhr jhs jgk jgl jgm jgz jfV jgn jgO jc6 jfW jjn)) hP hD hS hA [1] (by decide +kernel) rfl
        refine va_calli (va_runV (As := [.int r4]) (rest := []) ⟨hx, hb, hml, hown, hts⟩ (q30 l dC dI cyB cyI cyJ cyP jfB H.size (jhr) (jhs) (jgk) (jgl) (jgm) (jgz) (jfV) (jgn) (jgO) (.int jc6) (jfW) jjn r4 hw) (cwV 1 hts gX1_endangered_X2_isSafe rfl rfl rfl (by decide +kernel) ⟨nbq rfl, nbq rfl⟩) ⟨qab, va_recv (q := (RX2, TX2, 12)) hK hPc (ci := 2) (q0 := 0) rfl rfl, qae hPc hK hDc hNw⟩ rfl rfl hl.1 rfl (lv_room (nbq rfl)) (qaa qcH 2 rfl) ⟨nbq rfl, nbq rfl⟩) hS (fun q _ h => hFc q h) hFc (fun r5 u t H1 locs ht hvm hw hB hz1 hk1 hS => ?_)
        obtain ⟨hP1, hK1, hD1⟩ := hB
        rw [ht] at hP1
        obtain ⟨hP, hD⟩ := qad (wr := (qafV a0 jch jcD jfB jhx jch cyI jdE)) (w1 := (qaUH jfB jhr jhs jgk jgl jgm jgz jfV jgn jgO jc6 jfW jjn)) (wn := (qGh a0 jch jcD jfB jhx jfB jhr jhs jgk jgl jgm jgz jfV jgn jgO jc6 jfW jjn jch cyI jdE)) hP hD [1] [0, 2] [0, 2, 1] hCc rfl (by decide +kernel) (by decide +kernel) (by decide +kernel) rfl hk1 hFc hP1 hD1
        generalize H1 = H at hP hS ⊢
        refine lv_if_ne (tgt := 53) hx hb (qaa qcH 3 rfl) (by decide) (fun c6 => ?_) (fun c6 => ?_)
        · have hw := hw.1 c6
          exact qzl dC dI cyB cyI cyJ cyP a0 jfB jch jcD jhx jhr jhs jgk jgl jgm jgz jfV jgn jgO jfW jc6 jjn jdE Q (qe4 jc6 jjn jdE Q n) ih C0 _ _ _ l1 l2 hP hD hS (lv_sub hl [0, 1, 2] rfl) hw
        · have hw := hw.2 c6
          refine lv_aload_n hx hb (qaa qcH 4 rfl) rfl (lv_at hl 0 rfl) ?_
          refine lv_iload_n hx hb (qaa qcH 5 rfl) rfl (lv_at hl 2 rfl) ?_
          obtain ⟨hCc, hPc, hDc, hFc⟩ := qac (ws' := (qafV a0 jch jcD jfB jhx jch cyI jdE)) hP hD hS hA [0, 2] (by decide +kernel) rfl
          refine va_calli (va_runV (As := [.int l2]) (rest := []) ⟨hx, hb, hml, hown, hts⟩ (q9d l dC dI cyB cyI cyJ cyP a0 jch H.size (jcD) (.ref jfB) (jhx) jdE l2 hw) (cwV 1 hts gX1_endangered_X1_still rfl rfl rfl (by decide +kernel) ⟨nbq rfl, nbq rfl⟩) ⟨qab, va_recv (q := (RX1, TX1, 4)) hK hPc (ci := 1) (q0 := 0) rfl rfl, qae hPc hK hDc hNw⟩ rfl rfl hl.1 rfl (lv_room (nbq rfl)) (qaa qcH 6 rfl) ⟨nbq rfl, nbq rfl⟩) hS (fun q _ h => hFc q h) hFc (fun r7 u t H1 locs ht hvm hw hB hz1 hk1 hS => ?_)
          obtain ⟨hP1, hK1, hD1⟩ := hB
          rw [ht] at hP1
          obtain ⟨hP, hD⟩ := qad (wr := (qaUH jfB jhr jhs jgk jgl jgm jgz jfV jgn jgO jc6 jfW jjn)) (w1 := (qafV a0 jch jcD jfB jhx jch cyI jdE)) (wn := (qGh a0 jch jcD jfB jhx jfB jhr jhs jgk jgl jgm jgz jfV jgn jgO jc6 jfW jjn jch cyI jdE)) hP hD [0, 2] [1] [1, 0, 2] hCc rfl (by decide +kernel) (by decide +kernel) (by decide +kernel) rfl hk1 hFc hP1 hD1
          generalize H1 = H at hP hS ⊢
          refine lv_iconst (v := 3) hx hb (qaa qcH 7 rfl) (by decide) ?_
          refine lv_icmp_ge (tgt := 53) hx hb (qaa qcH 8 rfl) (by decide) (fun c8 => ?_) (fun c8 => ?_)
          · have hw := hw.1 c8
            exact qzl dC dI cyB cyI cyJ cyP a0 jfB jch jcD jhx jhr jhs jgk jgl jgm jgz jfV jgn jgO jfW jc6 jjn jdE Q (qe4 jc6 jjn jdE Q n) ih C0 _ _ _ l1 l2 hP hD hS (lv_sub hl [0, 1, 2] rfl) hw
          · have hw := hw.2 c8
            refine lv_iload_n hx hb (qaa qcH 9 rfl) rfl (lv_at hl 1 rfl) ?_
            refine lv_iconst (v := 1) hx hb (qaa qcH 10 rfl) (by decide) ?_
            refine lv_iload_n hx hb (qaa qcH 11 rfl) rfl (lv_at hl 2 rfl) ?_
            refine lv_ishl hx hb (qaa qcH 12 rfl) ?_
            refine lv_ior hx hb (qaa qcH 13 rfl) ?_
            refine lv_topi (fun x9 ex9 => ?_)
            have hw := hw x9 ex9
            refine lv_istore_n (lv' := [(1, .int x9), (0, .ref a0), (2, .int l2)]) hx hb (qaa qcH 14 rfl) rfl hl (by decide) rfl (fun ls hl => ?_)
            exact qzl dC dI cyB cyI cyJ cyP a0 jfB jch jcD jhx jhr jhs jgk jgl jgm jgz jfV jgn jgO jfW jc6 jjn jdE Q (qe4 jc6 jjn jdE Q n) ih C0 _ _ _ x9 l2 hP hD hS (lv_sub hl [1, 0, 2] rfl) hw
set_option maxHeartbeats 4000000 in
set_option maxRecDepth 100000 in
theorem qZR (l : Launch) (dC : Nat → ClassId) (dI : Nat → Nat → Nat) (cyB cyI cyJ cyP : ClassId) (a0 jfB jch sz : Nat) (jcD jhx jhr jhs jgk jgl jgm jgz jfV jgn jgO jfW : Value) (jc6 jjn : Int32) (jdE : NI) {Q : Int32 → Prop} (hw : qAk jc6 jjn jdE Q) : Met l yX1_endangered wsX1_endangered ({ frames := 2, cells := 0, slots := 0, locals := 42 }) (va_Pc [.ref a0] (cPc (dC, dI) (kT cyB cyI cyJ cyP) (qGh a0 jch jcD jfB jhx jfB jhr jhs jgk jgl jgm jgz jfV jgn jgO jc6 jfW jjn jch cyI jdE) sz)) (va_Qi (fun (r : Int32) (_ : Unit) => Q r ) (cB (dC, dI) (kT cyB cyI cyJ cyP) (va_A (qGh a0 jch jcD jfB jhx jfB jhr jhs jgk jgl jgm jgz jfV jgn jgO jc6 jfW jjn jch cyI jdE) sz) (fun u : Unit => ((qGh a0 jch jcD jfB jhx jfB jhr jhs jgk jgl jgm jgz jfV jgn jgO jc6 jfW jjn jch cyI jdE) : va_W))) (va_A (qGh a0 jch jcD jfB jhx jfB jhr jhs jgk jgl jgm jgz jfV jgn jgO jc6 jfW jjn jch cyI jdE) sz)) 0 0 (va_A (qGh a0 jch jcD jfB jhx jfB jhr jhs jgk jgl jgm jgz jfV jgn jgO jc6 jfW jjn jch cyI jdE) sz) := by
  refine Met.ofW (cc := cX1_endangered) (maxL := 3) (ret := (some .int)) (by decide) rfl ?_
  intro p e s m args below meth c s₁ B hml hv
  obtain ⟨rfl, hsz, hP, hK, hD0, hNw⟩ := hv
  have hx := B.exec
  have hb := B.bytes
  have hr := B.returns
  have hts := atoms_spec (ws := wsX1_endangered) B.pre
  have hown : s.vm.findClass RX1 = some m.cls := findClass_of_methodNamed B.named
  have hlocks := B.notSynchronized
  subst hsz
  have hD := hD0.self (sz := s.heap.size)
  generalize hAe : va_A (qGh a0 jch jcD jfB jhx jfB jhr jhs jgk jgl jgm jgz jfV jgn jgO jc6 jfW jjn jch cyI jdE) s.heap.size = A at hD ⊢
  have hA : ∀ q : Nat, s.heap.size ≤ q → A q := fun q h => by rw [← hAe]; exact Or.inr h
  have hS : va_S A s.heap s.heap [] := va_S.rf
  have hP : va_P (dC, dI) vwCl (qGh a0 jch jcD jfB jhx jfB jhr jhs jgk jgl jgm jgz jfV jgn jgO jc6 jfW jjn jch cyI jdE) s.heap := hP
  have hl := lv_entry ([.ref a0]) (n := 3) (nbq rfl)
  rw [lg_entry_eq]
  generalize (lg_sl ([.ref a0]) ++ List.replicate (3 - (lg_sl ([.ref a0])).length) Slot.unset).toArray = ls at hl ⊢
  have hl : lv_has ls 3 [(0, .ref a0)] := hl
  have C0 : cfx p s m _ meth c cX1_endangered (some .int) wsX1_endangered RX1 3 A (dC, dI) (kT cyB cyI cyJ cyP) := ⟨hx, hb, hr, hts, hown, hlocks, hml, hA, hK, hNw⟩
  clear hAe
  obtain ⟨H, hH⟩ : ∃ H, H = s.heap := ⟨_, rfl⟩
  rw [← hH] at hP ⊢
  have hS : va_S A s.heap H [] := by rw [hH]; exact va_S.rf
  have hS := hS
  refine lv_iconst (v := 0) hx hb (qaa qdt 0 rfl) (by decide) ?_
  refine lv_istore_n (lv' := [(1, .int 0), (0, .ref a0)]) hx hb (qaa qdt 1 rfl) rfl hl (by decide) rfl (fun ls hl => ?_)
  refine lv_iconst (v := 0) hx hb (qaa qdt 2 rfl) (by decide) ?_
  refine lv_istore_n (lv' := [(2, .int 0), (1, .int 0), (0, .ref a0)]) hx hb (qaa qdt 3 rfl) rfl hl (by decide) rfl (fun ls hl => ?_)
  obtain ⟨n9, hw⟩ := hw
  exact qahd dC dI cyB cyI cyJ cyP a0 jfB jch jcD jhx jhr jhs jgk jgl jgm jgz jfV jgn jgO jfW jc6 jjn jdE Q C0 n9 _ _ _ 0 0 hP hD hS (lv_sub hl [2, 1, 0] rfl) hw
theorem qHl : ∀ w ∈ u_ws RX1 TX1 4, w ∈ wsX1_dropDebts := uiM qDO qWg (by decide +kernel)
theorem qadd : ∀ w ∈ u_ws RX2 TX2 12, w ∈ wsX1_dropDebts := uiM qDO qLp (by decide +kernel)
theorem qQT : (.fieldLink RX1 13 "MarchHares$Days" "row" "[I" : Cond) ∈ wsX1_dropDebts := qDO 276 (by decide +kernel)
theorem qaa7 : (.fieldLink RX1 24 "MarchHares$Days" "down" "LMarchHares$Down;" : Cond) ∈ wsX1_dropDebts := qDO 322 (by decide +kernel)
theorem qab9 : (.fieldLink RX1 32 "MarchHares$Down" "hares" "I" : Cond) ∈ wsX1_dropDebts := qDO 324 (by decide +kernel)
set_option maxHeartbeats 4000000 in
set_option maxRecDepth 100000 in
theorem qanN {p : Program} {l : Launch} {e : Env} {s : State} {m : MethodId} {args : Array Value} {below : List Frame} {meth : Method} {c : Code} {A : Nat → Prop} (dC : Nat → ClassId) (dI : Nat → Nat → Nat) (cyB cyI cyJ cyP : ClassId) (a0 jfB jch : Nat) (jcD jhx jhr jhs jgk jgl jgm jgz jfV jgn jgO jfW jiB : Value) (jc6 : Int32) (Q : NI → Prop) (C0 : cfx p s m args meth c cX1_dropDebts none wsX1_dropDebts RX1 3 A (dC, dI) (kT cyB cyI cyJ cyP)) : ∀ (n : Nat) (H : Heap) (locs : List Loc) (ls : Array Slot) (jdE : NI) (l1 l2 : Int32), va_P (dC, dI) vwCl (qpU a0 jch jcD jfB jhx jfB jhr jhs jgk jgl jgm jgz jfV jgn jgO jc6 jfW jiB jch cyI jdE) H → va_D A (qpU a0 jch jcD jfB jhx jfB jhr jhs jgk jgl jgm jgz jfV jgn jgO jc6 jfW jiB jch cyI jdE) → va_S A s.heap H locs → lv_has ls 3 [(0, .ref a0), (1, .int l1), (2, .int l2)] → qyE jc6 Q n jdE l1 l2 → W p l e (headSpec wsX1_dropDebts ({ frames := 0, cells := 0, slots := 0, locals := 0 })).room s m args below meth c H locs 0 0 (MQ below (va_Qv (fun (u : NI) => Q u) (cB (dC, dI) (kT cyB cyI cyJ cyP) A (fun u : NI => ((qpU a0 jch jcD jfB jhx jfB jhr jhs jgk jgl jgm jgz jfV jgn jgO jc6 jfW jiB jch cyI u) : va_W))) A) args s 0 0 A) (F0 m 2 ls []) := by
  obtain ⟨hx, hb, hr, hts, hown, hlocks, hml, hA, hK, hNw⟩ := id C0
  intro n
  induction n with
  | zero => intro H locs ls jdE l1 l2 hP hD hS hl hw; exact False.elim hw
  | succ n ih =>
    intro H locs ls jdE l1 l2 hP hD hS hl hw
    refine lv_iload_n hx hb (qaa qez 2 rfl) rfl (lv_at hl 2 rfl) ?_
    refine lv_aload_n hx hb (qaa qez 3 rfl) rfl (lv_at hl 0 rfl) ?_
    refine va_get (D := (dC, dI)) (ci := 1) (v := .ref jfB) (C := RX1) (T := TX1) (N := 4) hx hb hts qHl hown hK hP 0 rfl rfl 2 (by decide) (hts _ qaa7) (fun _ h9 => h9) rfl (qaa qez 4 rfl) ?_
    refine va_get (D := (dC, dI)) (ci := 2) (v := .int jc6) (C := RX2) (T := TX2) (N := 12) hx hb hts qadd hown hK hP 1 rfl rfl 9 (by decide) (hts _ qab9) (fun _ h9 => h9) rfl (qaa qez 5 rfl) ?_
    refine lv_icmp_ge (tgt := 49) hx hb (qaa qez 6 rfl) (by decide) (fun c1 => ?_) (fun c1 => ?_)
    · have hw := hw.1 c1
      exact ((W.vret hx hb hr (fun t ht hW => ⟨⟨(jdE), rfl, hw, by rw [ht]; exact hP, va_K.moved hW.alike hK, hD⟩, hS.F ht⟩) hS.2.2 (qaa qdb 15 rfl)))
    · have hw := hw.2 c1
      refine lv_aload_n hx hb (qaa qez 7 rfl) rfl (lv_at hl 0 rfl) ?_
      refine va_get (D := (dC, dI)) (ci := 1) (v := .ref jch) (C := RX1) (T := TX1) (N := 4) hx hb hts qHl hown hK hP 0 rfl rfl 0 (by decide) (hts _ qQT) (fun _ h9 => h9) rfl (qaa qez 8 rfl) ?_
      refine lv_bipush (v := 28) hx hb (qaa qez 9 rfl) (by decide) ?_
      refine lv_iload_n hx hb (qaa qez 10 rfl) rfl (lv_at hl 1 rfl) ?_
      refine lv_bipush (v := 6) hx hb (qaa qez 11 rfl) (by decide) ?_
      refine lv_imul hx hb (qaa qez 12 rfl) ?_
      refine lv_iadd hx hb (qaa qez 13 rfl) ?_
      refine lv_topi (fun x2 ex2 => ?_)
      have hw := hw x2 ex2
      refine lv_iload_n hx hb (qaa qez 14 rfl) rfl (lv_at hl 2 rfl) ?_
      refine lv_iadd hx hb (qaa qez 15 rfl) ?_
      refine lv_topi (fun x3 ex3 => ?_)
      have hw := hw x3 ex3
      refine lv_iconst (v := 0) hx hb (qaa qdb 0 rfl) (by decide) ?_
      obtain ⟨hi9, hw⟩ := hw
      refine va_iast hx hb hK hP hD hS 2 1 rfl rfl hi9 (qaa qdb 1 rfl) (fun H locs hP hD hS => ?_)
      obtain ⟨f4, ef4⟩ : ∃ y : NI, y = upd jdE x3.toNatClampNeg 0 := ⟨_, rfl⟩
      have hw := hw f4 ef4
      have hP : va_P (dC, dI) vwCl (qpU a0 jch jcD jfB jhx jfB jhr jhs jgk jgl jgm jgz jfV jgn jgO jc6 jfW jiB jch cyI f4) H := by rw [ef4]; exact hP
      have hD : va_D A (qpU a0 jch jcD jfB jhx jfB jhr jhs jgk jgl jgm jgz jfV jgn jgO jc6 jfW jiB jch cyI f4) := by rw [ef4]; exact hD
      refine lv_aload_n hx hb (qaa qdb 2 rfl) rfl (lv_at hl 0 rfl) ?_
      refine va_get (D := (dC, dI)) (ci := 1) (v := .ref jch) (C := RX1) (T := TX1) (N := 4) hx hb hts qHl hown hK hP 0 rfl rfl 0 (by decide) (hts _ qQT) (fun _ h9 => h9) rfl (qaa qdb 3 rfl) ?_
      refine lv_bipush (v := 28) hx hb (qaa qdb 4 rfl) (by decide) ?_
      refine lv_iload_n hx hb (qaa qdb 5 rfl) rfl (lv_at hl 2 rfl) ?_
      refine lv_bipush (v := 6) hx hb (qaa qdb 6 rfl) (by decide) ?_
      refine lv_imul hx hb (qaa qdb 7 rfl) ?_
      refine lv_iadd hx hb (qaa qdb 8 rfl) ?_
      refine lv_topi (fun x5 ex5 => ?_)
      have hw := hw x5 ex5
      refine lv_iload_n hx hb (qaa qdb 9 rfl) rfl (lv_at hl 1 rfl) ?_
      refine lv_iadd hx hb (qaa qdb 10 rfl) ?_
      refine lv_topi (fun x6 ex6 => ?_)
      have hw := hw x6 ex6
      refine lv_iconst (v := 0) hx hb (qaa qdb 11 rfl) (by decide) ?_
      obtain ⟨hi9, hw⟩ := hw
      refine va_iast hx hb hK hP hD hS 2 1 rfl rfl hi9 (qaa qdb 12 rfl) (fun H locs hP hD hS => ?_)
      obtain ⟨f7, ef7⟩ : ∃ y : NI, y = upd f4 x6.toNatClampNeg 0 := ⟨_, rfl⟩
      have hw := hw f7 ef7
      have hP : va_P (dC, dI) vwCl (qpU a0 jch jcD jfB jhx jfB jhr jhs jgk jgl jgm jgz jfV jgn jgO jc6 jfW jiB jch cyI f7) H := by rw [ef7]; exact hP
      have hD : va_D A (qpU a0 jch jcD jfB jhx jfB jhr jhs jgk jgl jgm jgz jfV jgn jgO jc6 jfW jiB jch cyI f7) := by rw [ef7]; exact hD
      obtain ⟨x8, ex8⟩ : ∃ y : Int32, y = l2 + 1 := ⟨_, rfl⟩
      have hw := hw x8 ex8
      refine lv_iinc (v := x8) (lv' := [(2, .int x8), (0, .ref a0), (1, .int l1)]) hx hb (qaa qdb 13 rfl) hl (k := 2) rfl (by rw [ex8]; rfl) (by decide) rfl (fun ls hl => ?_)
      refine lv_goto (tgt := 2) hx hb (qaa qdb 14 rfl) (by decide) ?_
      exact ih _ _ _ f7 l1 x8 hP hD hS (lv_sub hl [1, 2, 0] rfl) hw
set_option maxHeartbeats 4000000 in
set_option maxRecDepth 100000 in
theorem qaA9 (l : Launch) (dC : Nat → ClassId) (dI : Nat → Nat → Nat) (cyB cyI cyJ cyP : ClassId) (a0 jfB jch sz : Nat) (jcD jhx jhr jhs jgk jgl jgm jgz jfV jgn jgO jfW jiB : Value) (jc6 : Int32) (jdE : NI) (p1 : Int32) {Q : NI → Prop} (hw : qHG jc6 jdE p1 Q) : Met l yX1_dropDebts wsX1_dropDebts ({ frames := 0, cells := 0, slots := 0, locals := 0 }) (va_Pc [.ref a0, .int p1] (cPc (dC, dI) (kT cyB cyI cyJ cyP) (qpU a0 jch jcD jfB jhx jfB jhr jhs jgk jgl jgm jgz jfV jgn jgO jc6 jfW jiB jch cyI jdE) sz)) (va_Qv (fun (u : NI) => Q u) (cB (dC, dI) (kT cyB cyI cyJ cyP) (va_A (qpU a0 jch jcD jfB jhx jfB jhr jhs jgk jgl jgm jgz jfV jgn jgO jc6 jfW jiB jch cyI jdE) sz) (fun u : NI => ((qpU a0 jch jcD jfB jhx jfB jhr jhs jgk jgl jgm jgz jfV jgn jgO jc6 jfW jiB jch cyI u) : va_W))) (va_A (qpU a0 jch jcD jfB jhx jfB jhr jhs jgk jgl jgm jgz jfV jgn jgO jc6 jfW jiB jch cyI jdE) sz)) 0 0 (va_A (qpU a0 jch jcD jfB jhx jfB jhr jhs jgk jgl jgm jgz jfV jgn jgO jc6 jfW jiB jch cyI jdE) sz) := by
  refine Met.ofW (cc := cX1_dropDebts) (maxL := 3) (ret := none) (by decide) rfl ?_
  intro p e s m args below meth c s₁ B hml hv
  obtain ⟨rfl, hsz, hP, hK, hD0, hNw⟩ := hv
  have hx := B.exec
  have hb := B.bytes
  have hr := B.returns
  have hts := atoms_spec (ws := wsX1_dropDebts) B.pre
  have hown : s.vm.findClass RX1 = some m.cls := findClass_of_methodNamed B.named
  have hlocks := B.notSynchronized
  subst hsz
  have hD := hD0.self (sz := s.heap.size)
  generalize hAe : va_A (qpU a0 jch jcD jfB jhx jfB jhr jhs jgk jgl jgm jgz jfV jgn jgO jc6 jfW jiB jch cyI jdE) s.heap.size = A at hD ⊢
  have hA : ∀ q : Nat, s.heap.size ≤ q → A q := fun q h => by rw [← hAe]; exact Or.inr h
  have hS : va_S A s.heap s.heap [] := va_S.rf
  have hP : va_P (dC, dI) vwCl (qpU a0 jch jcD jfB jhx jfB jhr jhs jgk jgl jgm jgz jfV jgn jgO jc6 jfW jiB jch cyI jdE) s.heap := hP
  have hl := lv_entry ([.ref a0, .int p1]) (n := 3) (nbq rfl)
  rw [lg_entry_eq]
  generalize (lg_sl ([.ref a0, .int p1]) ++ List.replicate (3 - (lg_sl ([.ref a0, .int p1])).length) Slot.unset).toArray = ls at hl ⊢
  have hl : lv_has ls 3 [(0, .ref a0), (1, .int p1)] := hl
  have C0 : cfx p s m _ meth c cX1_dropDebts none wsX1_dropDebts RX1 3 A (dC, dI) (kT cyB cyI cyJ cyP) := ⟨hx, hb, hr, hts, hown, hlocks, hml, hA, hK, hNw⟩
  clear hAe
  obtain ⟨H, hH⟩ : ∃ H, H = s.heap := ⟨_, rfl⟩
  rw [← hH] at hP ⊢
  have hS : va_S A s.heap H [] := by rw [hH]; exact va_S.rf
  have hS := hS
  refine lv_iconst (v := 0) hx hb (qaa qez 0 rfl) (by decide) ?_
  refine lv_istore_n (lv' := [(2, .int 0), (0, .ref a0), (1, .int p1)]) hx hb (qaa qez 1 rfl) rfl hl (by decide) rfl (fun ls hl => ?_)
  obtain ⟨n9, hw⟩ := hw
  exact qanN dC dI cyB cyI cyJ cyP a0 jfB jch jcD jhx jhr jhs jgk jgl jgm jgz jfV jgn jgO jfW jiB jc6 Q C0 n9 _ _ _ jdE p1 0 hP hD hS (lv_sub hl [1, 2, 0] rfl) hw
theorem qBz : ∀ w ∈ u_ws RX1 TX1 4, w ∈ wsX1_strike := uiM qth qWg (by decide +kernel)
theorem q2s : ∀ w ∈ u_ws RX2 TX2 12, w ∈ wsX1_strike := uiM qth qLp (by decide +kernel)
theorem qMp : (.fieldLink RX1 13 "MarchHares$Days" "row" "[I" : Cond) ∈ wsX1_strike := qth 276 (by decide +kernel)
theorem qZ2 : (.fieldLink RX1 24 "MarchHares$Days" "down" "LMarchHares$Down;" : Cond) ∈ wsX1_strike := qth 322 (by decide +kernel)
theorem qarH : (.fieldLink RX1 32 "MarchHares$Down" "hares" "I" : Cond) ∈ wsX1_strike := qth 324 (by decide +kernel)
theorem qaqF : (.fieldLink RX1 39 "MarchHares$Down" "strength" "[I" : Cond) ∈ wsX1_strike := qth 326 (by decide +kernel)
theorem q6x : (.initialized RX10 : Cond) ∈ wsX1_strike := qth 2 (by decide +kernel)
theorem qVf : (.static yX10_holds : Cond) ∈ wsX1_strike := qth 2052 (by decide +kernel)
set_option maxHeartbeats 4000000 in
set_option maxRecDepth 100000 in
theorem q1i {p : Program} {l : Launch} {e : Env} {s : State} {m : MethodId} {args : Array Value} {below : List Frame} {meth : Method} {c : Code} {A : Nat → Prop} (dC : Nat → ClassId) (dI : Nat → Nat → Nat) (cyB cyI cyJ cyP : ClassId) (a0 jfB jch jip : Nat) (jcD jhx jhr jhs jgk jgl jgm jfV jgn jgO jfW : Value) (jc6 jjn : Int32) (jjx : NI) (Q : NI → Prop) (K7 : NI → Int32 → Int32 → Prop) (hK7 : ∀ (H : Heap) (locs : List Loc) (ls : Array Slot) (jdE : NI) (l1 l2 : Int32), va_P (dC, dI) vwCl (qeT a0 jch jcD jfB jhx jfB jhr jhs jgk jgl jgm jip jfV jgn jgO jc6 jfW jjn jch cyI jdE jip cyI jjx) H → va_D A (qeT a0 jch jcD jfB jhx jfB jhr jhs jgk jgl jgm jip jfV jgn jgO jc6 jfW jjn jch cyI jdE jip cyI jjx) → va_S A s.heap H locs → lv_has ls 3 [(0, .ref a0), (1, .int l1), (2, .int l2)] → K7 jdE l1 l2 → W p l e (headSpec wsX1_strike ({ frames := 3, cells := 0, slots := 0, locals := 64 })).room s m args below meth c H locs 0 0 (MQ below (va_Qv (fun (u : NI) => Q u) (cB (dC, dI) (kT cyB cyI cyJ cyP) A (fun u : NI => ((qeT a0 jch jcD jfB jhx jfB jhr jhs jgk jgl jgm jip jfV jgn jgO jc6 jfW jjn jch cyI u jip cyI jjx) : va_W))) A) args s 0 0 A) (F0 m 7 ls [])) (C0 : cfx p s m args meth c cX1_strike none wsX1_strike RX1 3 A (dC, dI) (kT cyB cyI cyJ cyP)) : ∀ (H : Heap) (locs : List Loc) (ls : Array Slot) (jdE : NI) (l1 l2 : Int32), va_P (dC, dI) vwCl (qeT a0 jch jcD jfB jhx jfB jhr jhs jgk jgl jgm jip jfV jgn jgO jc6 jfW jjn jch cyI jdE jip cyI jjx) H → va_D A (qeT a0 jch jcD jfB jhx jfB jhr jhs jgk jgl jgm jip jfV jgn jgO jc6 jfW jjn jch cyI jdE jip cyI jjx) → va_S A s.heap H locs → lv_has ls 3 [(0, .ref a0), (1, .int l1), (2, .int l2)] → qH9 jc6 jjn jjx Q K7 jdE l1 l2 → W p l e (headSpec wsX1_strike ({ frames := 3, cells := 0, slots := 0, locals := 64 })).room s m args below meth c H locs 0 0 (MQ below (va_Qv (fun (u : NI) => Q u) (cB (dC, dI) (kT cyB cyI cyJ cyP) A (fun u : NI => ((qeT a0 jch jcD jfB jhx jfB jhr jhs jgk jgl jgm jip jfV jgn jgO jc6 jfW jjn jch cyI u jip cyI jjx) : va_W))) A) args s 0 0 A) (F0 m 74 ls []) := by
  obtain ⟨hx, hb, hr, hts, hown, hlocks, hml, hA, hK, hNw⟩ := id C0
  intro H locs ls jdE l1 l2 hP hD hS hl hw
  obtain ⟨x14, ex14⟩ : ∃ y : Int32, y = l2 + 1 := ⟨_, rfl⟩
  have hw := hw x14 ex14
  refine lv_iinc (v := x14) (lv' := [(2, .int x14), (0, .ref a0), (1, .int l1)]) hx hb (qaa qhq 14 rfl) hl (k := 2) rfl (by rw [ex14]; rfl) (by decide) rfl (fun ls hl => ?_)
  refine lv_goto (tgt := 7) hx hb (qaa qhq 15 rfl) (by decide) ?_
  exact hK7 _ _ _ jdE l1 x14 hP hD hS (lv_sub hl [1, 2, 0] rfl) hw
set_option maxHeartbeats 4000000 in
set_option maxRecDepth 100000 in
theorem qaGy {p : Program} {l : Launch} {e : Env} {s : State} {m : MethodId} {args : Array Value} {below : List Frame} {meth : Method} {c : Code} {A : Nat → Prop} (dC : Nat → ClassId) (dI : Nat → Nat → Nat) (cyB cyI cyJ cyP : ClassId) (a0 jfB jch jip : Nat) (jcD jhx jhr jhs jgk jgl jgm jfV jgn jgO jfW : Value) (jc6 jjn : Int32) (jjx : NI) (Q : NI → Prop) (C0 : cfx p s m args meth c cX1_strike none wsX1_strike RX1 3 A (dC, dI) (kT cyB cyI cyJ cyP)) : ∀ (n : Nat) (H : Heap) (locs : List Loc) (ls : Array Slot) (jdE : NI) (l1 l2 : Int32), va_P (dC, dI) vwCl (qeT a0 jch jcD jfB jhx jfB jhr jhs jgk jgl jgm jip jfV jgn jgO jc6 jfW jjn jch cyI jdE jip cyI jjx) H → va_D A (qeT a0 jch jcD jfB jhx jfB jhr jhs jgk jgl jgm jip jfV jgn jgO jc6 jfW jjn jch cyI jdE jip cyI jjx) → va_S A s.heap H locs → lv_has ls 3 [(0, .ref a0), (1, .int l1), (2, .int l2)] → qrI jc6 jjn jjx Q n jdE l1 l2 → W p l e (headSpec wsX1_strike ({ frames := 3, cells := 0, slots := 0, locals := 64 })).room s m args below meth c H locs 0 0 (MQ below (va_Qv (fun (u : NI) => Q u) (cB (dC, dI) (kT cyB cyI cyJ cyP) A (fun u : NI => ((qeT a0 jch jcD jfB jhx jfB jhr jhs jgk jgl jgm jip jfV jgn jgO jc6 jfW jjn jch cyI u jip cyI jjx) : va_W))) A) args s 0 0 A) (F0 m 7 ls []) := by
  obtain ⟨hx, hb, hr, hts, hown, hlocks, hml, hA, hK, hNw⟩ := id C0
  intro n
  induction n with
  | zero => intro H locs ls jdE l1 l2 hP hD hS hl hw; exact False.elim hw
  | succ n ih =>
    intro H locs ls jdE l1 l2 hP hD hS hl hw
    refine lv_iload_n hx hb (qaa qiB 5 rfl) rfl (lv_at hl 2 rfl) ?_
    refine lv_aload_n hx hb (qaa qiB 6 rfl) rfl (lv_at hl 0 rfl) ?_
    refine va_get (D := (dC, dI)) (ci := 1) (v := .ref jfB) (C := RX1) (T := TX1) (N := 4) hx hb hts qBz hown hK hP 0 rfl rfl 2 (by decide) (hts _ qZ2) (fun _ h9 => h9) rfl (qaa qiB 7 rfl) ?_
    refine va_get (D := (dC, dI)) (ci := 2) (v := .int jc6) (C := RX2) (T := TX2) (N := 12) hx hb hts q2s hown hK hP 1 rfl rfl 9 (by decide) (hts _ qarH) (fun _ h9 => h9) rfl (qaa qiB 8 rfl) ?_
    refine lv_icmp_ge (tgt := 80) hx hb (qaa qiB 9 rfl) (by decide) (fun c2 => ?_) (fun c2 => ?_)
    · have hw := hw.1 c2
      exact ((W.vret hx hb hr (fun t ht hW => ⟨⟨(jdE), rfl, hw, by rw [ht]; exact hP, va_K.moved hW.alike hK, hD⟩, hS.F ht⟩) hS.2.2 (qaa qaA5 0 rfl)))
    · have hw := hw.2 c2
      refine lv_iload_n hx hb (qaa qiB 10 rfl) rfl (lv_at hl 1 rfl) ?_
      refine lv_iload_n hx hb (qaa qiB 11 rfl) rfl (lv_at hl 2 rfl) ?_
      obtain ⟨hCc, hPc, hDc, hFc⟩ := qac (ws' := []) hP hD hS hA [] (by decide +kernel) rfl
      refine va_calli (va_runSN (As := [.int l1, .int l2]) (rest := []) ⟨hx, hb, hml, hown, hts⟩ (qnv l dC dI cyB cyI cyJ cyP H.size l1 l2 hw) ⟨(va_cnB 2 hts gX1_strike_X10_holds_n120 rfl rfl rfl (nw_9 hNw) (hts _ q6x) (by decide +kernel) ⟨nbq rfl, nbq rfl⟩), (hts _ qVf), trivial⟩ ⟨qab, qae hPc hK hDc hNw⟩ rfl rfl hl.1 rfl (lv_room (nbq rfl)) (qaa qiB 12 rfl) ⟨nbq rfl, nbq rfl⟩) hS (fun q _ h => hFc q h) hFc (fun r3 u t H1 locs ht hvm hw hB hz1 hk1 hS => ?_)
      obtain ⟨hP1, hK1, hD1⟩ := hB
      rw [ht] at hP1
      obtain ⟨hP, hD⟩ := qah (wr := (qeT a0 jch jcD jfB jhx jfB jhr jhs jgk jgl jgm jip jfV jgn jgO jc6 jfW jjn jch cyI jdE jip cyI jjx)) (w1 := []) (wn := (qeT a0 jch jcD jfB jhx jfB jhr jhs jgk jgl jgm jip jfV jgn jgO jc6 jfW jjn jch cyI jdE jip cyI jjx)) hP hD [] [0, 1, 2, 3] hCc rfl (by decide +kernel) (by decide +kernel) rfl hk1 hFc hP1 hD1
      generalize H1 = H at hP hS ⊢
      refine lv_if_eq (tgt := 46) hx hb (qaa qiB 13 rfl) (by decide) (fun c4 => ?_) (fun c4 => ?_)
      · have hw := hw.1 c4
        refine lv_aload_n hx hb (qaa qhD 12 rfl) rfl (lv_at hl 0 rfl) ?_
        refine va_get (D := (dC, dI)) (ci := 1) (v := .ref jch) (C := RX1) (T := TX1) (N := 4) hx hb hts qBz hown hK hP 0 rfl rfl 0 (by decide) (hts _ qMp) (fun _ h9 => h9) rfl (qaa qhD 13 rfl) ?_
        refine lv_bipush (v := 10) hx hb (qaa qhD 14 rfl) (by decide) ?_
        refine lv_iload_n hx hb (qaa qhD 15 rfl) rfl (lv_at hl 2 rfl) ?_
        refine lv_iadd hx hb (qaa qhq 0 rfl) ?_
        refine lv_topi (fun x5 ex5 => ?_)
        have hw := hw x5 ex5
        refine lv_aload_n hx hb (qaa qhq 1 rfl) rfl (lv_at hl 0 rfl) ?_
        refine va_get (D := (dC, dI)) (ci := 1) (v := .ref jfB) (C := RX1) (T := TX1) (N := 4) hx hb hts qBz hown hK hP 0 rfl rfl 2 (by decide) (hts _ qZ2) (fun _ h9 => h9) rfl (qaa qhq 2 rfl) ?_
        refine va_get (D := (dC, dI)) (ci := 2) (v := .ref jip) (C := RX2) (T := TX2) (N := 12) hx hb hts q2s hown hK hP 1 rfl rfl 5 (by decide) (hts _ qaqF) (fun _ h9 => h9) rfl (qaa qhq 3 rfl) ?_
        refine lv_iload_n hx hb (qaa qhq 4 rfl) rfl (lv_at hl 2 rfl) ?_
        obtain ⟨hi9, hw⟩ := hw
        refine va_iald hx hb hK hP 3 1 rfl rfl hi9 (qaa qhq 5 rfl) ?_
        refine lv_topi (fun x6 ex6 => ?_)
        have hw := hw x6 ex6
        obtain ⟨hi9, hw⟩ := hw
        refine va_iast hx hb hK hP hD hS 2 1 rfl rfl hi9 (qaa qhq 6 rfl) (fun H locs hP hD hS => ?_)
        obtain ⟨f7, ef7⟩ : ∃ y : NI, y = upd jdE x5.toNatClampNeg x6 := ⟨_, rfl⟩
        have hw := hw f7 ef7
        have hP : va_P (dC, dI) vwCl (qeT a0 jch jcD jfB jhx jfB jhr jhs jgk jgl jgm jip jfV jgn jgO jc6 jfW jjn jch cyI f7 jip cyI jjx) H := by rw [ef7]; exact hP
        have hD : va_D A (qeT a0 jch jcD jfB jhx jfB jhr jhs jgk jgl jgm jip jfV jgn jgO jc6 jfW jjn jch cyI f7 jip cyI jjx) := by rw [ef7]; exact hD
        refine lv_aload_n hx hb (qaa qhq 7 rfl) rfl (lv_at hl 0 rfl) ?_
        refine va_get (D := (dC, dI)) (ci := 1) (v := .ref jch) (C := RX1) (T := TX1) (N := 4) hx hb hts qBz hown hK hP 0 rfl rfl 0 (by decide) (hts _ qMp) (fun _ h9 => h9) rfl (qaa qhq 8 rfl) ?_
        refine lv_bipush (v := 16) hx hb (qaa qhq 9 rfl) (by decide) ?_
        refine lv_iload_n hx hb (qaa qhq 10 rfl) rfl (lv_at hl 2 rfl) ?_
        refine lv_iadd hx hb (qaa qhq 11 rfl) ?_
        refine lv_topi (fun x8 ex8 => ?_)
        have hw := hw x8 ex8
        refine lv_iconst (v := 0) hx hb (qaa qhq 12 rfl) (by decide) ?_
        obtain ⟨hi9, hw⟩ := hw
        refine va_iast hx hb hK hP hD hS 2 1 rfl rfl hi9 (qaa qhq 13 rfl) (fun H locs hP hD hS => ?_)
        obtain ⟨f9, ef9⟩ : ∃ y : NI, y = upd f7 x8.toNatClampNeg 0 := ⟨_, rfl⟩
        have hw := hw f9 ef9
        have hP : va_P (dC, dI) vwCl (qeT a0 jch jcD jfB jhx jfB jhr jhs jgk jgl jgm jip jfV jgn jgO jc6 jfW jjn jch cyI f9 jip cyI jjx) H := by rw [ef9]; exact hP
        have hD : va_D A (qeT a0 jch jcD jfB jhx jfB jhr jhs jgk jgl jgm jip jfV jgn jgO jc6 jfW jjn jch cyI f9 jip cyI jjx) := by rw [ef9]; exact hD
        exact q1i dC dI cyB cyI cyJ cyP a0 jfB jch jip jcD jhx jhr jhs jgk jgl jgm jfV jgn jgO jfW jc6 jjn jjx Q (qrI jc6 jjn jjx Q n) ih C0 _ _ _ f9 l1 l2 hP hD hS (lv_sub hl [0, 1, 2] rfl) hw
      · have hw := hw.2 c4
        refine lv_aload_n hx hb (qaa qiB 14 rfl) rfl (lv_at hl 0 rfl) ?_
        refine va_get (D := (dC, dI)) (ci := 1) (v := .ref jch) (C := RX1) (T := TX1) (N := 4) hx hb hts qBz hown hK hP 0 rfl rfl 0 (by decide) (hts _ qMp) (fun _ h9 => h9) rfl (qaa qiB 15 rfl) ?_
        refine lv_iconst (v := 2) hx hb (qaa qhD 0 rfl) (by decide) ?_
        refine lv_dup2_11 hx hb (qaa qhD 1 rfl) rfl rfl ?_
        refine va_iald hx hb hK hP 2 1 rfl rfl (vin (by decide)) (qaa qhD 2 rfl) ?_
        refine lv_topi (fun x10 ex10 => ?_)
        have hw := hw x10 ex10
        refine lv_iconst (v := 1) hx hb (qaa qhD 3 rfl) (by decide) ?_
        refine lv_iload_n hx hb (qaa qhD 4 rfl) rfl (lv_at hl 2 rfl) ?_
        refine lv_ishl hx hb (qaa qhD 5 rfl) ?_
        refine lv_ior hx hb (qaa qhD 6 rfl) ?_
        refine lv_topi (fun x11 ex11 => ?_)
        have hw := hw x11 ex11
        refine va_iast hx hb hK hP hD hS 2 1 rfl rfl (vin (by decide)) (qaa qhD 7 rfl) (fun H locs hP hD hS => ?_)
        obtain ⟨f12, ef12⟩ : ∃ y : NI, y = upd jdE (2 : Int32).toNatClampNeg x11 := ⟨_, rfl⟩
        have hw := hw f12 ef12
        have hP : va_P (dC, dI) vwCl (qeT a0 jch jcD jfB jhx jfB jhr jhs jgk jgl jgm jip jfV jgn jgO jc6 jfW jjn jch cyI f12 jip cyI jjx) H := by rw [ef12]; exact hP
        have hD : va_D A (qeT a0 jch jcD jfB jhx jfB jhr jhs jgk jgl jgm jip jfV jgn jgO jc6 jfW jjn jch cyI f12 jip cyI jjx) := by rw [ef12]; exact hD
        refine lv_aload_n hx hb (qaa qhD 8 rfl) rfl (lv_at hl 0 rfl) ?_
        refine lv_iload_n hx hb (qaa qhD 9 rfl) rfl (lv_at hl 2 rfl) ?_
        obtain ⟨hCc, hPc, hDc, hFc⟩ := qac (ws' := (qaPv a0 jch jcD jfB jhx jfB jhr jhs jgk jgl jgm jip jfV jgn jgO jc6 jfW jjn jch cyI f12)) hP hD hS hA [0, 1, 2] (by decide +kernel) rfl
        refine va_callv (va_runV (As := [.int l2]) (rest := []) ⟨hx, hb, hml, hown, hts⟩ (qaA9 l dC dI cyB cyI cyJ cyP a0 jfB jch H.size (jcD) (jhx) (jhr) (jhs) (jgk) (jgl) (jgm) (.ref jip) (jfV) (jgn) (jgO) (jfW) (.int jjn) jc6 f12 l2 hw) (cwV 1 hts gX1_strike_X1_dropDebts rfl rfl rfl (by decide +kernel) ⟨nbq rfl, nbq rfl⟩) ⟨qab, va_recv (q := (RX1, TX1, 4)) hK hPc (ci := 1) (q0 := 0) rfl rfl, qae hPc hK hDc hNw⟩ rfl rfl hl.1 rfl (lv_room (nbq rfl)) (qaa qhD 10 rfl) ⟨nbq rfl, nbq rfl⟩) hS (fun q _ h => hFc q h) hFc (fun u t H1 locs ht hvm hw hB hz1 hk1 hS => ?_)
        obtain ⟨f13, rfl⟩ : ∃ z, z = u := ⟨_, rfl⟩
        obtain ⟨hP1, hK1, hD1⟩ := hB
        rw [ht] at hP1
        obtain ⟨hP, hD⟩ := qad (wr := (qa4Z jip cyI jjx)) (w1 := (qaPv a0 jch jcD jfB jhx jfB jhr jhs jgk jgl jgm jip jfV jgn jgO jc6 jfW jjn jch cyI f13)) (wn := (qeT a0 jch jcD jfB jhx jfB jhr jhs jgk jgl jgm jip jfV jgn jgO jc6 jfW jjn jch cyI f13 jip cyI jjx)) hP hD [0, 1, 2] [3] [1, 2, 3, 0] hCc rfl (by decide +kernel) (by decide +kernel) (by decide +kernel) rfl hk1 hFc hP1 hD1
        generalize H1 = H at hP hS ⊢
        refine lv_goto (tgt := 74) hx hb (qaa qhD 11 rfl) (by decide) ?_
        exact q1i dC dI cyB cyI cyJ cyP a0 jfB jch jip jcD jhx jhr jhs jgk jgl jgm jfV jgn jgO jfW jc6 jjn jjx Q (qrI jc6 jjn jjx Q n) ih C0 _ _ _ f13 l1 l2 hP hD hS (lv_sub hl [0, 1, 2] rfl) hw
set_option maxHeartbeats 4000000 in
set_option maxRecDepth 100000 in
theorem qaUp (l : Launch) (dC : Nat → ClassId) (dI : Nat → Nat → Nat) (cyB cyI cyJ cyP : ClassId) (a0 jfB jch jip sz : Nat) (jcD jhx jhr jhs jgk jgl jgm jfV jgn jgO jfW : Value) (jc6 jjn : Int32) (jjx jdE : NI) {Q : NI → Prop} (hw : qSg jc6 jjn jjx jdE Q) : Met l yX1_strike wsX1_strike ({ frames := 3, cells := 0, slots := 0, locals := 64 }) (va_Pc [.ref a0] (cPc (dC, dI) (kT cyB cyI cyJ cyP) (qeT a0 jch jcD jfB jhx jfB jhr jhs jgk jgl jgm jip jfV jgn jgO jc6 jfW jjn jch cyI jdE jip cyI jjx) sz)) (va_Qv (fun (u : NI) => Q u) (cB (dC, dI) (kT cyB cyI cyJ cyP) (va_A (qeT a0 jch jcD jfB jhx jfB jhr jhs jgk jgl jgm jip jfV jgn jgO jc6 jfW jjn jch cyI jdE jip cyI jjx) sz) (fun u : NI => ((qeT a0 jch jcD jfB jhx jfB jhr jhs jgk jgl jgm jip jfV jgn jgO jc6 jfW jjn jch cyI u jip cyI jjx) : va_W))) (va_A (qeT a0 jch jcD jfB jhx jfB jhr jhs jgk jgl jgm jip jfV jgn jgO jc6 jfW jjn jch cyI jdE jip cyI jjx) sz)) 0 0 (va_A (qeT a0 jch jcD jfB jhx jfB jhr jhs jgk jgl jgm jip jfV jgn jgO jc6 jfW jjn jch cyI jdE jip cyI jjx) sz) := by
  refine Met.ofW (cc := cX1_strike) (maxL := 3) (ret := none) (by decide) rfl ?_
  intro p e s m args below meth c s₁ B hml hv
  obtain ⟨rfl, hsz, hP, hK, hD0, hNw⟩ := hv
  have hx := B.exec
  have hb := B.bytes
  have hr := B.returns
  have hts := atoms_spec (ws := wsX1_strike) B.pre
  have hown : s.vm.findClass RX1 = some m.cls := findClass_of_methodNamed B.named
  have hlocks := B.notSynchronized
  subst hsz
  have hD := hD0.self (sz := s.heap.size)
  generalize hAe : va_A (qeT a0 jch jcD jfB jhx jfB jhr jhs jgk jgl jgm jip jfV jgn jgO jc6 jfW jjn jch cyI jdE jip cyI jjx) s.heap.size = A at hD ⊢
  have hA : ∀ q : Nat, s.heap.size ≤ q → A q := fun q h => by rw [← hAe]; exact Or.inr h
  have hS : va_S A s.heap s.heap [] := va_S.rf
  have hP : va_P (dC, dI) vwCl (qeT a0 jch jcD jfB jhx jfB jhr jhs jgk jgl jgm jip jfV jgn jgO jc6 jfW jjn jch cyI jdE jip cyI jjx) s.heap := hP
  have hl := lv_entry ([.ref a0]) (n := 3) (nbq rfl)
  rw [lg_entry_eq]
  generalize (lg_sl ([.ref a0]) ++ List.replicate (3 - (lg_sl ([.ref a0])).length) Slot.unset).toArray = ls at hl ⊢
  have hl : lv_has ls 3 [(0, .ref a0)] := hl
  have C0 : cfx p s m _ meth c cX1_strike none wsX1_strike RX1 3 A (dC, dI) (kT cyB cyI cyJ cyP) := ⟨hx, hb, hr, hts, hown, hlocks, hml, hA, hK, hNw⟩
  clear hAe
  obtain ⟨H, hH⟩ : ∃ H, H = s.heap := ⟨_, rfl⟩
  rw [← hH] at hP ⊢
  have hS : va_S A s.heap H [] := by rw [hH]; exact va_S.rf
  have hS := hS
  refine lv_aload_n hx hb (qaa qiB 0 rfl) rfl (lv_at hl 0 rfl) ?_
  obtain ⟨hCc, hPc, hDc, hFc⟩ := qac (ws' := (qaPv a0 jch jcD jfB jhx jfB jhr jhs jgk jgl jgm jip jfV jgn jgO jc6 jfW jjn jch cyI jdE)) hP hD hS hA [0, 1, 2] (by decide +kernel) rfl
  refine va_calli (va_runV (As := []) (rest := []) ⟨hx, hb, hml, hown, hts⟩ (qZR l dC dI cyB cyI cyJ cyP a0 jfB jch H.size (jcD) (jhx) (jhr) (jhs) (jgk) (jgl) (jgm) (.ref jip) (jfV) (jgn) (jgO) (jfW) jc6 jjn jdE hw) (cwV 0 hts gX1_strike_X1_endangered rfl rfl rfl (by decide +kernel) ⟨nbq rfl, nbq rfl⟩) ⟨qab, va_recv (q := (RX1, TX1, 4)) hK hPc (ci := 1) (q0 := 0) rfl rfl, qae hPc hK hDc hNw⟩ rfl rfl hl.1 rfl (lv_room (nbq rfl)) (qaa qiB 1 rfl) ⟨nbq rfl, nbq rfl⟩) hS (fun q _ h => hFc q h) hFc (fun r1 u t H1 locs ht hvm hw hB hz1 hk1 hS => ?_)
  obtain ⟨hP1, hK1, hD1⟩ := hB
  rw [ht] at hP1
  obtain ⟨hP, hD⟩ := qad (wr := (qa4Z jip cyI jjx)) (w1 := (qaPv a0 jch jcD jfB jhx jfB jhr jhs jgk jgl jgm jip jfV jgn jgO jc6 jfW jjn jch cyI jdE)) (wn := (qeT a0 jch jcD jfB jhx jfB jhr jhs jgk jgl jgm jip jfV jgn jgO jc6 jfW jjn jch cyI jdE jip cyI jjx)) hP hD [0, 1, 2] [3] [1, 2, 3, 0] hCc rfl (by decide +kernel) (by decide +kernel) (by decide +kernel) rfl hk1 hFc hP1 hD1
  generalize H1 = H at hP hS ⊢
  refine lv_istore_n (lv' := [(1, .int r1), (0, .ref a0)]) hx hb (qaa qiB 2 rfl) rfl hl (by decide) rfl (fun ls hl => ?_)
  refine lv_iconst (v := 0) hx hb (qaa qiB 3 rfl) (by decide) ?_
  refine lv_istore_n (lv' := [(2, .int 0), (1, .int r1), (0, .ref a0)]) hx hb (qaa qiB 4 rfl) rfl hl (by decide) rfl (fun ls hl => ?_)
  obtain ⟨n9, hw⟩ := hw
  exact qaGy dC dI cyB cyI cyJ cyP a0 jfB jch jip jcD jhx jhr jhs jgk jgl jgm jfV jgn jgO jfW jc6 jjn jjx Q C0 n9 _ _ _ jdE r1 0 hP hD hS (lv_sub hl [2, 1, 0] rfl) hw
theorem qqU : ∀ w ∈ u_ws RX1 TX1 4, w ∈ wsX1_passDay := uiM qvt qWg (by decide +kernel)
theorem qarM : ∀ w ∈ u_ws RX2 TX2 12, w ∈ wsX1_passDay := uiM qvt qLp (by decide +kernel)
theorem qrc : (.fieldLink RX1 13 "MarchHares$Days" "row" "[I" : Cond) ∈ wsX1_passDay := qvt 276 (by decide +kernel)
theorem qamh : (.fieldLink RX1 24 "MarchHares$Days" "down" "LMarchHares$Down;" : Cond) ∈ wsX1_passDay := qvt 322 (by decide +kernel)
theorem qamk : (.fieldLink RX1 32 "MarchHares$Down" "hares" "I" : Cond) ∈ wsX1_passDay := qvt 324 (by decide +kernel)
theorem q38 : (.initialized RX10 : Cond) ∈ wsX1_passDay := qvt 2 (by decide +kernel)
theorem qS6 : (.static yX10_holds : Cond) ∈ wsX1_passDay := qvt 2052 (by decide +kernel)
set_option maxHeartbeats 4000000 in
set_option maxRecDepth 100000 in
theorem qZl {p : Program} {l : Launch} {e : Env} {s : State} {m : MethodId} {args : Array Value} {below : List Frame} {meth : Method} {c : Code} {A : Nat → Prop} (dC : Nat → ClassId) (dI : Nat → Nat → Nat) (cyB cyI cyJ cyP : ClassId) (a0 jfB jch jip : Nat) (jcD jhx jhr jhs jgk jgl jgm jfV jgn jgO jfW : Value) (jc6 jjn : Int32) (jjx : NI) (Q : NI → Prop) (K2 : NI → Int32 → Prop) (hK2 : ∀ (H : Heap) (locs : List Loc) (ls : Array Slot) (jdE : NI) (l1 : Int32), va_P (dC, dI) vwCl (qeT a0 jch jcD jfB jhx jfB jhr jhs jgk jgl jgm jip jfV jgn jgO jc6 jfW jjn jch cyI jdE jip cyI jjx) H → va_D A (qeT a0 jch jcD jfB jhx jfB jhr jhs jgk jgl jgm jip jfV jgn jgO jc6 jfW jjn jch cyI jdE jip cyI jjx) → va_S A s.heap H locs → lv_has ls 2 [(0, .ref a0), (1, .int l1)] → K2 jdE l1 → W p l e (headSpec wsX1_passDay ({ frames := 4, cells := 0, slots := 0, locals := 86 })).room s m args below meth c H locs 0 0 (MQ below (va_Qv (fun (u : NI) => Q u) (cB (dC, dI) (kT cyB cyI cyJ cyP) A (fun u : NI => ((qeT a0 jch jcD jfB jhx jfB jhr jhs jgk jgl jgm jip jfV jgn jgO jc6 jfW jjn jch cyI u jip cyI jjx) : va_W))) A) args s 0 0 A) (F0 m 2 ls [])) (C0 : cfx p s m args meth c cX1_passDay none wsX1_passDay RX1 2 A (dC, dI) (kT cyB cyI cyJ cyP)) : ∀ (H : Heap) (locs : List Loc) (ls : Array Slot) (jdE : NI) (l1 : Int32), va_P (dC, dI) vwCl (qeT a0 jch jcD jfB jhx jfB jhr jhs jgk jgl jgm jip jfV jgn jgO jc6 jfW jjn jch cyI jdE jip cyI jjx) H → va_D A (qeT a0 jch jcD jfB jhx jfB jhr jhs jgk jgl jgm jip jfV jgn jgO jc6 jfW jjn jch cyI jdE jip cyI jjx) → va_S A s.heap H locs → lv_has ls 2 [(0, .ref a0), (1, .int l1)] → qEx jc6 jjn jjx Q K2 jdE l1 → W p l e (headSpec wsX1_passDay ({ frames := 4, cells := 0, slots := 0, locals := 86 })).room s m args below meth c H locs 0 0 (MQ below (va_Qv (fun (u : NI) => Q u) (cB (dC, dI) (kT cyB cyI cyJ cyP) A (fun u : NI => ((qeT a0 jch jcD jfB jhx jfB jhr jhs jgk jgl jgm jip jfV jgn jgO jc6 jfW jjn jch cyI u jip cyI jjx) : va_W))) A) args s 0 0 A) (F0 m 46 ls []) := by
  obtain ⟨hx, hb, hr, hts, hown, hlocks, hml, hA, hK, hNw⟩ := id C0
  intro H locs ls jdE l1 hP hD hS hl hw
  obtain ⟨x21, ex21⟩ : ∃ y : Int32, y = l1 + 1 := ⟨_, rfl⟩
  have hw := hw x21 ex21
  refine lv_iinc (v := x21) (lv' := [(1, .int x21), (0, .ref a0)]) hx hb (qaa qfH 13 rfl) hl (k := 1) rfl (by rw [ex21]; rfl) (by decide) rfl (fun ls hl => ?_)
  refine lv_goto (tgt := 2) hx hb (qaa qfH 14 rfl) (by decide) ?_
  exact hK2 _ _ _ jdE x21 hP hD hS (lv_sub hl [1, 0] rfl) hw
set_option maxHeartbeats 4000000 in
set_option maxRecDepth 100000 in
theorem qawQ {p : Program} {l : Launch} {e : Env} {s : State} {m : MethodId} {args : Array Value} {below : List Frame} {meth : Method} {c : Code} {A : Nat → Prop} (dC : Nat → ClassId) (dI : Nat → Nat → Nat) (cyB cyI cyJ cyP : ClassId) (a0 jfB jch jip : Nat) (jcD jhx jhr jhs jgk jgl jgm jfV jgn jgO jfW : Value) (jc6 jjn : Int32) (jjx : NI) (Q : NI → Prop) (C0 : cfx p s m args meth c cX1_passDay none wsX1_passDay RX1 2 A (dC, dI) (kT cyB cyI cyJ cyP)) : ∀ (n : Nat) (H : Heap) (locs : List Loc) (ls : Array Slot) (jdE : NI) (l1 : Int32), va_P (dC, dI) vwCl (qeT a0 jch jcD jfB jhx jfB jhr jhs jgk jgl jgm jip jfV jgn jgO jc6 jfW jjn jch cyI jdE jip cyI jjx) H → va_D A (qeT a0 jch jcD jfB jhx jfB jhr jhs jgk jgl jgm jip jfV jgn jgO jc6 jfW jjn jch cyI jdE jip cyI jjx) → va_S A s.heap H locs → lv_has ls 2 [(0, .ref a0), (1, .int l1)] → qqG jc6 jjn jjx Q n jdE l1 → W p l e (headSpec wsX1_passDay ({ frames := 4, cells := 0, slots := 0, locals := 86 })).room s m args below meth c H locs 0 0 (MQ below (va_Qv (fun (u : NI) => Q u) (cB (dC, dI) (kT cyB cyI cyJ cyP) A (fun u : NI => ((qeT a0 jch jcD jfB jhx jfB jhr jhs jgk jgl jgm jip jfV jgn jgO jc6 jfW jjn jch cyI u jip cyI jjx) : va_W))) A) args s 0 0 A) (F0 m 2 ls []) := by
  obtain ⟨hx, hb, hr, hts, hown, hlocks, hml, hA, hK, hNw⟩ := id C0
  intro n
  induction n with
  | zero => intro H locs ls jdE l1 hP hD hS hl hw; exact False.elim hw
  | succ n ih =>
    intro H locs ls jdE l1 hP hD hS hl hw
    refine lv_iload_n hx hb (qaa qg0 2 rfl) rfl (lv_at hl 1 rfl) ?_
    refine lv_aload_n hx hb (qaa qg0 3 rfl) rfl (lv_at hl 0 rfl) ?_
    refine va_get (D := (dC, dI)) (ci := 1) (v := .ref jfB) (C := RX1) (T := TX1) (N := 4) hx hb hts qqU hown hK hP 0 rfl rfl 2 (by decide) (hts _ qamh) (fun _ h9 => h9) rfl (qaa qg0 4 rfl) ?_
    refine va_get (D := (dC, dI)) (ci := 2) (v := .int jc6) (C := RX2) (T := TX2) (N := 12) hx hb hts qarM hown hK hP 1 rfl rfl 9 (by decide) (hts _ qamk) (fun _ h9 => h9) rfl (qaa qg0 5 rfl) ?_
    refine lv_icmp_ge (tgt := 52) hx hb (qaa qg0 6 rfl) (by decide) (fun c1 => ?_) (fun c1 => ?_)
    · have hw := hw.1 c1
      refine lv_aload_n hx hb (qaa qfH 15 rfl) rfl (lv_at hl 0 rfl) ?_
      refine va_get (D := (dC, dI)) (ci := 1) (v := .ref jch) (C := RX1) (T := TX1) (N := 4) hx hb hts qqU hown hK hP 0 rfl rfl 0 (by decide) (hts _ qrc) (fun _ h9 => h9) rfl (qaa qf8 0 rfl) ?_
      refine lv_iconst (v := 3) hx hb (qaa qf8 1 rfl) (by decide) ?_
      refine lv_iconst (v := 0) hx hb (qaa qf8 2 rfl) (by decide) ?_
      refine va_iast hx hb hK hP hD hS 2 1 rfl rfl (vin (by decide)) (qaa qf8 3 rfl) (fun H locs hP hD hS => ?_)
      obtain ⟨f2, ef2⟩ : ∃ y : NI, y = upd jdE (3 : Int32).toNatClampNeg 0 := ⟨_, rfl⟩
      have hw := hw f2 ef2
      have hP : va_P (dC, dI) vwCl (qeT a0 jch jcD jfB jhx jfB jhr jhs jgk jgl jgm jip jfV jgn jgO jc6 jfW jjn jch cyI f2 jip cyI jjx) H := by rw [ef2]; exact hP
      have hD : va_D A (qeT a0 jch jcD jfB jhx jfB jhr jhs jgk jgl jgm jip jfV jgn jgO jc6 jfW jjn jch cyI f2 jip cyI jjx) := by rw [ef2]; exact hD
      refine lv_aload_n hx hb (qaa qf8 4 rfl) rfl (lv_at hl 0 rfl) ?_
      refine va_get (D := (dC, dI)) (ci := 1) (v := .ref jch) (C := RX1) (T := TX1) (N := 4) hx hb hts qqU hown hK hP 0 rfl rfl 0 (by decide) (hts _ qrc) (fun _ h9 => h9) rfl (qaa qf8 5 rfl) ?_
      refine lv_iconst (v := 0) hx hb (qaa qf8 6 rfl) (by decide) ?_
      refine lv_dup2_11 hx hb (qaa qf8 7 rfl) rfl rfl ?_
      refine va_iald hx hb hK hP 2 1 rfl rfl (vin (by decide)) (qaa qf8 8 rfl) ?_
      refine lv_topi (fun x3 ex3 => ?_)
      have hw := hw x3 ex3
      refine lv_iconst (v := 1) hx hb (qaa qf8 9 rfl) (by decide) ?_
      refine lv_iadd hx hb (qaa qf8 10 rfl) ?_
      refine lv_topi (fun x4 ex4 => ?_)
      have hw := hw x4 ex4
      refine va_iast hx hb hK hP hD hS 2 1 rfl rfl (vin (by decide)) (qaa qf8 11 rfl) (fun H locs hP hD hS => ?_)
      obtain ⟨f5, ef5⟩ : ∃ y : NI, y = upd f2 (0 : Int32).toNatClampNeg x4 := ⟨_, rfl⟩
      have hw := hw f5 ef5
      have hP : va_P (dC, dI) vwCl (qeT a0 jch jcD jfB jhx jfB jhr jhs jgk jgl jgm jip jfV jgn jgO jc6 jfW jjn jch cyI f5 jip cyI jjx) H := by rw [ef5]; exact hP
      have hD : va_D A (qeT a0 jch jcD jfB jhx jfB jhr jhs jgk jgl jgm jip jfV jgn jgO jc6 jfW jjn jch cyI f5 jip cyI jjx) := by rw [ef5]; exact hD
      refine lv_aload_n hx hb (qaa qf8 12 rfl) rfl (lv_at hl 0 rfl) ?_
      refine va_get (D := (dC, dI)) (ci := 1) (v := .ref jch) (C := RX1) (T := TX1) (N := 4) hx hb hts qqU hown hK hP 0 rfl rfl 0 (by decide) (hts _ qrc) (fun _ h9 => h9) rfl (qaa qf8 13 rfl) ?_
      refine lv_iconst (v := 0) hx hb (qaa qf8 14 rfl) (by decide) ?_
      refine va_iald hx hb hK hP 2 1 rfl rfl (vin (by decide)) (qaa qf8 15 rfl) ?_
      refine lv_topi (fun x6 ex6 => ?_)
      have hw := hw x6 ex6
      refine lv_bipush (v := 31) hx hb (qaa qfg 0 rfl) (by decide) ?_
      refine lv_icmp_le (tgt := 101) hx hb (qaa qfg 1 rfl) (by decide) (fun c7 => ?_) (fun c7 => ?_)
      · have hw := hw.1 c7
        exact ((W.vret hx hb hr (fun t ht hW => ⟨⟨(f5), rfl, hw, by rw [ht]; exact hP, va_K.moved hW.alike hK, hD⟩, hS.F ht⟩) hS.2.2 (qaa qJv 1 rfl)))
      · have hw := hw.2 c7
        refine lv_aload_n hx hb (qaa qfg 2 rfl) rfl (lv_at hl 0 rfl) ?_
        obtain ⟨hCc, hPc, hDc, hFc⟩ := qac (ws' := (qeT a0 jch jcD jfB jhx jfB jhr jhs jgk jgl jgm jip jfV jgn jgO jc6 jfW jjn jch cyI f5 jip cyI jjx)) hP hD hS hA [0, 1, 2, 3] (by decide +kernel) rfl
        refine va_callv (va_runV (As := []) (rest := []) ⟨hx, hb, hml, hown, hts⟩ (qaUp l dC dI cyB cyI cyJ cyP a0 jfB jch jip H.size (jcD) (jhx) (jhr) (jhs) (jgk) (jgl) (jgm) (jfV) (jgn) (jgO) (jfW) jc6 jjn jjx f5 hw) (cwV 0 hts gX1_passDay_X1_strike rfl rfl rfl (by decide +kernel) ⟨nbq rfl, nbq rfl⟩) ⟨qab, va_recv (q := (RX1, TX1, 4)) hK hPc (ci := 1) (q0 := 0) rfl rfl, qae hPc hK hDc hNw⟩ rfl rfl hl.1 rfl (lv_room (nbq rfl)) (qaa qfg 3 rfl) ⟨nbq rfl, nbq rfl⟩) hS (fun q _ h => hFc q h) hFc (fun u t H1 locs ht hvm hw hB hz1 hk1 hS => ?_)
        obtain ⟨f8, rfl⟩ : ∃ z, z = u := ⟨_, rfl⟩
        obtain ⟨hP1, hK1, hD1⟩ := hB
        rw [ht] at hP1
        obtain ⟨hP, hD⟩ := qah (wr := []) (w1 := (qeT a0 jch jcD jfB jhx jfB jhr jhs jgk jgl jgm jip jfV jgn jgO jc6 jfW jjn jch cyI f8 jip cyI jjx)) (wn := (qeT a0 jch jcD jfB jhx jfB jhr jhs jgk jgl jgm jip jfV jgn jgO jc6 jfW jjn jch cyI f8 jip cyI jjx)) hP hD [0, 1, 2, 3] [] hCc rfl (by decide +kernel) (by decide +kernel) rfl hk1 hFc hP1 hD1
        generalize H1 = H at hP hS ⊢
        refine lv_aload_n hx hb (qaa qfg 4 rfl) rfl (lv_at hl 0 rfl) ?_
        refine va_get (D := (dC, dI)) (ci := 1) (v := .ref jch) (C := RX1) (T := TX1) (N := 4) hx hb hts qqU hown hK hP 0 rfl rfl 0 (by decide) (hts _ qrc) (fun _ h9 => h9) rfl (qaa qfg 5 rfl) ?_
        refine lv_iconst (v := 0) hx hb (qaa qfg 6 rfl) (by decide) ?_
        refine lv_iconst (v := 1) hx hb (qaa qfg 7 rfl) (by decide) ?_
        refine va_iast hx hb hK hP hD hS 2 1 rfl rfl (vin (by decide)) (qaa qfg 8 rfl) (fun H locs hP hD hS => ?_)
        obtain ⟨f9, ef9⟩ : ∃ y : NI, y = upd f8 (0 : Int32).toNatClampNeg 1 := ⟨_, rfl⟩
        have hw := hw f9 ef9
        have hP : va_P (dC, dI) vwCl (qeT a0 jch jcD jfB jhx jfB jhr jhs jgk jgl jgm jip jfV jgn jgO jc6 jfW jjn jch cyI f9 jip cyI jjx) H := by rw [ef9]; exact hP
        have hD : va_D A (qeT a0 jch jcD jfB jhx jfB jhr jhs jgk jgl jgm jip jfV jgn jgO jc6 jfW jjn jch cyI f9 jip cyI jjx) := by rw [ef9]; exact hD
        refine lv_aload_n hx hb (qaa qfg 9 rfl) rfl (lv_at hl 0 rfl) ?_
        refine va_get (D := (dC, dI)) (ci := 1) (v := .ref jch) (C := RX1) (T := TX1) (N := 4) hx hb hts qqU hown hK hP 0 rfl rfl 0 (by decide) (hts _ qrc) (fun _ h9 => h9) rfl (qaa qfg 10 rfl) ?_
        refine lv_iconst (v := 1) hx hb (qaa qfg 11 rfl) (by decide) ?_
        refine lv_dup2_11 hx hb (qaa qfg 12 rfl) rfl rfl ?_
        refine va_iald hx hb hK hP 2 1 rfl rfl (vin (by decide)) (qaa qfg 13 rfl) ?_
        refine lv_topi (fun x10 ex10 => ?_)
        have hw := hw x10 ex10
        refine lv_iconst (v := 1) hx hb (qaa qfg 14 rfl) (by decide) ?_
        refine lv_iadd hx hb (qaa qfg 15 rfl) ?_
        refine lv_topi (fun x11 ex11 => ?_)
        have hw := hw x11 ex11
        refine va_iast hx hb hK hP hD hS 2 1 rfl rfl (vin (by decide)) (qaa qJv 0 rfl) (fun H locs hP hD hS => ?_)
        obtain ⟨f12, ef12⟩ : ∃ y : NI, y = upd f9 (1 : Int32).toNatClampNeg x11 := ⟨_, rfl⟩
        have hw := hw f12 ef12
        have hP : va_P (dC, dI) vwCl (qeT a0 jch jcD jfB jhx jfB jhr jhs jgk jgl jgm jip jfV jgn jgO jc6 jfW jjn jch cyI f12 jip cyI jjx) H := by rw [ef12]; exact hP
        have hD : va_D A (qeT a0 jch jcD jfB jhx jfB jhr jhs jgk jgl jgm jip jfV jgn jgO jc6 jfW jjn jch cyI f12 jip cyI jjx) := by rw [ef12]; exact hD
        exact ((W.vret hx hb hr (fun t ht hW => ⟨⟨(f12), rfl, hw, by rw [ht]; exact hP, va_K.moved hW.alike hK, hD⟩, hS.F ht⟩) hS.2.2 (qaa qJv 1 rfl)))
    · have hw := hw.2 c1
      refine lv_aload_n hx hb (qaa qg0 7 rfl) rfl (lv_at hl 0 rfl) ?_
      refine va_get (D := (dC, dI)) (ci := 1) (v := .ref jch) (C := RX1) (T := TX1) (N := 4) hx hb hts qqU hown hK hP 0 rfl rfl 0 (by decide) (hts _ qrc) (fun _ h9 => h9) rfl (qaa qg0 8 rfl) ?_
      refine lv_iconst (v := 2) hx hb (qaa qg0 9 rfl) (by decide) ?_
      refine va_iald hx hb hK hP 2 1 rfl rfl (vin (by decide)) (qaa qg0 10 rfl) ?_
      refine lv_topi (fun x13 ex13 => ?_)
      have hw := hw x13 ex13
      refine lv_aload_n hx hb (qaa qg0 11 rfl) rfl (lv_at hl 0 rfl) ?_
      refine va_get (D := (dC, dI)) (ci := 1) (v := .ref jch) (C := RX1) (T := TX1) (N := 4) hx hb hts qqU hown hK hP 0 rfl rfl 0 (by decide) (hts _ qrc) (fun _ h9 => h9) rfl (qaa qg0 12 rfl) ?_
      refine lv_iconst (v := 3) hx hb (qaa qg0 13 rfl) (by decide) ?_
      refine va_iald hx hb hK hP 2 1 rfl rfl (vin (by decide)) (qaa qg0 14 rfl) ?_
      refine lv_topi (fun x14 ex14 => ?_)
      have hw := hw x14 ex14
      refine lv_ior hx hb (qaa qg0 15 rfl) ?_
      refine lv_iload_n hx hb (qaa qfH 0 rfl) rfl (lv_at hl 1 rfl) ?_
      obtain ⟨hCc, hPc, hDc, hFc⟩ := qac (ws' := []) hP hD hS hA [] (by decide +kernel) rfl
      refine va_calli (va_runSN (As := [.int (x13 ||| x14), .int l1]) (rest := []) ⟨hx, hb, hml, hown, hts⟩ (qnv l dC dI cyB cyI cyJ cyP H.size (x13 ||| x14) l1 hw) ⟨(va_cnB 2 hts gX1_passDay_X10_holds_n120 rfl rfl rfl (nw_9 hNw) (hts _ q38) (by decide +kernel) ⟨nbq rfl, nbq rfl⟩), (hts _ qS6), trivial⟩ ⟨qab, qae hPc hK hDc hNw⟩ rfl rfl hl.1 rfl (lv_room (nbq rfl)) (qaa qfH 1 rfl) ⟨nbq rfl, nbq rfl⟩) hS (fun q _ h => hFc q h) hFc (fun r15 u t H1 locs ht hvm hw hB hz1 hk1 hS => ?_)
      obtain ⟨hP1, hK1, hD1⟩ := hB
      rw [ht] at hP1
      obtain ⟨hP, hD⟩ := qah (wr := (qeT a0 jch jcD jfB jhx jfB jhr jhs jgk jgl jgm jip jfV jgn jgO jc6 jfW jjn jch cyI jdE jip cyI jjx)) (w1 := []) (wn := (qeT a0 jch jcD jfB jhx jfB jhr jhs jgk jgl jgm jip jfV jgn jgO jc6 jfW jjn jch cyI jdE jip cyI jjx)) hP hD [] [0, 1, 2, 3] hCc rfl (by decide +kernel) (by decide +kernel) rfl hk1 hFc hP1 hD1
      generalize H1 = H at hP hS ⊢
      refine lv_if_ne (tgt := 46) hx hb (qaa qfH 2 rfl) (by decide) (fun c16 => ?_) (fun c16 => ?_)
      · have hw := hw.1 c16
        exact qZl dC dI cyB cyI cyJ cyP a0 jfB jch jip jcD jhx jhr jhs jgk jgl jgm jfV jgn jgO jfW jc6 jjn jjx Q (qqG jc6 jjn jjx Q n) ih C0 _ _ _ jdE l1 hP hD hS (lv_sub hl [0, 1] rfl) hw
      · have hw := hw.2 c16
        refine lv_aload_n hx hb (qaa qfH 3 rfl) rfl (lv_at hl 0 rfl) ?_
        refine va_get (D := (dC, dI)) (ci := 1) (v := .ref jch) (C := RX1) (T := TX1) (N := 4) hx hb hts qqU hown hK hP 0 rfl rfl 0 (by decide) (hts _ qrc) (fun _ h9 => h9) rfl (qaa qfH 4 rfl) ?_
        refine lv_bipush (v := 16) hx hb (qaa qfH 5 rfl) (by decide) ?_
        refine lv_iload_n hx hb (qaa qfH 6 rfl) rfl (lv_at hl 1 rfl) ?_
        refine lv_iadd hx hb (qaa qfH 7 rfl) ?_
        refine lv_topi (fun x17 ex17 => ?_)
        have hw := hw x17 ex17
        refine lv_dup2_11 hx hb (qaa qfH 8 rfl) rfl rfl ?_
        obtain ⟨hi9, hw⟩ := hw
        refine va_iald hx hb hK hP 2 1 rfl rfl hi9 (qaa qfH 9 rfl) ?_
        refine lv_topi (fun x18 ex18 => ?_)
        have hw := hw x18 ex18
        refine lv_iconst (v := 1) hx hb (qaa qfH 10 rfl) (by decide) ?_
        refine lv_iadd hx hb (qaa qfH 11 rfl) ?_
        refine lv_topi (fun x19 ex19 => ?_)
        have hw := hw x19 ex19
        obtain ⟨hi9, hw⟩ := hw
        refine va_iast hx hb hK hP hD hS 2 1 rfl rfl hi9 (qaa qfH 12 rfl) (fun H locs hP hD hS => ?_)
        obtain ⟨f20, ef20⟩ : ∃ y : NI, y = upd jdE x17.toNatClampNeg x19 := ⟨_, rfl⟩
        have hw := hw f20 ef20
        have hP : va_P (dC, dI) vwCl (qeT a0 jch jcD jfB jhx jfB jhr jhs jgk jgl jgm jip jfV jgn jgO jc6 jfW jjn jch cyI f20 jip cyI jjx) H := by rw [ef20]; exact hP
        have hD : va_D A (qeT a0 jch jcD jfB jhx jfB jhr jhs jgk jgl jgm jip jfV jgn jgO jc6 jfW jjn jch cyI f20 jip cyI jjx) := by rw [ef20]; exact hD
        exact qZl dC dI cyB cyI cyJ cyP a0 jfB jch jip jcD jhx jhr jhs jgk jgl jgm jfV jgn jgO jfW jc6 jjn jjx Q (qqG jc6 jjn jjx Q n) ih C0 _ _ _ f20 l1 hP hD hS (lv_sub hl [0, 1] rfl) hw
set_option maxHeartbeats 4000000 in
set_option maxRecDepth 100000 in
theorem qXA (l : Launch) (dC : Nat → ClassId) (dI : Nat → Nat → Nat) (cyB cyI cyJ cyP : ClassId) (a0 jfB jch jip sz : Nat) (jcD jhx jhr jhs jgk jgl jgm jfV jgn jgO jfW : Value) (jc6 jjn : Int32) (jjx jdE : NI) {Q : NI → Prop} (hw : qCv jc6 jjn jjx jdE Q) : Met l yX1_passDay wsX1_passDay ({ frames := 4, cells := 0, slots := 0, locals := 86 }) (va_Pc [.ref a0] (cPc (dC, dI) (kT cyB cyI cyJ cyP) (qeT a0 jch jcD jfB jhx jfB jhr jhs jgk jgl jgm jip jfV jgn jgO jc6 jfW jjn jch cyI jdE jip cyI jjx) sz)) (va_Qv (fun (u : NI) => Q u) (cB (dC, dI) (kT cyB cyI cyJ cyP) (va_A (qeT a0 jch jcD jfB jhx jfB jhr jhs jgk jgl jgm jip jfV jgn jgO jc6 jfW jjn jch cyI jdE jip cyI jjx) sz) (fun u : NI => ((qeT a0 jch jcD jfB jhx jfB jhr jhs jgk jgl jgm jip jfV jgn jgO jc6 jfW jjn jch cyI u jip cyI jjx) : va_W))) (va_A (qeT a0 jch jcD jfB jhx jfB jhr jhs jgk jgl jgm jip jfV jgn jgO jc6 jfW jjn jch cyI jdE jip cyI jjx) sz)) 0 0 (va_A (qeT a0 jch jcD jfB jhx jfB jhr jhs jgk jgl jgm jip jfV jgn jgO jc6 jfW jjn jch cyI jdE jip cyI jjx) sz) := by
  refine Met.ofW (cc := cX1_passDay) (maxL := 2) (ret := none) (by decide) rfl ?_
  intro p e s m args below meth c s₁ B hml hv
  obtain ⟨rfl, hsz, hP, hK, hD0, hNw⟩ := hv
  have hx := B.exec
  have hb := B.bytes
  have hr := B.returns
  have hts := atoms_spec (ws := wsX1_passDay) B.pre
  have hown : s.vm.findClass RX1 = some m.cls := findClass_of_methodNamed B.named
  have hlocks := B.notSynchronized
  subst hsz
  have hD := hD0.self (sz := s.heap.size)
  generalize hAe : va_A (qeT a0 jch jcD jfB jhx jfB jhr jhs jgk jgl jgm jip jfV jgn jgO jc6 jfW jjn jch cyI jdE jip cyI jjx) s.heap.size = A at hD ⊢
  have hA : ∀ q : Nat, s.heap.size ≤ q → A q := fun q h => by rw [← hAe]; exact Or.inr h
  have hS : va_S A s.heap s.heap [] := va_S.rf
  have hP : va_P (dC, dI) vwCl (qeT a0 jch jcD jfB jhx jfB jhr jhs jgk jgl jgm jip jfV jgn jgO jc6 jfW jjn jch cyI jdE jip cyI jjx) s.heap := hP
  have hl := lv_entry ([.ref a0]) (n := 2) (nbq rfl)
  rw [lg_entry_eq]
  generalize (lg_sl ([.ref a0]) ++ List.replicate (2 - (lg_sl ([.ref a0])).length) Slot.unset).toArray = ls at hl ⊢
  have hl : lv_has ls 2 [(0, .ref a0)] := hl
  have C0 : cfx p s m _ meth c cX1_passDay none wsX1_passDay RX1 2 A (dC, dI) (kT cyB cyI cyJ cyP) := ⟨hx, hb, hr, hts, hown, hlocks, hml, hA, hK, hNw⟩
  clear hAe
  obtain ⟨H, hH⟩ : ∃ H, H = s.heap := ⟨_, rfl⟩
  rw [← hH] at hP ⊢
  have hS : va_S A s.heap H [] := by rw [hH]; exact va_S.rf
  have hS := hS
  refine lv_iconst (v := 0) hx hb (qaa qg0 0 rfl) (by decide) ?_
  refine lv_istore_n (lv' := [(1, .int 0), (0, .ref a0)]) hx hb (qaa qg0 1 rfl) rfl hl (by decide) rfl (fun ls hl => ?_)
  obtain ⟨n9, hw⟩ := hw
  exact qawQ dC dI cyB cyI cyJ cyP a0 jfB jch jip jcD jhx jhr jhs jgk jgl jgm jfV jgn jgO jfW jc6 jjn jjx Q C0 n9 _ _ _ jdE 0 hP hD hS (lv_sub hl [1, 0] rfl) hw
theorem qaV9 : ∀ w ∈ u_ws RX1 TX1 4, w ∈ wsX1_day := uiM qa0W qWg (by decide +kernel)
theorem qaRf : (.fieldLink RX1 13 "MarchHares$Days" "row" "[I" : Cond) ∈ wsX1_day := qa0W 276 (by decide +kernel)
set_option maxHeartbeats 4000000 in
set_option maxRecDepth 100000 in
theorem qag9 (l : Launch) (dC : Nat → ClassId) (dI : Nat → Nat → Nat) (cyB cyI cyJ cyP : ClassId) (a0 jch sz : Nat) (jcD ji6 jhx : Value) (jdE : NI) {Q : Int32 → Prop} (hw : qVP jdE Q) : Met l yX1_day wsX1_day ({ frames := 0, cells := 0, slots := 0, locals := 0 }) (va_Pc [.ref a0] (cPc (dC, dI) (kT cyB cyI cyJ cyP) (qaH a0 jch jcD ji6 jhx jch cyI jdE) sz)) (va_Qi (fun (r : Int32) (_ : Unit) => Q r ) (cB (dC, dI) (kT cyB cyI cyJ cyP) (va_A (qaH a0 jch jcD ji6 jhx jch cyI jdE) sz) (fun u : Unit => ((qaH a0 jch jcD ji6 jhx jch cyI jdE) : va_W))) (va_A (qaH a0 jch jcD ji6 jhx jch cyI jdE) sz)) 0 0 (va_A (qaH a0 jch jcD ji6 jhx jch cyI jdE) sz) := by
  refine Met.ofW (cc := cX1_day) (maxL := 1) (ret := (some .int)) (by decide) rfl ?_
  intro p e s m args below meth c s₁ B hml hv
  obtain ⟨rfl, hsz, hP, hK, hD0, hNw⟩ := hv
  have hx := B.exec
  have hb := B.bytes
  have hr := B.returns
  have hts := atoms_spec (ws := wsX1_day) B.pre
  have hown : s.vm.findClass RX1 = some m.cls := findClass_of_methodNamed B.named
  have hlocks := B.notSynchronized
  subst hsz
  have hD := hD0.self (sz := s.heap.size)
  generalize hAe : va_A (qaH a0 jch jcD ji6 jhx jch cyI jdE) s.heap.size = A at hD ⊢
  have hA : ∀ q : Nat, s.heap.size ≤ q → A q := fun q h => by rw [← hAe]; exact Or.inr h
  have hS : va_S A s.heap s.heap [] := va_S.rf
  have hP : va_P (dC, dI) vwCl (qaH a0 jch jcD ji6 jhx jch cyI jdE) s.heap := hP
  have hl := lv_entry ([.ref a0]) (n := 1) (nbq rfl)
  rw [lg_entry_eq]
  generalize (lg_sl ([.ref a0]) ++ List.replicate (1 - (lg_sl ([.ref a0])).length) Slot.unset).toArray = ls at hl ⊢
  have hl : lv_has ls 1 [(0, .ref a0)] := hl
  have C0 : cfx p s m _ meth c cX1_day (some .int) wsX1_day RX1 1 A (dC, dI) (kT cyB cyI cyJ cyP) := ⟨hx, hb, hr, hts, hown, hlocks, hml, hA, hK, hNw⟩
  clear hAe
  obtain ⟨H, hH⟩ : ∃ H, H = s.heap := ⟨_, rfl⟩
  rw [← hH] at hP ⊢
  have hS : va_S A s.heap H [] := by rw [hH]; exact va_S.rf
  have hS := hS
  refine lv_aload_n hx hb (qaa qOR 0 rfl) rfl (lv_at hl 0 rfl) ?_
  refine va_get (D := (dC, dI)) (ci := 1) (v := .ref jch) (C := RX1) (T := TX1) (N := 4) hx hb hts qaV9 hown hK hP 0 rfl rfl 0 (by decide) (hts _ qaRf) (fun _ h9 => h9) rfl (qaa qOR 1 rfl) ?_
  refine lv_iconst (v := 0) hx hb (qaa qOR 2 rfl) (by decide) ?_
  refine va_iald hx hb hK hP 1 1 rfl rfl (vin (by decide)) (qaa qOR 3 rfl) ?_
  refine lv_topi (fun x1 ex1 => ?_)
  have hw := hw x1 ex1
  exact ((W.iret (v := x1) hx hb hr (fun t ht hW => ⟨⟨x1, (), rfl, hw, by rw [ht]; exact hP, va_K.moved hW.alike hK, hD⟩, hS.F ht⟩) hS.2.2 (qaa qOR 4 rfl)))
theorem qaa3 : ∀ w ∈ u_ws RX1 TX1 4, w ∈ wsX1_caughtOnes := uiM q2U qWg (by decide +kernel)
theorem q6L : (.fieldLink RX1 13 "MarchHares$Days" "row" "[I" : Cond) ∈ wsX1_caughtOnes := q2U 276 (by decide +kernel)
set_option maxHeartbeats 4000000 in
set_option maxRecDepth 100000 in
theorem qLZ (l : Launch) (dC : Nat → ClassId) (dI : Nat → Nat → Nat) (cyB cyI cyJ cyP : ClassId) (a0 jch sz : Nat) (jcD ji6 jhx : Value) (jdE : NI) {Q : Int32 → Prop} (hw : qEG jdE Q) : Met l yX1_caughtOnes wsX1_caughtOnes ({ frames := 0, cells := 0, slots := 0, locals := 0 }) (va_Pc [.ref a0] (cPc (dC, dI) (kT cyB cyI cyJ cyP) (qaH a0 jch jcD ji6 jhx jch cyI jdE) sz)) (va_Qi (fun (r : Int32) (_ : Unit) => Q r ) (cB (dC, dI) (kT cyB cyI cyJ cyP) (va_A (qaH a0 jch jcD ji6 jhx jch cyI jdE) sz) (fun u : Unit => ((qaH a0 jch jcD ji6 jhx jch cyI jdE) : va_W))) (va_A (qaH a0 jch jcD ji6 jhx jch cyI jdE) sz)) 0 0 (va_A (qaH a0 jch jcD ji6 jhx jch cyI jdE) sz) := by
  refine Met.ofW (cc := cX1_caughtOnes) (maxL := 1) (ret := (some .int)) (by decide) rfl ?_
  intro p e s m args below meth c s₁ B hml hv
  obtain ⟨rfl, hsz, hP, hK, hD0, hNw⟩ := hv
  have hx := B.exec
  have hb := B.bytes
  have hr := B.returns
  have hts := atoms_spec (ws := wsX1_caughtOnes) B.pre
  have hown : s.vm.findClass RX1 = some m.cls := findClass_of_methodNamed B.named
  have hlocks := B.notSynchronized
  subst hsz
  have hD := hD0.self (sz := s.heap.size)
  generalize hAe : va_A (qaH a0 jch jcD ji6 jhx jch cyI jdE) s.heap.size = A at hD ⊢
  have hA : ∀ q : Nat, s.heap.size ≤ q → A q := fun q h => by rw [← hAe]; exact Or.inr h
  have hS : va_S A s.heap s.heap [] := va_S.rf
  have hP : va_P (dC, dI) vwCl (qaH a0 jch jcD ji6 jhx jch cyI jdE) s.heap := hP
  have hl := lv_entry ([.ref a0]) (n := 1) (nbq rfl)
  rw [lg_entry_eq]
  generalize (lg_sl ([.ref a0]) ++ List.replicate (1 - (lg_sl ([.ref a0])).length) Slot.unset).toArray = ls at hl ⊢
  have hl : lv_has ls 1 [(0, .ref a0)] := hl
  have C0 : cfx p s m _ meth c cX1_caughtOnes (some .int) wsX1_caughtOnes RX1 1 A (dC, dI) (kT cyB cyI cyJ cyP) := ⟨hx, hb, hr, hts, hown, hlocks, hml, hA, hK, hNw⟩
  clear hAe
  obtain ⟨H, hH⟩ : ∃ H, H = s.heap := ⟨_, rfl⟩
  rw [← hH] at hP ⊢
  have hS : va_S A s.heap H [] := by rw [hH]; exact va_S.rf
  have hS := hS
  refine lv_aload_n hx hb (qaa qw2 0 rfl) rfl (lv_at hl 0 rfl) ?_
  refine va_get (D := (dC, dI)) (ci := 1) (v := .ref jch) (C := RX1) (T := TX1) (N := 4) hx hb hts qaa3 hown hK hP 0 rfl rfl 0 (by decide) (hts _ q6L) (fun _ h9 => h9) rfl (qaa qw2 1 rfl) ?_
  refine lv_iconst (v := 2) hx hb (qaa qw2 2 rfl) (by decide) ?_
  refine va_iald hx hb hK hP 1 1 rfl rfl (vin (by decide)) (qaa qw2 3 rfl) ?_
  refine lv_topi (fun x1 ex1 => ?_)
  have hw := hw x1 ex1
  exact ((W.iret (v := x1) hx hb hr (fun t ht hW => ⟨⟨x1, (), rfl, hw, by rw [ht]; exact hP, va_K.moved hW.alike hK, hD⟩, hS.F ht⟩) hS.2.2 (qaa qw2 4 rfl)))
theorem qaD2 : ∀ w ∈ u_ws RX1 TX1 4, w ∈ wsX1_owesTo := uiM qaxM qWg (by decide +kernel)
theorem qarU : (.fieldLink RX1 13 "MarchHares$Days" "row" "[I" : Cond) ∈ wsX1_owesTo := qaxM 276 (by decide +kernel)
set_option maxHeartbeats 4000000 in
set_option maxRecDepth 100000 in
theorem qGD (l : Launch) (dC : Nat → ClassId) (dI : Nat → Nat → Nat) (cyB cyI cyJ cyP : ClassId) (a0 jch sz : Nat) (jcD ji6 jhx : Value) (jdE : NI) (p1 p2 : Int32) {Q : Int32 → Prop} (hw : qxg jdE p1 p2 Q) : Met l yX1_owesTo wsX1_owesTo ({ frames := 0, cells := 0, slots := 0, locals := 0 }) (va_Pc [.ref a0, .int p1, .int p2] (cPc (dC, dI) (kT cyB cyI cyJ cyP) (qaH a0 jch jcD ji6 jhx jch cyI jdE) sz)) (va_Qi (fun (r : Int32) (_ : Unit) => Q r ) (cB (dC, dI) (kT cyB cyI cyJ cyP) (va_A (qaH a0 jch jcD ji6 jhx jch cyI jdE) sz) (fun u : Unit => ((qaH a0 jch jcD ji6 jhx jch cyI jdE) : va_W))) (va_A (qaH a0 jch jcD ji6 jhx jch cyI jdE) sz)) 0 0 (va_A (qaH a0 jch jcD ji6 jhx jch cyI jdE) sz) := by
  refine Met.ofW (cc := cX1_owesTo) (maxL := 3) (ret := (some .int)) (by decide) rfl ?_
  intro p e s m args below meth c s₁ B hml hv
  obtain ⟨rfl, hsz, hP, hK, hD0, hNw⟩ := hv
  have hx := B.exec
  have hb := B.bytes
  have hr := B.returns
  have hts := atoms_spec (ws := wsX1_owesTo) B.pre
  have hown : s.vm.findClass RX1 = some m.cls := findClass_of_methodNamed B.named
  have hlocks := B.notSynchronized
  subst hsz
  have hD := hD0.self (sz := s.heap.size)
  generalize hAe : va_A (qaH a0 jch jcD ji6 jhx jch cyI jdE) s.heap.size = A at hD ⊢
  have hA : ∀ q : Nat, s.heap.size ≤ q → A q := fun q h => by rw [← hAe]; exact Or.inr h
  have hS : va_S A s.heap s.heap [] := va_S.rf
  have hP : va_P (dC, dI) vwCl (qaH a0 jch jcD ji6 jhx jch cyI jdE) s.heap := hP
  have hl := lv_entry ([.ref a0, .int p1, .int p2]) (n := 3) (nbq rfl)
  rw [lg_entry_eq]
  generalize (lg_sl ([.ref a0, .int p1, .int p2]) ++ List.replicate (3 - (lg_sl ([.ref a0, .int p1, .int p2])).length) Slot.unset).toArray = ls at hl ⊢
  have hl : lv_has ls 3 [(0, .ref a0), (1, .int p1), (2, .int p2)] := hl
  have C0 : cfx p s m _ meth c cX1_owesTo (some .int) wsX1_owesTo RX1 3 A (dC, dI) (kT cyB cyI cyJ cyP) := ⟨hx, hb, hr, hts, hown, hlocks, hml, hA, hK, hNw⟩
  clear hAe
  obtain ⟨H, hH⟩ : ∃ H, H = s.heap := ⟨_, rfl⟩
  rw [← hH] at hP ⊢
  have hS : va_S A s.heap H [] := by rw [hH]; exact va_S.rf
  have hS := hS
  refine lv_aload_n hx hb (qaa qqy 0 rfl) rfl (lv_at hl 0 rfl) ?_
  refine va_get (D := (dC, dI)) (ci := 1) (v := .ref jch) (C := RX1) (T := TX1) (N := 4) hx hb hts qaD2 hown hK hP 0 rfl rfl 0 (by decide) (hts _ qarU) (fun _ h9 => h9) rfl (qaa qqy 1 rfl) ?_
  refine lv_bipush (v := 28) hx hb (qaa qqy 2 rfl) (by decide) ?_
  refine lv_iload_n hx hb (qaa qqy 3 rfl) rfl (lv_at hl 1 rfl) ?_
  refine lv_bipush (v := 6) hx hb (qaa qqy 4 rfl) (by decide) ?_
  refine lv_imul hx hb (qaa qqy 5 rfl) ?_
  refine lv_iadd hx hb (qaa qqy 6 rfl) ?_
  refine lv_topi (fun x1 ex1 => ?_)
  have hw := hw x1 ex1
  refine lv_iload_n hx hb (qaa qqy 7 rfl) rfl (lv_at hl 2 rfl) ?_
  refine lv_iadd hx hb (qaa qqy 8 rfl) ?_
  refine lv_topi (fun x2 ex2 => ?_)
  have hw := hw x2 ex2
  obtain ⟨hi9, hw⟩ := hw
  refine va_iald hx hb hK hP 1 1 rfl rfl hi9 (qaa qqy 9 rfl) ?_
  refine lv_topi (fun x3 ex3 => ?_)
  have hw := hw x3 ex3
  exact ((W.iret (v := x3) hx hb hr (fun t ht hW => ⟨⟨x3, (), rfl, hw, by rw [ht]; exact hP, va_K.moved hW.alike hK, hD⟩, hS.F ht⟩) hS.2.2 (qaa qqy 10 rfl)))
theorem qaQH : ∀ w ∈ u_ws RX1 TX1 4, w ∈ wsX1_owes := uiM qU8 qWg (by decide +kernel)
theorem qaRb : ∀ w ∈ u_ws RX2 TX2 12, w ∈ wsX1_owes := uiM qU8 qLp (by decide +kernel)
theorem qaEZ : (.fieldLink RX1 24 "MarchHares$Days" "down" "LMarchHares$Down;" : Cond) ∈ wsX1_owes := qU8 322 (by decide +kernel)
theorem qaJO : (.fieldLink RX1 32 "MarchHares$Down" "hares" "I" : Cond) ∈ wsX1_owes := qU8 324 (by decide +kernel)
set_option maxHeartbeats 4000000 in
set_option maxRecDepth 100000 in
theorem qaVt {p : Program} {l : Launch} {e : Env} {s : State} {m : MethodId} {args : Array Value} {below : List Frame} {meth : Method} {c : Code} {A : Nat → Prop} (dC : Nat → ClassId) (dI : Nat → Nat → Nat) (cyB cyI cyJ cyP : ClassId) (a0 jfB jch : Nat) (jcD jhx jhr jhs jgk jgl jgm jgz jfV jgn jgO jfW jiB : Value) (jc6 : Int32) (jdE : NI) (Q : Int32 → Prop) (C0 : cfx p s m args meth c cX1_owes (some .int) wsX1_owes RX1 4 A (dC, dI) (kT cyB cyI cyJ cyP)) : ∀ (n : Nat) (H : Heap) (locs : List Loc) (ls : Array Slot) (l1 l2 l3 : Int32), va_P (dC, dI) vwCl (qpU a0 jch jcD jfB jhx jfB jhr jhs jgk jgl jgm jgz jfV jgn jgO jc6 jfW jiB jch cyI jdE) H → va_D A (qpU a0 jch jcD jfB jhx jfB jhr jhs jgk jgl jgm jgz jfV jgn jgO jc6 jfW jiB jch cyI jdE) → va_S A s.heap H locs → lv_has ls 4 [(0, .ref a0), (1, .int l1), (2, .int l2), (3, .int l3)] → qLg jc6 jdE Q n l1 l2 l3 → W p l e (headSpec wsX1_owes ({ frames := 1, cells := 0, slots := 0, locals := 22 })).room s m args below meth c H locs 0 0 (MQ below (va_Qi (fun (r : Int32) (_ : Unit) => Q r ) (cB (dC, dI) (kT cyB cyI cyJ cyP) A (fun u : Unit => ((qpU a0 jch jcD jfB jhx jfB jhr jhs jgk jgl jgm jgz jfV jgn jgO jc6 jfW jiB jch cyI jdE) : va_W))) A) args s 0 0 A) (F0 m 4 ls []) := by
  obtain ⟨hx, hb, hr, hts, hown, hlocks, hml, hA, hK, hNw⟩ := id C0
  intro n
  induction n with
  | zero => intro H locs ls l1 l2 l3 hP hD hS hl hw; exact False.elim hw
  | succ n ih =>
    intro H locs ls l1 l2 l3 hP hD hS hl hw
    refine lv_iload_n hx hb (qaa qon 4 rfl) rfl (lv_at hl 3 rfl) ?_
    refine lv_aload_n hx hb (qaa qon 5 rfl) rfl (lv_at hl 0 rfl) ?_
    refine va_get (D := (dC, dI)) (ci := 1) (v := .ref jfB) (C := RX1) (T := TX1) (N := 4) hx hb hts qaQH hown hK hP 0 rfl rfl 2 (by decide) (hts _ qaEZ) (fun _ h9 => h9) rfl (qaa qon 6 rfl) ?_
    refine va_get (D := (dC, dI)) (ci := 2) (v := .int jc6) (C := RX2) (T := TX2) (N := 12) hx hb hts qaRb hown hK hP 1 rfl rfl 9 (by decide) (hts _ qaJO) (fun _ h9 => h9) rfl (qaa qon 7 rfl) ?_
    refine lv_icmp_ge (tgt := 30) hx hb (qaa qon 8 rfl) (by decide) (fun c1 => ?_) (fun c1 => ?_)
    · have hw := hw.1 c1
      refine lv_iload_n hx hb (qaa qN8 2 rfl) rfl (lv_at hl 2 rfl) ?_
      exact ((W.iret (v := l2) hx hb hr (fun t ht hW => ⟨⟨l2, (), rfl, hw, by rw [ht]; exact hP, va_K.moved hW.alike hK, hD⟩, hS.F ht⟩) hS.2.2 (qaa qN8 3 rfl)))
    · have hw := hw.2 c1
      refine lv_iload_n hx hb (qaa qon 9 rfl) rfl (lv_at hl 2 rfl) ?_
      refine lv_aload_n hx hb (qaa qon 10 rfl) rfl (lv_at hl 0 rfl) ?_
      refine lv_iload_n hx hb (qaa qon 11 rfl) rfl (lv_at hl 1 rfl) ?_
      refine lv_iload_n hx hb (qaa qon 12 rfl) rfl (lv_at hl 3 rfl) ?_
      obtain ⟨hCc, hPc, hDc, hFc⟩ := qac (ws' := (qafV a0 jch jcD jfB jhx jch cyI jdE)) hP hD hS hA [0, 2] (by decide +kernel) rfl
      refine va_calli (va_runV (As := [.int l1, .int l3]) (rest := [.int l2]) ⟨hx, hb, hml, hown, hts⟩ (qGD l dC dI cyB cyI cyJ cyP a0 jch H.size (jcD) (.ref jfB) (jhx) jdE l1 l3 hw) (cwV 2 hts gX1_owes_X1_owesTo rfl rfl rfl (by decide +kernel) ⟨nbq rfl, nbq rfl⟩) ⟨qab, va_recv (q := (RX1, TX1, 4)) hK hPc (ci := 1) (q0 := 0) rfl rfl, qae hPc hK hDc hNw⟩ rfl rfl hl.1 rfl (lv_room (nbq rfl)) (qaa qon 13 rfl) ⟨nbq rfl, nbq rfl⟩) hS (fun q _ h => hFc q h) hFc (fun r2 u t H1 locs ht hvm hw hB hz1 hk1 hS => ?_)
      obtain ⟨hP1, hK1, hD1⟩ := hB
      rw [ht] at hP1
      obtain ⟨hP, hD⟩ := qad (wr := [(jfB, .inr (2, [jhr, jhs, jgk, jgl, jgm, jgz, jfV, jgn, jgO, .int jc6, jfW, jiB]))]) (w1 := (qafV a0 jch jcD jfB jhx jch cyI jdE)) (wn := (qpU a0 jch jcD jfB jhx jfB jhr jhs jgk jgl jgm jgz jfV jgn jgO jc6 jfW jiB jch cyI jdE)) hP hD [0, 2] [1] [1, 0, 2] hCc rfl (by decide +kernel) (by decide +kernel) (by decide +kernel) rfl hk1 hFc hP1 hD1
      generalize H1 = H at hP hS ⊢
      refine lv_iadd hx hb (qaa qon 14 rfl) ?_
      refine lv_topi (fun x3 ex3 => ?_)
      have hw := hw x3 ex3
      refine lv_istore_n (lv' := [(2, .int x3), (0, .ref a0), (1, .int l1), (3, .int l3)]) hx hb (qaa qon 15 rfl) rfl hl (by decide) rfl (fun ls hl => ?_)
      obtain ⟨x4, ex4⟩ : ∃ y : Int32, y = l3 + 1 := ⟨_, rfl⟩
      have hw := hw x4 ex4
      refine lv_iinc (v := x4) (lv' := [(3, .int x4), (2, .int x3), (0, .ref a0), (1, .int l1)]) hx hb (qaa qN8 0 rfl) hl (k := 3) rfl (by rw [ex4]; rfl) (by decide) rfl (fun ls hl => ?_)
      refine lv_goto (tgt := 4) hx hb (qaa qN8 1 rfl) (by decide) ?_
      exact ih _ _ _ l1 x3 x4 hP hD hS (lv_sub hl [2, 3, 1, 0] rfl) hw
set_option maxHeartbeats 4000000 in
set_option maxRecDepth 100000 in
theorem qaiy (l : Launch) (dC : Nat → ClassId) (dI : Nat → Nat → Nat) (cyB cyI cyJ cyP : ClassId) (a0 jfB jch sz : Nat) (jcD jhx jhr jhs jgk jgl jgm jgz jfV jgn jgO jfW jiB : Value) (jc6 : Int32) (jdE : NI) (p1 : Int32) {Q : Int32 → Prop} (hw : qOv jc6 jdE p1 Q) : Met l yX1_owes wsX1_owes ({ frames := 1, cells := 0, slots := 0, locals := 22 }) (va_Pc [.ref a0, .int p1] (cPc (dC, dI) (kT cyB cyI cyJ cyP) (qpU a0 jch jcD jfB jhx jfB jhr jhs jgk jgl jgm jgz jfV jgn jgO jc6 jfW jiB jch cyI jdE) sz)) (va_Qi (fun (r : Int32) (_ : Unit) => Q r ) (cB (dC, dI) (kT cyB cyI cyJ cyP) (va_A (qpU a0 jch jcD jfB jhx jfB jhr jhs jgk jgl jgm jgz jfV jgn jgO jc6 jfW jiB jch cyI jdE) sz) (fun u : Unit => ((qpU a0 jch jcD jfB jhx jfB jhr jhs jgk jgl jgm jgz jfV jgn jgO jc6 jfW jiB jch cyI jdE) : va_W))) (va_A (qpU a0 jch jcD jfB jhx jfB jhr jhs jgk jgl jgm jgz jfV jgn jgO jc6 jfW jiB jch cyI jdE) sz)) 0 0 (va_A (qpU a0 jch jcD jfB jhx jfB jhr jhs jgk jgl jgm jgz jfV jgn jgO jc6 jfW jiB jch cyI jdE) sz) := by
  refine Met.ofW (cc := cX1_owes) (maxL := 4) (ret := (some .int)) (by decide) rfl ?_
  intro p e s m args below meth c s₁ B hml hv
  obtain ⟨rfl, hsz, hP, hK, hD0, hNw⟩ := hv
  have hx := B.exec
  have hb := B.bytes
  have hr := B.returns
  have hts := atoms_spec (ws := wsX1_owes) B.pre
  have hown : s.vm.findClass RX1 = some m.cls := findClass_of_methodNamed B.named
  have hlocks := B.notSynchronized
  subst hsz
  have hD := hD0.self (sz := s.heap.size)
  generalize hAe : va_A (qpU a0 jch jcD jfB jhx jfB jhr jhs jgk jgl jgm jgz jfV jgn jgO jc6 jfW jiB jch cyI jdE) s.heap.size = A at hD ⊢
  have hA : ∀ q : Nat, s.heap.size ≤ q → A q := fun q h => by rw [← hAe]; exact Or.inr h
  have hS : va_S A s.heap s.heap [] := va_S.rf
  have hP : va_P (dC, dI) vwCl (qpU a0 jch jcD jfB jhx jfB jhr jhs jgk jgl jgm jgz jfV jgn jgO jc6 jfW jiB jch cyI jdE) s.heap := hP
  have hl := lv_entry ([.ref a0, .int p1]) (n := 4) (nbq rfl)
  rw [lg_entry_eq]
  generalize (lg_sl ([.ref a0, .int p1]) ++ List.replicate (4 - (lg_sl ([.ref a0, .int p1])).length) Slot.unset).toArray = ls at hl ⊢
  have hl : lv_has ls 4 [(0, .ref a0), (1, .int p1)] := hl
  have C0 : cfx p s m _ meth c cX1_owes (some .int) wsX1_owes RX1 4 A (dC, dI) (kT cyB cyI cyJ cyP) := ⟨hx, hb, hr, hts, hown, hlocks, hml, hA, hK, hNw⟩
  clear hAe
  obtain ⟨H, hH⟩ : ∃ H, H = s.heap := ⟨_, rfl⟩
  rw [← hH] at hP ⊢
  have hS : va_S A s.heap H [] := by rw [hH]; exact va_S.rf
  have hS := hS
  refine lv_iconst (v := 0) hx hb (qaa qon 0 rfl) (by decide) ?_
  refine lv_istore_n (lv' := [(2, .int 0), (0, .ref a0), (1, .int p1)]) hx hb (qaa qon 1 rfl) rfl hl (by decide) rfl (fun ls hl => ?_)
  refine lv_iconst (v := 0) hx hb (qaa qon 2 rfl) (by decide) ?_
  refine lv_istore_n (lv' := [(3, .int 0), (2, .int 0), (0, .ref a0), (1, .int p1)]) hx hb (qaa qon 3 rfl) rfl hl (by decide) rfl (fun ls hl => ?_)
  obtain ⟨n9, hw⟩ := hw
  exact qaVt dC dI cyB cyI cyJ cyP a0 jfB jch jcD jhx jhr jhs jgk jgl jgm jgz jfV jgn jgO jfW jiB jc6 jdE Q C0 n9 _ _ _ p1 0 0 hP hD hS (lv_sub hl [2, 3, 1, 0] rfl) hw
theorem qani : ∀ w ∈ u_ws RX1 TX1 4, w ∈ wsX1_allDebts := uiM qDa qWg (by decide +kernel)
theorem qals : ∀ w ∈ u_ws RX2 TX2 12, w ∈ wsX1_allDebts := uiM qDa qLp (by decide +kernel)
theorem qaf5 : (.fieldLink RX1 24 "MarchHares$Days" "down" "LMarchHares$Down;" : Cond) ∈ wsX1_allDebts := qDa 322 (by decide +kernel)
theorem qacD : (.fieldLink RX1 32 "MarchHares$Down" "hares" "I" : Cond) ∈ wsX1_allDebts := qDa 324 (by decide +kernel)
set_option maxHeartbeats 4000000 in
set_option maxRecDepth 100000 in
theorem qapG {p : Program} {l : Launch} {e : Env} {s : State} {m : MethodId} {args : Array Value} {below : List Frame} {meth : Method} {c : Code} {A : Nat → Prop} (dC : Nat → ClassId) (dI : Nat → Nat → Nat) (cyB cyI cyJ cyP : ClassId) (a0 jfB jch : Nat) (jcD jhx jhr jhs jgk jgl jgm jgz jfV jgn jgO jfW jiB : Value) (jc6 : Int32) (jdE : NI) (Q : Int32 → Prop) (C0 : cfx p s m args meth c cX1_allDebts (some .int) wsX1_allDebts RX1 3 A (dC, dI) (kT cyB cyI cyJ cyP)) : ∀ (n : Nat) (H : Heap) (locs : List Loc) (ls : Array Slot) (l1 l2 : Int32), va_P (dC, dI) vwCl (qpU a0 jch jcD jfB jhx jfB jhr jhs jgk jgl jgm jgz jfV jgn jgO jc6 jfW jiB jch cyI jdE) H → va_D A (qpU a0 jch jcD jfB jhx jfB jhr jhs jgk jgl jgm jgz jfV jgn jgO jc6 jfW jiB jch cyI jdE) → va_S A s.heap H locs → lv_has ls 3 [(0, .ref a0), (1, .int l1), (2, .int l2)] → qEU jc6 jdE Q n l1 l2 → W p l e (headSpec wsX1_allDebts ({ frames := 2, cells := 0, slots := 0, locals := 45 })).room s m args below meth c H locs 0 0 (MQ below (va_Qi (fun (r : Int32) (_ : Unit) => Q r ) (cB (dC, dI) (kT cyB cyI cyJ cyP) A (fun u : Unit => ((qpU a0 jch jcD jfB jhx jfB jhr jhs jgk jgl jgm jgz jfV jgn jgO jc6 jfW jiB jch cyI jdE) : va_W))) A) args s 0 0 A) (F0 m 4 ls []) := by
  obtain ⟨hx, hb, hr, hts, hown, hlocks, hml, hA, hK, hNw⟩ := id C0
  intro n
  induction n with
  | zero => intro H locs ls l1 l2 hP hD hS hl hw; exact False.elim hw
  | succ n ih =>
    intro H locs ls l1 l2 hP hD hS hl hw
    refine lv_iload_n hx hb (qaa qfZ 4 rfl) rfl (lv_at hl 2 rfl) ?_
    refine lv_aload_n hx hb (qaa qfZ 5 rfl) rfl (lv_at hl 0 rfl) ?_
    refine va_get (D := (dC, dI)) (ci := 1) (v := .ref jfB) (C := RX1) (T := TX1) (N := 4) hx hb hts qani hown hK hP 0 rfl rfl 2 (by decide) (hts _ qaf5) (fun _ h9 => h9) rfl (qaa qfZ 6 rfl) ?_
    refine va_get (D := (dC, dI)) (ci := 2) (v := .int jc6) (C := RX2) (T := TX2) (N := 12) hx hb hts qals hown hK hP 1 rfl rfl 9 (by decide) (hts _ qacD) (fun _ h9 => h9) rfl (qaa qfZ 7 rfl) ?_
    refine lv_icmp_ge (tgt := 29) hx hb (qaa qfZ 8 rfl) (by decide) (fun c1 => ?_) (fun c1 => ?_)
    · have hw := hw.1 c1
      refine lv_iload_n hx hb (qaa qJU 1 rfl) rfl (lv_at hl 1 rfl) ?_
      exact ((W.iret (v := l1) hx hb hr (fun t ht hW => ⟨⟨l1, (), rfl, hw, by rw [ht]; exact hP, va_K.moved hW.alike hK, hD⟩, hS.F ht⟩) hS.2.2 (qaa qJU 2 rfl)))
    · have hw := hw.2 c1
      refine lv_iload_n hx hb (qaa qfZ 9 rfl) rfl (lv_at hl 1 rfl) ?_
      refine lv_aload_n hx hb (qaa qfZ 10 rfl) rfl (lv_at hl 0 rfl) ?_
      refine lv_iload_n hx hb (qaa qfZ 11 rfl) rfl (lv_at hl 2 rfl) ?_
      obtain ⟨hCc, hPc, hDc, hFc⟩ := qac (ws' := (qpU a0 jch jcD jfB jhx jfB jhr jhs jgk jgl jgm jgz jfV jgn jgO jc6 jfW jiB jch cyI jdE)) hP hD hS hA [0, 1, 2] (by decide +kernel) rfl
      refine va_calli (va_runV (As := [.int l2]) (rest := [.int l1]) ⟨hx, hb, hml, hown, hts⟩ (qaiy l dC dI cyB cyI cyJ cyP a0 jfB jch H.size (jcD) (jhx) (jhr) (jhs) (jgk) (jgl) (jgm) (jgz) (jfV) (jgn) (jgO) (jfW) (jiB) jc6 jdE l2 hw) (cwV 1 hts gX1_allDebts_X1_owes rfl rfl rfl (by decide +kernel) ⟨nbq rfl, nbq rfl⟩) ⟨qab, va_recv (q := (RX1, TX1, 4)) hK hPc (ci := 1) (q0 := 0) rfl rfl, qae hPc hK hDc hNw⟩ rfl rfl hl.1 rfl (lv_room (nbq rfl)) (qaa qfZ 12 rfl) ⟨nbq rfl, nbq rfl⟩) hS (fun q _ h => hFc q h) hFc (fun r2 u t H1 locs ht hvm hw hB hz1 hk1 hS => ?_)
      obtain ⟨hP1, hK1, hD1⟩ := hB
      rw [ht] at hP1
      obtain ⟨hP, hD⟩ := qah (wr := []) (w1 := (qpU a0 jch jcD jfB jhx jfB jhr jhs jgk jgl jgm jgz jfV jgn jgO jc6 jfW jiB jch cyI jdE)) (wn := (qpU a0 jch jcD jfB jhx jfB jhr jhs jgk jgl jgm jgz jfV jgn jgO jc6 jfW jiB jch cyI jdE)) hP hD [0, 1, 2] [] hCc rfl (by decide +kernel) (by decide +kernel) rfl hk1 hFc hP1 hD1
      generalize H1 = H at hP hS ⊢
      refine lv_iadd hx hb (qaa qfZ 13 rfl) ?_
      refine lv_topi (fun x3 ex3 => ?_)
      have hw := hw x3 ex3
      refine lv_istore_n (lv' := [(1, .int x3), (0, .ref a0), (2, .int l2)]) hx hb (qaa qfZ 14 rfl) rfl hl (by decide) rfl (fun ls hl => ?_)
      obtain ⟨x4, ex4⟩ : ∃ y : Int32, y = l2 + 1 := ⟨_, rfl⟩
      have hw := hw x4 ex4
      refine lv_iinc (v := x4) (lv' := [(2, .int x4), (1, .int x3), (0, .ref a0)]) hx hb (qaa qfZ 15 rfl) hl (k := 2) rfl (by rw [ex4]; rfl) (by decide) rfl (fun ls hl => ?_)
      refine lv_goto (tgt := 4) hx hb (qaa qJU 0 rfl) (by decide) ?_
      exact ih _ _ _ x3 x4 hP hD hS (lv_sub hl [2, 1, 0] rfl) hw
set_option maxHeartbeats 4000000 in
set_option maxRecDepth 100000 in
theorem q8c (l : Launch) (dC : Nat → ClassId) (dI : Nat → Nat → Nat) (cyB cyI cyJ cyP : ClassId) (a0 jfB jch sz : Nat) (jcD jhx jhr jhs jgk jgl jgm jgz jfV jgn jgO jfW jiB : Value) (jc6 : Int32) (jdE : NI) {Q : Int32 → Prop} (hw : qKB jc6 jdE Q) : Met l yX1_allDebts wsX1_allDebts ({ frames := 2, cells := 0, slots := 0, locals := 45 }) (va_Pc [.ref a0] (cPc (dC, dI) (kT cyB cyI cyJ cyP) (qpU a0 jch jcD jfB jhx jfB jhr jhs jgk jgl jgm jgz jfV jgn jgO jc6 jfW jiB jch cyI jdE) sz)) (va_Qi (fun (r : Int32) (_ : Unit) => Q r ) (cB (dC, dI) (kT cyB cyI cyJ cyP) (va_A (qpU a0 jch jcD jfB jhx jfB jhr jhs jgk jgl jgm jgz jfV jgn jgO jc6 jfW jiB jch cyI jdE) sz) (fun u : Unit => ((qpU a0 jch jcD jfB jhx jfB jhr jhs jgk jgl jgm jgz jfV jgn jgO jc6 jfW jiB jch cyI jdE) : va_W))) (va_A (qpU a0 jch jcD jfB jhx jfB jhr jhs jgk jgl jgm jgz jfV jgn jgO jc6 jfW jiB jch cyI jdE) sz)) 0 0 (va_A (qpU a0 jch jcD jfB jhx jfB jhr jhs jgk jgl jgm jgz jfV jgn jgO jc6 jfW jiB jch cyI jdE) sz) := by
  refine Met.ofW (cc := cX1_allDebts) (maxL := 3) (ret := (some .int)) (by decide) rfl ?_
  intro p e s m args below meth c s₁ B hml hv
  obtain ⟨rfl, hsz, hP, hK, hD0, hNw⟩ := hv
  have hx := B.exec
  have hb := B.bytes
  have hr := B.returns
  have hts := atoms_spec (ws := wsX1_allDebts) B.pre
  have hown : s.vm.findClass RX1 = some m.cls := findClass_of_methodNamed B.named
  have hlocks := B.notSynchronized
  subst hsz
  have hD := hD0.self (sz := s.heap.size)
  generalize hAe : va_A (qpU a0 jch jcD jfB jhx jfB jhr jhs jgk jgl jgm jgz jfV jgn jgO jc6 jfW jiB jch cyI jdE) s.heap.size = A at hD ⊢
  have hA : ∀ q : Nat, s.heap.size ≤ q → A q := fun q h => by rw [← hAe]; exact Or.inr h
  have hS : va_S A s.heap s.heap [] := va_S.rf
  have hP : va_P (dC, dI) vwCl (qpU a0 jch jcD jfB jhx jfB jhr jhs jgk jgl jgm jgz jfV jgn jgO jc6 jfW jiB jch cyI jdE) s.heap := hP
  have hl := lv_entry ([.ref a0]) (n := 3) (nbq rfl)
  rw [lg_entry_eq]
  generalize (lg_sl ([.ref a0]) ++ List.replicate (3 - (lg_sl ([.ref a0])).length) Slot.unset).toArray = ls at hl ⊢
  have hl : lv_has ls 3 [(0, .ref a0)] := hl
  have C0 : cfx p s m _ meth c cX1_allDebts (some .int) wsX1_allDebts RX1 3 A (dC, dI) (kT cyB cyI cyJ cyP) := ⟨hx, hb, hr, hts, hown, hlocks, hml, hA, hK, hNw⟩
  clear hAe
  obtain ⟨H, hH⟩ : ∃ H, H = s.heap := ⟨_, rfl⟩
  rw [← hH] at hP ⊢
  have hS : va_S A s.heap H [] := by rw [hH]; exact va_S.rf
  have hS := hS
  refine lv_iconst (v := 0) hx hb (qaa qfZ 0 rfl) (by decide) ?_
  refine lv_istore_n (lv' := [(1, .int 0), (0, .ref a0)]) hx hb (qaa qfZ 1 rfl) rfl hl (by decide) rfl (fun ls hl => ?_)
  refine lv_iconst (v := 0) hx hb (qaa qfZ 2 rfl) (by decide) ?_
  refine lv_istore_n (lv' := [(2, .int 0), (1, .int 0), (0, .ref a0)]) hx hb (qaa qfZ 3 rfl) rfl hl (by decide) rfl (fun ls hl => ?_)
  obtain ⟨n9, hw⟩ := hw
  exact qapG dC dI cyB cyI cyJ cyP a0 jfB jch jcD jhx jhr jhs jgk jgl jgm jgz jfV jgn jgO jfW jiB jc6 jdE Q C0 n9 _ _ _ 0 0 hP hD hS (lv_sub hl [2, 1, 0] rfl) hw
theorem qan9 {x k : Int32} {n : Int} (h : ¬ x = k) (e : k.toInt = n) : ¬ n = x.toInt := fun q => h (Int32.toInt_inj.mp (q.symm.trans e.symm))
theorem qwq : ∀ w ∈ u_ws RX10 TX10 19, w ∈ wsX10_ahead := uiM qq6 qyN (by decide +kernel)
theorem qatP : (.fieldLink RX10 58 "MarchHares" "now" "LMarchHares$Days;" : Cond) ∈ wsX10_ahead := qq6 79 (by decide +kernel)
theorem qAb : (.fieldLink RX10 62 "MarchHares" "trial" "LMarchHares$Days;" : Cond) ∈ wsX10_ahead := qq6 80 (by decide +kernel)
set_option maxHeartbeats 4000000 in
set_option maxRecDepth 100000 in
theorem qaCH {p : Program} {l : Launch} {e : Env} {s : State} {m : MethodId} {args : Array Value} {below : List Frame} {meth : Method} {c : Code} {A : Nat → Prop} (dC : Nat → ClassId) (dI : Nat → Nat → Nat) (cyB cyI cyJ cyP : ClassId) (a0 jh8 jaT jbb jhy jaR jb6 jcG : Nat) (jaK jfS ja1 jcp jbc jbV ja3 jbH jaq jac jbI jbl jbn jba jaa jbA jiK jbr jcB jcC jbo jbp jbk jbf jbq jef jbi : Value) (jbQ : NI) (jbm jdB : Int32) (jfT : NI) (E : String → Int32 → NI → Value → Value → Prop) (Q : Int32 → Int32 → NI → Value → Value → Prop) (C0 : cfx p s m args meth c cX10_ahead (some .int) wsX10_ahead RX10 4 A (dC, dI) (kT cyB cyI cyJ cyP) ∧ cfX l s c A) : ∀ (n : Nat) (H : Heap) (locs : List Loc) (ls : Array Slot) (jbz : Int32) (jjV : NI) (jkp jkP : Value) (l1 l2 l3 : Int32), va_P (dC, dI) vwCl (q9l a0 jaK jfS ja1 jcp jbc jbV ja3 jbH jaT jh8 jaq jac jbI jbl jbn jba jaa jbA jbz jh8 jhy jiK jaR jb6 jaT jbb jbr jaR jb6 jbb cyI jbQ jhy cyI jjV jaR jcB jcC jbo jbp jbk jcG jbf jbq jef jbm jbi jdB jcG cyI jfT) H → va_D A (q9l a0 jaK jfS ja1 jcp jbc jbV ja3 jbH jaT jh8 jaq jac jbI jbl jbn jba jaa jbA jbz jh8 jhy jiK jaR jb6 jaT jbb jbr jaR jb6 jbb cyI jbQ jhy cyI jjV jaR jcB jcC jbo jbp jbk jcG jbf jbq jef jbm jbi jdB jcG cyI jfT) → va_S A s.heap H locs → lv_has ls 4 [(0, .ref a0), (1, .int l1), (2, .int l2), (3, .int l3)] → qHB jaR jb6 jbQ jbm jdB jfT E Q n jbz jjV jkp jkP l1 l2 l3 → W p l e (headSpec wsX10_ahead ({ frames := 8, cells := 2, slots := 12, locals := 164 })).room s m args below meth c H locs 2 12 (vx_MQ below (va_Qi (fun (r : Int32) (u : Int32 × NI × Value × Value) => Q r u.1 u.2.1 u.2.2.1 u.2.2.2) (cB (dC, dI) (kT cyB cyI cyJ cyP) A (fun u : Int32 × NI × Value × Value => ((qDF a0 jaK jfS ja1 jcp jbc jbV ja3 jbH jaT jh8 jaq jac jbI jbl jbn jba jaa jbA u.1 jh8 jhy jiK u.2.2.1 u.2.2.2 jaT jbb jbr jaR jb6 jbb cyI jbQ jhy cyI u.2.1 jaR jcB jcC jbo jbp jbk jcG jbf jbq jef jbm jbi jdB jcG cyI jfT) : va_W))) A) (vx_X (fun _ => True) (fun (en : String) (u : Int32 × NI × Value × Value) (t : State) => E en u.1 u.2.1 u.2.2.1 u.2.2.2 ∧ cB (dC, dI) (kT cyB cyI cyJ cyP) A (fun u : Int32 × NI × Value × Value => ((qDF a0 jaK jfS ja1 jcp jbc jbV ja3 jbH jaT jh8 jaq jac jbI jbl jbn jba jaa jbA u.1 jh8 jhy jiK u.2.2.1 u.2.2.2 jaT jbb jbr jaR jb6 jbb cyI jbQ jhy cyI u.2.1 jaR jcB jcC jbo jbp jbk jcG jbf jbq jef jbm jbi jdB jcG cyI jfT) : va_W)) u t) A) args s 2 12 A) (F0 m 28 ls []) := by
  obtain ⟨⟨hx, hb, hr, hts, hown, hlocks, hml, hA, hK, hNw⟩, hXs⟩ := id C0
  have hY := hXs.2
  intro n
  induction n with
  | zero => intro H locs ls jbz jjV jkp jkP l1 l2 l3 hP hD hS hl hw; exact False.elim hw
  | succ n ih =>
    intro H locs ls jbz jjV jkp jkP l1 l2 l3 hP hD hS hl hw
    refine lv_iload_n hx hb (qaa qqC 1 rfl) rfl (lv_at hl 3 rfl) ?_
    refine lv_iload_n hx hb (qaa qqC 2 rfl) rfl (lv_at hl 1 rfl) ?_
    refine lv_icmp_ge (tgt := 46) hx hb (qaa qqC 3 rfl) (by decide) (fun c4 => ?_) (fun c4 => ?_)
    · have hw := hw.1 c4
      refine lv_iload_n hx hb (qaa qqC 9 rfl) rfl (lv_at hl 2 rfl) ?_
      by_cases c5 : l2 = 0
      · have hw := hw.1 c5
        refine lv_lookup (tgt := 72) (off := 25) hx hb dX10_ahead_47 (by decide) (by rw [c5]; decide) (by decide) ?_
        refine lv_aload_n hx hb (qaa qn8 0 rfl) rfl (lv_at hl 0 rfl) ?_
        refine va_get (D := (dC, dI)) (ci := 10) (v := .ref jh8) (C := RX10) (T := TX10) (N := 19) hx hb hts qwq hown hK hP 0 rfl rfl 9 (by decide) (hts _ qAb) (fun _ h9 => h9) rfl (qaa qn8 1 rfl) ?_
        obtain ⟨hCc, hPc, hDc, hFc⟩ := qac (ws' := (qaPg jh8 jhy jiK jaR jb6 jhy cyI jjV)) hP hD hS hA [1, 4] (by decide +kernel) rfl
        refine va_calli (va_runV (As := []) (rest := []) ⟨hx, hb, hml, hown, hts⟩ (qag9 l dC dI cyB cyI cyJ cyP jh8 jhy H.size (jiK) (.ref jaR) (.ref jb6) jjV hw) (cwV 0 hts gX10_ahead_X1_day rfl rfl rfl (by decide +kernel) ⟨nbq rfl, nbq rfl⟩) ⟨qab, va_recv (q := (RX1, TX1, 4)) hK hPc (ci := 1) (q0 := 0) rfl rfl, qae hPc hK hDc hNw⟩ rfl rfl hl.1 rfl (lv_room (nbq rfl)) (qaa qn8 2 rfl) ⟨nbq rfl, nbq rfl⟩) hS (fun q _ h => hFc q h) hFc (fun r6 u t H1 locs ht hvm hw hB hz1 hk1 hS => ?_)
        obtain ⟨hP1, hK1, hD1⟩ := hB
        rw [ht] at hP1
        obtain ⟨hP, hD⟩ := qad (wr := (qa9P a0 jaK jfS ja1 jcp jbc jbV ja3 jbH jaT jh8 jaq jac jbI jbl jbn jba jaa jbA jbz jaT jbb jbr jaR jb6 jbb cyI jbQ jaR jcB jcC jbo jbp jbk jcG jbf jbq jef jbm jbi jdB jcG cyI jfT)) (w1 := (qaPg jh8 jhy jiK jaR jb6 jhy cyI jjV)) (wn := (q9l a0 jaK jfS ja1 jcp jbc jbV ja3 jbH jaT jh8 jaq jac jbI jbl jbn jba jaa jbA jbz jh8 jhy jiK jaR jb6 jaT jbb jbr jaR jb6 jbb cyI jbQ jhy cyI jjV jaR jcB jcC jbo jbp jbk jcG jbf jbq jef jbm jbi jdB jcG cyI jfT)) hP hD [1, 4] [0, 2, 3, 5, 6] [0, 5, 1, 2, 6, 3, 4] hCc rfl (by decide +kernel) (by decide +kernel) (by decide +kernel) rfl hk1 hFc hP1 hD1
        generalize H1 = H at hP hS ⊢
        exact vx_ret (W.widen (k := 2) (n := 12) (nbq rfl) (nbq rfl) (W.iret (v := r6) hx hb hr (fun t ht hW => ⟨⟨r6, (jbz, jjV, (.ref jaR), (.ref jb6)), rfl, hw, by rw [ht]; exact hP, va_K.moved hW.alike hK, hD⟩, hS.F ht⟩) hS.2.2 (qaa qn8 3 rfl)))
      have hw := hw.2 c5
      by_cases c7 : l2 = 1
      · have hw := hw.1 c7
        refine lv_lookup (tgt := 80) (off := 33) hx hb dX10_ahead_47 (by decide) (by rw [c7]; decide) (by decide) ?_
        refine lv_aload_n hx hb (qaa qn8 4 rfl) rfl (lv_at hl 0 rfl) ?_
        refine va_get (D := (dC, dI)) (ci := 10) (v := .ref jh8) (C := RX10) (T := TX10) (N := 19) hx hb hts qwq hown hK hP 0 rfl rfl 9 (by decide) (hts _ qAb) (fun _ h9 => h9) rfl (qaa qn8 5 rfl) ?_
        obtain ⟨hCc, hPc, hDc, hFc⟩ := qac (ws' := (qaPg jh8 jhy jiK jaR jb6 jhy cyI jjV)) hP hD hS hA [1, 4] (by decide +kernel) rfl
        refine va_calli (va_runV (As := []) (rest := []) ⟨hx, hb, hml, hown, hts⟩ (qLZ l dC dI cyB cyI cyJ cyP jh8 jhy H.size (jiK) (.ref jaR) (.ref jb6) jjV hw) (cwV 0 hts gX10_ahead_X1_caughtOnes rfl rfl rfl (by decide +kernel) ⟨nbq rfl, nbq rfl⟩) ⟨qab, va_recv (q := (RX1, TX1, 4)) hK hPc (ci := 1) (q0 := 0) rfl rfl, qae hPc hK hDc hNw⟩ rfl rfl hl.1 rfl (lv_room (nbq rfl)) (qaa qn8 6 rfl) ⟨nbq rfl, nbq rfl⟩) hS (fun q _ h => hFc q h) hFc (fun r8 u t H1 locs ht hvm hw hB hz1 hk1 hS => ?_)
        obtain ⟨hP1, hK1, hD1⟩ := hB
        rw [ht] at hP1
        obtain ⟨hP, hD⟩ := qad (wr := (qa9P a0 jaK jfS ja1 jcp jbc jbV ja3 jbH jaT jh8 jaq jac jbI jbl jbn jba jaa jbA jbz jaT jbb jbr jaR jb6 jbb cyI jbQ jaR jcB jcC jbo jbp jbk jcG jbf jbq jef jbm jbi jdB jcG cyI jfT)) (w1 := (qaPg jh8 jhy jiK jaR jb6 jhy cyI jjV)) (wn := (q9l a0 jaK jfS ja1 jcp jbc jbV ja3 jbH jaT jh8 jaq jac jbI jbl jbn jba jaa jbA jbz jh8 jhy jiK jaR jb6 jaT jbb jbr jaR jb6 jbb cyI jbQ jhy cyI jjV jaR jcB jcC jbo jbp jbk jcG jbf jbq jef jbm jbi jdB jcG cyI jfT)) hP hD [1, 4] [0, 2, 3, 5, 6] [0, 5, 1, 2, 6, 3, 4] hCc rfl (by decide +kernel) (by decide +kernel) (by decide +kernel) rfl hk1 hFc hP1 hD1
        generalize H1 = H at hP hS ⊢
        exact vx_ret (W.widen (k := 2) (n := 12) (nbq rfl) (nbq rfl) (W.iret (v := r8) hx hb hr (fun t ht hW => ⟨⟨r8, (jbz, jjV, (.ref jaR), (.ref jb6)), rfl, hw, by rw [ht]; exact hP, va_K.moved hW.alike hK, hD⟩, hS.F ht⟩) hS.2.2 (qaa qn8 7 rfl)))
      have hw := hw.2 c7
      refine lv_lookup (tgt := 88) (off := 41) hx hb dX10_ahead_47 (by decide) (by have nc5 := qan9 (n := 0) c5 rfl; have nc7 := qan9 (n := 1) c7 rfl; simp [Op.lookupswitch.offset, nc5, nc7]) (by decide) ?_
      refine lv_aload_n hx hb (qaa qn8 8 rfl) rfl (lv_at hl 0 rfl) ?_
      refine va_get (D := (dC, dI)) (ci := 10) (v := .ref jh8) (C := RX10) (T := TX10) (N := 19) hx hb hts qwq hown hK hP 0 rfl rfl 9 (by decide) (hts _ qAb) (fun _ h9 => h9) rfl (qaa qn8 9 rfl) ?_
      obtain ⟨hCc, hPc, hDc, hFc⟩ := qac (ws' := (qa7M jh8 jhy jiK jaR jb6 jaR jcB jcC jbo jbp jbk jcG jbf jbq jef jbm jbi jdB jhy cyI jjV)) hP hD hS hA [1, 5, 4] (by decide +kernel) rfl
      refine va_calli (va_runV (As := []) (rest := []) ⟨hx, hb, hml, hown, hts⟩ (q8c l dC dI cyB cyI cyJ cyP jh8 jaR jhy H.size (jiK) (.ref jb6) (jcB) (jcC) (jbo) (jbp) (jbk) (.ref jcG) (jbf) (jbq) (jef) (jbi) (.int jdB) jbm jjV hw) (cwV 0 hts gX10_ahead_X1_allDebts rfl rfl rfl (by decide +kernel) ⟨nbq rfl, nbq rfl⟩) ⟨qab, va_recv (q := (RX1, TX1, 4)) hK hPc (ci := 1) (q0 := 0) rfl rfl, qae hPc hK hDc hNw⟩ rfl rfl hl.1 rfl (lv_room (nbq rfl)) (qaa qn8 10 rfl) ⟨nbq rfl, nbq rfl⟩) hS (fun q _ h => hFc q h) hFc (fun r9 u t H1 locs ht hvm hw hB hz1 hk1 hS => ?_)
      obtain ⟨hP1, hK1, hD1⟩ := hB
      rw [ht] at hP1
      obtain ⟨hP, hD⟩ := qad (wr := [(a0, .inr (10, [jaK, jfS, ja1, jcp, jbc, jbV, ja3, jbH, .ref jaT, .ref jh8, jaq, jac, jbI, jbl, jbn, jba, jaa, jbA, .int jbz])), (jaT, .inr (1, [.ref jbb, jbr, .ref jaR, .ref jb6])), (jbb, .inl (cyI, 64, .inl jbQ)), (jcG, .inl (cyI, 6, .inl jfT))]) (w1 := (qa7M jh8 jhy jiK jaR jb6 jaR jcB jcC jbo jbp jbk jcG jbf jbq jef jbm jbi jdB jhy cyI jjV)) (wn := (q9l a0 jaK jfS ja1 jcp jbc jbV ja3 jbH jaT jh8 jaq jac jbI jbl jbn jba jaa jbA jbz jh8 jhy jiK jaR jb6 jaT jbb jbr jaR jb6 jbb cyI jbQ jhy cyI jjV jaR jcB jcC jbo jbp jbk jcG jbf jbq jef jbm jbi jdB jcG cyI jfT)) hP hD [1, 5, 4] [0, 2, 3, 6] [0, 4, 1, 2, 6, 5, 3] hCc rfl (by decide +kernel) (by decide +kernel) (by decide +kernel) rfl hk1 hFc hP1 hD1
      generalize H1 = H at hP hS ⊢
      exact vx_ret (W.widen (k := 2) (n := 12) (nbq rfl) (nbq rfl) (W.iret (v := r9) hx hb hr (fun t ht hW => ⟨⟨r9, (jbz, jjV, (.ref jaR), (.ref jb6)), rfl, hw, by rw [ht]; exact hP, va_K.moved hW.alike hK, hD⟩, hS.F ht⟩) hS.2.2 (qaa qn8 11 rfl)))
    · have hw := hw.2 c4
      refine lv_aload_n hx hb (qaa qqC 4 rfl) rfl (lv_at hl 0 rfl) ?_
      refine va_get (D := (dC, dI)) (ci := 10) (v := .ref jh8) (C := RX10) (T := TX10) (N := 19) hx hb hts qwq hown hK hP 0 rfl rfl 9 (by decide) (hts _ qAb) (fun _ h9 => h9) rfl (qaa qqC 5 rfl) ?_
      obtain ⟨hCc, hPc, hDc, hFc⟩ := qac (ws' := (qa5I jh8 jhy jiK jaR jb6 jaR jcB jcC jbo jbp jbk jcG jbf jbq jef jbm jbi jdB jhy cyI jjV jcG cyI jfT)) hP hD hS hA [1, 5, 4, 6] (by decide +kernel) rfl
      refine va_callv (va_runV (As := []) (rest := []) ⟨hx, hb, hml, hown, hts⟩ (qXA l dC dI cyB cyI cyJ cyP jh8 jaR jhy jcG H.size (jiK) (.ref jb6) (jcB) (jcC) (jbo) (jbp) (jbk) (jbf) (jbq) (jef) (jbi) jbm jdB jfT jjV hw) (cwV 0 hts gX10_ahead_X1_passDay rfl rfl rfl (by decide +kernel) ⟨nbq rfl, nbq rfl⟩) ⟨qab, va_recv (q := (RX1, TX1, 4)) hK hPc (ci := 1) (q0 := 0) rfl rfl, qae hPc hK hDc hNw⟩ rfl rfl hl.1 rfl (lv_room (nbq rfl)) (qaa qqC 6 rfl) ⟨nbq rfl, nbq rfl⟩) hS (fun q _ h => hFc q h) hFc (fun u t H1 locs ht hvm hw hB hz1 hk1 hS => ?_)
      obtain ⟨f10, rfl⟩ : ∃ z, z = u := ⟨_, rfl⟩
      obtain ⟨hP1, hK1, hD1⟩ := hB
      rw [ht] at hP1
      obtain ⟨hP, hD⟩ := qad (wr := [(a0, .inr (10, [jaK, jfS, ja1, jcp, jbc, jbV, ja3, jbH, .ref jaT, .ref jh8, jaq, jac, jbI, jbl, jbn, jba, jaa, jbA, .int jbz])), (jaT, .inr (1, [.ref jbb, jbr, .ref jaR, .ref jb6])), (jbb, .inl (cyI, 64, .inl jbQ))]) (w1 := (qa5I jh8 jhy jiK jaR jb6 jaR jcB jcC jbo jbp jbk jcG jbf jbq jef jbm jbi jdB jhy cyI f10 jcG cyI jfT)) (wn := (q9l a0 jaK jfS ja1 jcp jbc jbV ja3 jbH jaT jh8 jaq jac jbI jbl jbn jba jaa jbA jbz jh8 jhy jiK jaR jb6 jaT jbb jbr jaR jb6 jbb cyI jbQ jhy cyI f10 jaR jcB jcC jbo jbp jbk jcG jbf jbq jef jbm jbi jdB jcG cyI jfT)) hP hD [1, 5, 4, 6] [0, 2, 3] [0, 3, 1, 2, 5, 4, 6] hCc rfl (by decide +kernel) (by decide +kernel) (by decide +kernel) rfl hk1 hFc hP1 hD1
      generalize H1 = H at hP hS ⊢
      obtain ⟨x11, ex11⟩ : ∃ y : Int32, y = l3 + 1 := ⟨_, rfl⟩
      have hw := hw x11 ex11
      refine lv_iinc (v := x11) (lv' := [(3, .int x11), (0, .ref a0), (1, .int l1), (2, .int l2)]) hx hb (qaa qqC 7 rfl) hl (k := 3) rfl (by rw [ex11]; rfl) (by decide) rfl (fun ls hl => ?_)
      refine lv_goto (tgt := 28) hx hb (qaa qqC 8 rfl) (by decide) ?_
      exact ih _ _ _ jbz f10 (.ref jaR) (.ref jb6) l1 l2 x11 hP hD hS (lv_sub hl [1, 2, 3, 0] rfl) hw
set_option maxHeartbeats 4000000 in
set_option maxRecDepth 100000 in
theorem qaUC (l : Launch) (dC : Nat → ClassId) (dI : Nat → Nat → Nat) (cyB cyI cyJ cyP : ClassId) (a0 jh8 jaT jbb jhy jaR jb6 jcG sz : Nat) (jaK jfS ja1 jcp jbc jbV ja3 jbH jaq jac jbI jbl jbn jba jaa jbA jiK jbr jcB jcC jbo jbp jbk jbf jbq jef jbi : Value) (jbQ : NI) (jbm jdB : Int32) (jfT : NI) (jbz : Int32) (jjV : NI) (jkp jkP : Value) (p1 p2 : Int32) {E : String → Int32 → NI → Value → Value → Prop} {Q : Int32 → Int32 → NI → Value → Value → Prop} (hw : q0J jaR jb6 jbQ jbm jdB jfT jbz jjV jkp jkP p1 p2 E Q) : vx_Met l yX10_ahead wsX10_ahead ({ frames := 8, cells := 2, slots := 12, locals := 164 }) (va_Pc [.ref a0, .int p1, .int p2] (cPx l (dC, dI) (kT cyB cyI cyJ cyP) (qDF a0 jaK jfS ja1 jcp jbc jbV ja3 jbH jaT jh8 jaq jac jbI jbl jbn jba jaa jbA jbz jh8 jhy jiK jkp jkP jaT jbb jbr jaR jb6 jbb cyI jbQ jhy cyI jjV jaR jcB jcC jbo jbp jbk jcG jbf jbq jef jbm jbi jdB jcG cyI jfT) sz)) (va_Qi (fun (r : Int32) (u : Int32 × NI × Value × Value) => Q r u.1 u.2.1 u.2.2.1 u.2.2.2) (cB (dC, dI) (kT cyB cyI cyJ cyP) (va_A (qDF a0 jaK jfS ja1 jcp jbc jbV ja3 jbH jaT jh8 jaq jac jbI jbl jbn jba jaa jbA jbz jh8 jhy jiK jkp jkP jaT jbb jbr jaR jb6 jbb cyI jbQ jhy cyI jjV jaR jcB jcC jbo jbp jbk jcG jbf jbq jef jbm jbi jdB jcG cyI jfT) sz) (fun u : Int32 × NI × Value × Value => ((qDF a0 jaK jfS ja1 jcp jbc jbV ja3 jbH jaT jh8 jaq jac jbI jbl jbn jba jaa jbA u.1 jh8 jhy jiK u.2.2.1 u.2.2.2 jaT jbb jbr jaR jb6 jbb cyI jbQ jhy cyI u.2.1 jaR jcB jcC jbo jbp jbk jcG jbf jbq jef jbm jbi jdB jcG cyI jfT) : va_W))) (va_A (qDF a0 jaK jfS ja1 jcp jbc jbV ja3 jbH jaT jh8 jaq jac jbI jbl jbn jba jaa jbA jbz jh8 jhy jiK jkp jkP jaT jbb jbr jaR jb6 jbb cyI jbQ jhy cyI jjV jaR jcB jcC jbo jbp jbk jcG jbf jbq jef jbm jbi jdB jcG cyI jfT) sz)) (vx_X (fun _ => True) (fun (en : String) (u : Int32 × NI × Value × Value) (t : State) => E en u.1 u.2.1 u.2.2.1 u.2.2.2 ∧ cB (dC, dI) (kT cyB cyI cyJ cyP) (va_A (qDF a0 jaK jfS ja1 jcp jbc jbV ja3 jbH jaT jh8 jaq jac jbI jbl jbn jba jaa jbA jbz jh8 jhy jiK jkp jkP jaT jbb jbr jaR jb6 jbb cyI jbQ jhy cyI jjV jaR jcB jcC jbo jbp jbk jcG jbf jbq jef jbm jbi jdB jcG cyI jfT) sz) (fun u : Int32 × NI × Value × Value => ((qDF a0 jaK jfS ja1 jcp jbc jbV ja3 jbH jaT jh8 jaq jac jbI jbl jbn jba jaa jbA u.1 jh8 jhy jiK u.2.2.1 u.2.2.2 jaT jbb jbr jaR jb6 jbb cyI jbQ jhy cyI u.2.1 jaR jcB jcC jbo jbp jbk jcG jbf jbq jef jbm jbi jdB jcG cyI jfT) : va_W)) u t) (va_A (qDF a0 jaK jfS ja1 jcp jbc jbV ja3 jbH jaT jh8 jaq jac jbI jbl jbn jba jaa jbA jbz jh8 jhy jiK jkp jkP jaT jbb jbr jaR jb6 jbb cyI jbQ jhy cyI jjV jaR jcB jcC jbo jbp jbk jcG jbf jbq jef jbm jbi jdB jcG cyI jfT) sz)) 2 12 (va_A (qDF a0 jaK jfS ja1 jcp jbc jbV ja3 jbH jaT jh8 jaq jac jbI jbl jbn jba jaa jbA jbz jh8 jhy jiK jkp jkP jaT jbb jbr jaR jb6 jbb cyI jbQ jhy cyI jjV jaR jcB jcC jbo jbp jbk jcG jbf jbq jef jbm jbi jdB jcG cyI jfT) sz) := by
  refine vx_ofW (cc := cX10_ahead) (maxL := 4) (ret := (some .int)) (by decide) rfl ?_
  intro p e s m args below meth c s₁ B hml hnt hv
  obtain ⟨rfl, hsz, hP, hK, hD0, hNw, hXl, hXu, hXn, hXt⟩ := hv
  have hx := B.exec
  have hb := B.bytes
  have hr := B.returns
  have hts := atoms_spec (ws := wsX10_ahead) B.pre
  have hown : s.vm.findClass RX10 = some m.cls := findClass_of_methodNamed B.named
  have hlocks := B.notSynchronized
  subst hsz
  have hD := hD0.self (sz := s.heap.size)
  generalize hAe : va_A (qDF a0 jaK jfS ja1 jcp jbc jbV ja3 jbH jaT jh8 jaq jac jbI jbl jbn jba jaa jbA jbz jh8 jhy jiK jkp jkP jaT jbb jbr jaR jb6 jbb cyI jbQ jhy cyI jjV jaR jcB jcC jbo jbp jbk jcG jbf jbq jef jbm jbi jdB jcG cyI jfT) s.heap.size = A at hD hXu hXn ⊢
  have hA : ∀ q : Nat, s.heap.size ≤ q → A q := fun q h => by rw [← hAe]; exact Or.inr h
  have hS : va_S A s.heap s.heap [] := va_S.rf
  have hP : va_P (dC, dI) vwCl (qDF a0 jaK jfS ja1 jcp jbc jbV ja3 jbH jaT jh8 jaq jac jbI jbl jbn jba jaa jbA jbz jh8 jhy jiK jkp jkP jaT jbb jbr jaR jb6 jbb cyI jbQ jhy cyI jjV jaR jcB jcC jbo jbp jbk jcG jbf jbq jef jbm jbi jdB jcG cyI jfT) s.heap := hP
  have hl := lv_entry ([.ref a0, .int p1, .int p2]) (n := 4) (nbq rfl)
  rw [lg_entry_eq]
  generalize (lg_sl ([.ref a0, .int p1, .int p2]) ++ List.replicate (4 - (lg_sl ([.ref a0, .int p1, .int p2])).length) Slot.unset).toArray = ls at hl ⊢
  have hl : lv_has ls 4 [(0, .ref a0), (1, .int p1), (2, .int p2)] := hl
  have hY : cfY l s A := ⟨hXl, hXu, hXn, hXt⟩
  have hXs : cfX l s c A := ⟨hnt, hY⟩
  have C0 : cfx p s m _ meth c cX10_ahead (some .int) wsX10_ahead RX10 4 A (dC, dI) (kT cyB cyI cyJ cyP) ∧ cfX l s c A := ⟨⟨hx, hb, hr, hts, hown, hlocks, hml, hA, hK, hNw⟩, hXs⟩
  clear hAe
  obtain ⟨H, hH⟩ : ∃ H, H = s.heap := ⟨_, rfl⟩
  rw [← hH] at hP ⊢
  have hS : va_S A s.heap H [] := by rw [hH]; exact va_S.rf
  have hS := hS
  refine lv_aload_n hx hb (qaa qiH 0 rfl) rfl (lv_at hl 0 rfl) ?_
  refine lv_iload_n hx hb (qaa qiH 1 rfl) rfl (lv_at hl 1 rfl) ?_
  refine lv_iconst (v := 0) hx hb (qaa qiH 2 rfl) (by decide) ?_
  refine lv_bipush (v := 99) hx hb (qaa qiH 3 rfl) (by decide) ?_
  obtain ⟨hCc, hPc, hDc, hFc⟩ := qac (ws' := (qalW a0 jaK jfS ja1 jcp jbc jbV ja3 jbH jaT jh8 jaq jac jbI jbl jbn jba jaa jbA jbz)) hP hD hS hA [0] (by decide +kernel) rfl
  refine vx_callv (vx_runV (As := [.int p1, .int 0, .int 99]) (rest := []) ⟨hx, hb, hml, hown, hts⟩ (qaV l dC dI cyB cyI cyJ cyP a0 H.size (jaK) (jfS) (ja1) (jcp) (jbc) (jbV) (ja3) (jbH) (.ref jaT) (.ref jh8) (jaq) (jac) (jbI) (jbl) (jbn) (jba) (jaa) (jbA) jbz p1 0 99 hw) (cwV 3 hts gX10_ahead_X10_needWithin rfl rfl rfl (by decide +kernel) ⟨nbq rfl, nbq rfl⟩) ⟨qav, va_recv (q := (RX10, TX10, 19)) hK hPc (ci := 10) (q0 := 0) rfl rfl, qbl hPc hK hDc hNw hY hS hFc⟩ rfl rfl hl.1 rfl (lv_room (nbq rfl)) (qaa qiH 4 rfl) ⟨nbq rfl, nbq rfl⟩) hS (fun q _ h => hFc q h) hFc (fun q _ h => hFc q h) (fun en ce q9 u t H1 locs ht hvm hpx hB hz1 hk1 hS hc9 hv9 hcl9 => ?_) (fun u t H1 locs ht hvm hw hB hz1 hk1 hS => ?_)
  · obtain ⟨x1, rfl⟩ : ∃ z, z = u := ⟨_, rfl⟩
    obtain ⟨hw, hP1, hK1, hD1⟩ := hB
    rw [ht] at hP1
    obtain ⟨hP, hD⟩ := qad (wr := (qaMV jh8 jhy jiK jkp jkP jaT jbb jbr jaR jb6 jbb cyI jbQ jhy cyI jjV jaR jcB jcC jbo jbp jbk jcG jbf jbq jef jbm jbi jdB jcG cyI jfT)) (w1 := (qalW a0 jaK jfS ja1 jcp jbc jbV ja3 jbH jaT jh8 jaq jac jbI jbl jbn jba jaa jbA x1)) (wn := (qDF a0 jaK jfS ja1 jcp jbc jbV ja3 jbH jaT jh8 jaq jac jbI jbl jbn jba jaa jbA x1 jh8 jhy jiK jkp jkP jaT jbb jbr jaR jb6 jbb cyI jbQ jhy cyI jjV jaR jcB jcC jbo jbp jbk jcG jbf jbq jef jbm jbi jdB jcG cyI jfT)) hP hD [0] [1, 2, 3, 4, 5, 6] [6, 0, 1, 2, 3, 4, 5] hCc rfl (by decide +kernel) (by decide +kernel) (by decide +kernel) rfl hk1 hFc hP1 hD1
    generalize H1 = H at hP hS hc9 ⊢
    exact vx_out (fun x hx9 => (hXs.1 x hx9).elim) hlocks hc9 hv9 hcl9 (fun t2 ht2 hal2 => ⟨(x1, jjV, jkp, jkP), trivial, ⟨hw, by rw [ht2]; exact hP, va_K.moved hal2 hK, hD⟩, hS.F ht2⟩) hS.2.2 (nbq rfl) (nbq rfl)
  obtain ⟨x1, rfl⟩ : ∃ z, z = u := ⟨_, rfl⟩
  obtain ⟨hP1, hK1, hD1⟩ := hB
  rw [ht] at hP1
  obtain ⟨hP, hD⟩ := qad (wr := (qaMV jh8 jhy jiK jkp jkP jaT jbb jbr jaR jb6 jbb cyI jbQ jhy cyI jjV jaR jcB jcC jbo jbp jbk jcG jbf jbq jef jbm jbi jdB jcG cyI jfT)) (w1 := (qalW a0 jaK jfS ja1 jcp jbc jbV ja3 jbH jaT jh8 jaq jac jbI jbl jbn jba jaa jbA x1)) (wn := (qDF a0 jaK jfS ja1 jcp jbc jbV ja3 jbH jaT jh8 jaq jac jbI jbl jbn jba jaa jbA x1 jh8 jhy jiK jkp jkP jaT jbb jbr jaR jb6 jbb cyI jbQ jhy cyI jjV jaR jcB jcC jbo jbp jbk jcG jbf jbq jef jbm jbi jdB jcG cyI jfT)) hP hD [0] [1, 2, 3, 4, 5, 6] [6, 0, 1, 2, 3, 4, 5] hCc rfl (by decide +kernel) (by decide +kernel) (by decide +kernel) rfl hk1 hFc hP1 hD1
  generalize H1 = H at hP hS ⊢
  refine lv_aload_n hx hb (qaa qiH 5 rfl) rfl (lv_at hl 0 rfl) ?_
  refine lv_iload_n hx hb (qaa qiH 6 rfl) rfl (lv_at hl 2 rfl) ?_
  refine lv_iconst (v := 0) hx hb (qaa qiH 7 rfl) (by decide) ?_
  refine lv_iconst (v := 2) hx hb (qaa qiH 8 rfl) (by decide) ?_
  obtain ⟨hCc, hPc, hDc, hFc⟩ := qac (ws' := (qalW a0 jaK jfS ja1 jcp jbc jbV ja3 jbH jaT jh8 jaq jac jbI jbl jbn jba jaa jbA x1)) hP hD hS hA [0] (by decide +kernel) rfl
  refine vx_callv (vx_runV (As := [.int p2, .int 0, .int 2]) (rest := []) ⟨hx, hb, hml, hown, hts⟩ (qaV l dC dI cyB cyI cyJ cyP a0 H.size (jaK) (jfS) (ja1) (jcp) (jbc) (jbV) (ja3) (jbH) (.ref jaT) (.ref jh8) (jaq) (jac) (jbI) (jbl) (jbn) (jba) (jaa) (jbA) x1 p2 0 2 hw) (cwV 3 hts gX10_ahead_X10_needWithin rfl rfl rfl (by decide +kernel) ⟨nbq rfl, nbq rfl⟩) ⟨qav, va_recv (q := (RX10, TX10, 19)) hK hPc (ci := 10) (q0 := 0) rfl rfl, qbl hPc hK hDc hNw hY hS hFc⟩ rfl rfl hl.1 rfl (lv_room (nbq rfl)) (qaa qiH 9 rfl) ⟨nbq rfl, nbq rfl⟩) hS (fun q _ h => hFc q h) hFc (fun q _ h => hFc q h) (fun en ce q9 u t H1 locs ht hvm hpx hB hz1 hk1 hS hc9 hv9 hcl9 => ?_) (fun u t H1 locs ht hvm hw hB hz1 hk1 hS => ?_)
  · obtain ⟨x2, rfl⟩ : ∃ z, z = u := ⟨_, rfl⟩
    obtain ⟨hw, hP1, hK1, hD1⟩ := hB
    rw [ht] at hP1
    obtain ⟨hP, hD⟩ := qad (wr := (qaMV jh8 jhy jiK jkp jkP jaT jbb jbr jaR jb6 jbb cyI jbQ jhy cyI jjV jaR jcB jcC jbo jbp jbk jcG jbf jbq jef jbm jbi jdB jcG cyI jfT)) (w1 := (qalW a0 jaK jfS ja1 jcp jbc jbV ja3 jbH jaT jh8 jaq jac jbI jbl jbn jba jaa jbA x2)) (wn := (qDF a0 jaK jfS ja1 jcp jbc jbV ja3 jbH jaT jh8 jaq jac jbI jbl jbn jba jaa jbA x2 jh8 jhy jiK jkp jkP jaT jbb jbr jaR jb6 jbb cyI jbQ jhy cyI jjV jaR jcB jcC jbo jbp jbk jcG jbf jbq jef jbm jbi jdB jcG cyI jfT)) hP hD [0] [1, 2, 3, 4, 5, 6] [6, 0, 1, 2, 3, 4, 5] hCc rfl (by decide +kernel) (by decide +kernel) (by decide +kernel) rfl hk1 hFc hP1 hD1
    generalize H1 = H at hP hS hc9 ⊢
    exact vx_out (fun x hx9 => (hXs.1 x hx9).elim) hlocks hc9 hv9 hcl9 (fun t2 ht2 hal2 => ⟨(x2, jjV, jkp, jkP), trivial, ⟨hw, by rw [ht2]; exact hP, va_K.moved hal2 hK, hD⟩, hS.F ht2⟩) hS.2.2 (nbq rfl) (nbq rfl)
  obtain ⟨x2, rfl⟩ : ∃ z, z = u := ⟨_, rfl⟩
  obtain ⟨hP1, hK1, hD1⟩ := hB
  rw [ht] at hP1
  obtain ⟨hP, hD⟩ := qad (wr := (qaMV jh8 jhy jiK jkp jkP jaT jbb jbr jaR jb6 jbb cyI jbQ jhy cyI jjV jaR jcB jcC jbo jbp jbk jcG jbf jbq jef jbm jbi jdB jcG cyI jfT)) (w1 := (qalW a0 jaK jfS ja1 jcp jbc jbV ja3 jbH jaT jh8 jaq jac jbI jbl jbn jba jaa jbA x2)) (wn := (qDF a0 jaK jfS ja1 jcp jbc jbV ja3 jbH jaT jh8 jaq jac jbI jbl jbn jba jaa jbA x2 jh8 jhy jiK jkp jkP jaT jbb jbr jaR jb6 jbb cyI jbQ jhy cyI jjV jaR jcB jcC jbo jbp jbk jcG jbf jbq jef jbm jbi jdB jcG cyI jfT)) hP hD [0] [1, 2, 3, 4, 5, 6] [6, 0, 1, 2, 3, 4, 5] hCc rfl (by decide +kernel) (by decide +kernel) (by decide +kernel) rfl hk1 hFc hP1 hD1
  generalize H1 = H at hP hS ⊢
  refine lv_aload_n hx hb (qaa qiH 10 rfl) rfl (lv_at hl 0 rfl) ?_
  refine va_get (D := (dC, dI)) (ci := 10) (v := .ref jh8) (C := RX10) (T := TX10) (N := 19) hx hb hts qwq hown hK hP 0 rfl rfl 9 (by decide) (hts _ qAb) (fun _ h9 => h9) rfl (qaa qiH 11 rfl) ?_
  refine lv_aload_n hx hb (qaa qiH 12 rfl) rfl (lv_at hl 0 rfl) ?_
  refine va_get (D := (dC, dI)) (ci := 10) (v := .ref jaT) (C := RX10) (T := TX10) (N := 19) hx hb hts qwq hown hK hP 0 rfl rfl 8 (by decide) (hts _ qatP) (fun _ h9 => h9) rfl (qaa qiH 13 rfl) ?_
  obtain ⟨hCc, hPc, hDc, hFc⟩ := qac (ws' := (qazl jh8 jhy jiK jkp jkP jaT jbb jbr jaR jb6 jbb cyI jbQ jhy cyI jjV)) hP hD hS hA [1, 2, 3, 4] (by decide +kernel) rfl
  refine va_callv (va_runV (As := [.ref jaT]) (rest := []) ⟨hx, hb, hml, hown, hts⟩ (qTZ l dC dI cyB cyI cyJ cyP jh8 jaT jaR jb6 jbb jhy H.size (jiK) (jkp) (jkP) (jbr) jbQ jjV hw) (cwV 1 hts gX10_ahead_X1_copyFrom rfl rfl rfl (by decide +kernel) ⟨nbq rfl, nbq rfl⟩) ⟨qab, va_recv (q := (RX1, TX1, 4)) hK hPc (ci := 1) (q0 := 0) rfl rfl, qae hPc hK hDc hNw⟩ rfl rfl hl.1 rfl (lv_room (nbq rfl)) (qaa qiH 14 rfl) ⟨nbq rfl, nbq rfl⟩) hS (fun q _ h => hFc q h) hFc (fun u t H1 locs ht hvm hw hB hz1 hk1 hS => ?_)
  obtain ⟨f3, rfl⟩ : ∃ z, z = u := ⟨_, rfl⟩
  obtain ⟨hP1, hK1, hD1⟩ := hB
  rw [ht] at hP1
  obtain ⟨hP, hD⟩ := qad (wr := [(a0, .inr (10, [jaK, jfS, ja1, jcp, jbc, jbV, ja3, jbH, .ref jaT, .ref jh8, jaq, jac, jbI, jbl, jbn, jba, jaa, jbA, .int x2])), (jaR, .inr (2, [jcB, jcC, jbo, jbp, jbk, .ref jcG, jbf, jbq, jef, .int jbm, jbi, .int jdB])), (jcG, .inl (cyI, 6, .inl jfT))]) (w1 := (qaLv jh8 jhy jiK jaR jb6 jaT jbb jbr jaR jb6 jbb cyI jbQ jhy cyI f3)) (wn := (q9l a0 jaK jfS ja1 jcp jbc jbV ja3 jbH jaT jh8 jaq jac jbI jbl jbn jba jaa jbA x2 jh8 jhy jiK jaR jb6 jaT jbb jbr jaR jb6 jbb cyI jbQ jhy cyI f3 jaR jcB jcC jbo jbp jbk jcG jbf jbq jef jbm jbi jdB jcG cyI jfT)) hP hD [1, 2, 3, 4] [0, 5, 6] [0, 3, 4, 5, 6, 1, 2] hCc rfl (by decide +kernel) (by decide +kernel) (by decide +kernel) rfl hk1 hFc hP1 hD1
  generalize H1 = H at hP hS ⊢
  refine lv_iconst (v := 0) hx hb (qaa qiH 15 rfl) (by decide) ?_
  refine lv_istore_n (lv' := [(3, .int 0), (0, .ref a0), (1, .int p1), (2, .int p2)]) hx hb (qaa qqC 0 rfl) rfl hl (by decide) rfl (fun ls hl => ?_)
  obtain ⟨n9, hw⟩ := hw
  exact qaCH dC dI cyB cyI cyJ cyP a0 jh8 jaT jbb jhy jaR jb6 jcG jaK jfS ja1 jcp jbc jbV ja3 jbH jaq jac jbI jbl jbn jba jaa jbA jiK jbr jcB jcC jbo jbp jbk jbf jbq jef jbi jbQ jbm jdB jfT E Q C0 n9 _ _ _ x2 f3 (.ref jaR) (.ref jb6) p1 p2 0 hP hD hS (lv_sub hl [1, 2, 3, 0] rfl) hw
theorem qaAv : (.classLink RL 13 "java/lang/IllegalArgumentException" : Cond) ∈ wsL_ahead := qafh 595 (by decide +kernel)
theorem qaRQ : (.codeWith yL_ahead cL_ahead 5 (some .int) [(0, 10, 13, 13)] : Cond) ∈ wsL_ahead := qafh 2956 (by decide +kernel)
set_option maxHeartbeats 4000000 in
set_option maxRecDepth 100000 in
theorem qa2g (l : Launch) (dC : Nat → ClassId) (dI : Nat → Nat → Nat) (cyB cyI cyJ cyP : ClassId) (a0 a3 jh8 jaT jbb jhy jaR jcG jb6 sz : Nat) (jaK ja1 jbc jbV ja3 jbH jaq jac jbI jbl jbn jba jaa jbA jiK jbr jcB jcC jbo jbp jbk jbf jbq jef jbi : Value) (n3 : Nat) (jbQ : NI) (jbm jdB : Int32) (jfT : NI) (jbz : Int32) (jjV : NI) (jkp jkP : Value) (f3 : Nat → Int64) (p1 p2 : Int32) {Q : Int32 → Int32 → NI → Value → Value → (Nat → Int64) → Prop} (hw : qaMd jaR jb6 n3 jbQ jbm jdB jfT jbz jjV jkp jkP f3 p1 p2 Q) : Met l yL_ahead wsL_ahead ({ frames := 9, cells := 2, slots := 12, locals := 187 }) (va_Pc [.ref a0, .int p1, .int p2, .ref a3] (cPx l (dC, dI) (kT cyB cyI cyJ cyP) (qMQ a0 jaK jaR ja1 jb6 jbc jbV ja3 jbH jaT jh8 jaq jac jbI jbl jbn jba jaa jbA jbz jh8 jhy jiK jkp jkP jaT jbb jbr jaR jb6 jbb cyI jbQ jhy cyI jjV jaR jcB jcC jbo jbp jbk jcG jbf jbq jef jbm jbi jdB jcG cyI jfT a3 cyJ n3 f3) sz)) (va_Qi (fun (r : Int32) (u : Int32 × NI × Value × Value × (Nat → Int64)) => Q r u.1 u.2.1 u.2.2.1 u.2.2.2.1 u.2.2.2.2) (cB (dC, dI) (kT cyB cyI cyJ cyP) (va_A (qMQ a0 jaK jaR ja1 jb6 jbc jbV ja3 jbH jaT jh8 jaq jac jbI jbl jbn jba jaa jbA jbz jh8 jhy jiK jkp jkP jaT jbb jbr jaR jb6 jbb cyI jbQ jhy cyI jjV jaR jcB jcC jbo jbp jbk jcG jbf jbq jef jbm jbi jdB jcG cyI jfT a3 cyJ n3 f3) sz) (fun u : Int32 × NI × Value × Value × (Nat → Int64) => ((qMQ a0 jaK jaR ja1 jb6 jbc jbV ja3 jbH jaT jh8 jaq jac jbI jbl jbn jba jaa jbA u.1 jh8 jhy jiK u.2.2.1 u.2.2.2.1 jaT jbb jbr jaR jb6 jbb cyI jbQ jhy cyI u.2.1 jaR jcB jcC jbo jbp jbk jcG jbf jbq jef jbm jbi jdB jcG cyI jfT a3 cyJ n3 u.2.2.2.2) : va_W))) (va_A (qMQ a0 jaK jaR ja1 jb6 jbc jbV ja3 jbH jaT jh8 jaq jac jbI jbl jbn jba jaa jbA jbz jh8 jhy jiK jkp jkP jaT jbb jbr jaR jb6 jbb cyI jbQ jhy cyI jjV jaR jcB jcC jbo jbp jbk jcG jbf jbq jef jbm jbi jdB jcG cyI jfT a3 cyJ n3 f3) sz)) 2 12 (va_A (qMQ a0 jaK jaR ja1 jb6 jbc jbV ja3 jbH jaT jh8 jaq jac jbI jbl jbn jba jaa jbA jbz jh8 jhy jiK jkp jkP jaT jbb jbr jaR jb6 jbb cyI jbQ jhy cyI jjV jaR jcB jcC jbo jbp jbk jcG jbf jbq jef jbm jbi jdB jcG cyI jfT a3 cyJ n3 f3) sz) := by
  refine va_MetW (cc := cL_ahead) (maxL := 5) (ret := (some .int)) (by decide) rfl ?_
  intro p e s m args below meth c s₁ B hml hv
  obtain ⟨rfl, hsz, hP, hK, hD0, hNw, hXl, hXu, hXn, hXt⟩ := hv
  have hx := B.exec
  have hb := B.bytes
  have hr := B.returns
  have hts := atoms_spec (ws := wsL_ahead) B.pre
  have hown : s.vm.findClass RL = some m.cls := findClass_of_methodNamed B.named
  have hlocks := B.notSynchronized
  subst hsz
  have hD := hD0.self (sz := s.heap.size)
  generalize hAe : va_A (qMQ a0 jaK jaR ja1 jb6 jbc jbV ja3 jbH jaT jh8 jaq jac jbI jbl jbn jba jaa jbA jbz jh8 jhy jiK jkp jkP jaT jbb jbr jaR jb6 jbb cyI jbQ jhy cyI jjV jaR jcB jcC jbo jbp jbk jcG jbf jbq jef jbm jbi jdB jcG cyI jfT a3 cyJ n3 f3) s.heap.size = A at hD hXu hXn ⊢
  have hA : ∀ q : Nat, s.heap.size ≤ q → A q := fun q h => by rw [← hAe]; exact Or.inr h
  have hS : va_S A s.heap s.heap [] := va_S.rf
  have hP : va_P (dC, dI) vwCl (qMQ a0 jaK jaR ja1 jb6 jbc jbV ja3 jbH jaT jh8 jaq jac jbI jbl jbn jba jaa jbA jbz jh8 jhy jiK jkp jkP jaT jbb jbr jaR jb6 jbb cyI jbQ jhy cyI jjV jaR jcB jcC jbo jbp jbk jcG jbf jbq jef jbm jbi jdB jcG cyI jfT a3 cyJ n3 f3) s.heap := hP
  have hl := lv_entry ([.ref a0, .int p1, .int p2, .ref a3]) (n := 5) (nbq rfl)
  rw [lg_entry_eq]
  generalize (lg_sl ([.ref a0, .int p1, .int p2, .ref a3]) ++ List.replicate (5 - (lg_sl ([.ref a0, .int p1, .int p2, .ref a3])).length) Slot.unset).toArray = ls at hl ⊢
  have hl : lv_has ls 5 [(0, .ref a0), (1, .int p1), (2, .int p2), (3, .ref a3)] := hl
  have hY : cfY l s A := ⟨hXl, hXu, hXn, hXt⟩
  have hTb := vx_table (x := yL_ahead) B (hts _ qaRQ)
  clear hAe
  obtain ⟨H, hH⟩ : ∃ H, H = s.heap := ⟨_, rfl⟩
  rw [← hH] at hP ⊢
  have hS : va_S A s.heap H [] := by rw [hH]; exact va_S.rf
  have hS := hS
  refine lv_aload_n hx hb (qaa qqo 0 rfl) rfl (lv_at hl 3 rfl) ?_
  refine lv_iconst (v := 0) hx hb (qaa qqo 1 rfl) (by decide) ?_
  refine lv_aload_n hx hb (qaa qqo 2 rfl) rfl (lv_at hl 0 rfl) ?_
  refine lv_iload_n hx hb (qaa qqo 3 rfl) rfl (lv_at hl 1 rfl) ?_
  refine lv_iload_n hx hb (qaa qqo 4 rfl) rfl (lv_at hl 2 rfl) ?_
  obtain ⟨hCc, hPc, hDc, hFc⟩ := qac (ws' := (qaXH a0 jaK jaR ja1 jb6 jbc jbV ja3 jbH jaT jh8 jaq jac jbI jbl jbn jba jaa jbA jbz jh8 jhy jiK jkp jkP jaT jbb jbr jaR jb6 jbb cyI jbQ jhy cyI jjV jaR jcB jcC jbo jbp jbk jcG jbf jbq jef jbm jbi jdB jcG cyI jfT)) hP hD hS hA [0, 1, 2, 3, 4, 5, 6] (by decide +kernel) rfl
  refine vx_calli (vx_runV (As := [.int p1, .int p2]) (rest := [.int 0, .ref a3]) ⟨hx, hb, hml, hown, hts⟩ (qaUC l dC dI cyB cyI cyJ cyP a0 jh8 jaT jbb jhy jaR jb6 jcG H.size (jaK) (.ref jaR) (ja1) (.ref jb6) (jbc) (jbV) (ja3) (jbH) (jaq) (jac) (jbI) (jbl) (jbn) (jba) (jaa) (jbA) (jiK) (jbr) (jcB) (jcC) (jbo) (jbp) (jbk) (jbf) (jbq) (jef) (jbi) jbQ jbm jdB jfT jbz jjV jkp jkP p1 p2 hw) (cwV 2 hts gL_ahead_X10_ahead rfl rfl rfl (by decide +kernel) ⟨nbq rfl, nbq rfl⟩) ⟨qav, va_recv (q := (RX10, TX10, 19)) hK hPc (ci := 10) (q0 := 0) rfl rfl, qbl hPc hK hDc hNw hY hS hFc⟩ rfl rfl hl.1 rfl (lv_room (nbq rfl)) (qaa qqo 5 rfl) ⟨nbq rfl, nbq rfl⟩) hS (fun q _ h => hFc q h) hFc (fun q _ h => hFc q h) (fun en ce qx9 u t H1 locs ht hvm hpx hB hz1 hk1 hS hc9 hv9 hcl9 => ?_) (fun r5 u t H1 locs ht hvm hw hB hz1 hk1 hS => ?_)
  · obtain ⟨x1, f2, q3, q4⟩ := u
    obtain ⟨hw, hP1, hK1, hD1⟩ := hB
    rw [ht] at hP1
    obtain ⟨hP, hD⟩ := qad (wr := [(a3, .inl (cyJ, n3, .inr (.inl f3)))]) (w1 := (qaXH a0 jaK jaR ja1 jb6 jbc jbV ja3 jbH jaT jh8 jaq jac jbI jbl jbn jba jaa jbA x1 jh8 jhy jiK q3 q4 jaT jbb jbr jaR jb6 jbb cyI jbQ jhy cyI f2 jaR jcB jcC jbo jbp jbk jcG jbf jbq jef jbm jbi jdB jcG cyI jfT)) (wn := (qMQ a0 jaK jaR ja1 jb6 jbc jbV ja3 jbH jaT jh8 jaq jac jbI jbl jbn jba jaa jbA x1 jh8 jhy jiK q3 q4 jaT jbb jbr jaR jb6 jbb cyI jbQ jhy cyI f2 jaR jcB jcC jbo jbp jbk jcG jbf jbq jef jbm jbi jdB jcG cyI jfT a3 cyJ n3 f3)) hP hD [0, 1, 2, 3, 4, 5, 6] [7] [1, 2, 3, 4, 5, 6, 7, 0] hCc rfl (by decide +kernel) (by decide +kernel) (by decide +kernel) rfl hk1 hFc hP1 hD1
    generalize H1 = H at hP hS hc9 ⊢
    obtain ⟨rfl, hw⟩ := hw
    refine vx_catch (own := RL) (name := "java/lang/IllegalArgumentException") hown [] ⟨0, 10, 13, 13⟩ [] (hTb.trans rfl) (fun z hz => nomatch hz) (by decide) (by decide) (hts _ qaAv) (va_Nw.use rfl (hY.2.2.2.1.2 _ (List.mem_of_getElem? (i := 0) rfl))) hc9 hv9 hcl9 ?_
    refine lv_astore (lv' := [(4, .ref qx9), (0, .ref a0), (1, .int p1), (2, .int p2), (3, .ref a3)]) hx hb (qaa qqo 9 rfl) hl (by decide) rfl (fun ls hl => ?_)
    refine lv_iconst (v := 1) hx hb (qaa qqo 10 rfl) (by decide) ?_
    exact (W.widen (k := 2) (n := 12) (nbq rfl) (nbq rfl) (W.iret (v := 1) hx hb hr (fun t ht hW => ⟨⟨1, (x1, f2, q3, q4, f3), rfl, hw, by rw [ht]; exact hP, va_K.moved hW.alike hK, hD⟩, hS.F ht⟩) hS.2.2 (qaa qqo 11 rfl)))
  obtain ⟨x1, f2, q3, q4⟩ := u
  obtain ⟨hP1, hK1, hD1⟩ := hB
  rw [ht] at hP1
  obtain ⟨hP, hD⟩ := va_join (wr := [(a3, .inl (cyJ, n3, .inr (.inl f3)))]) (w1 := (qaXH a0 jaK jaR ja1 jb6 jbc jbV ja3 jbH jaT jh8 jaq jac jbI jbl jbn jba jaa jbA x1 jh8 jhy jiK q3 q4 jaT jbb jbr jaR jb6 jbb cyI jbQ jhy cyI f2 jaR jcB jcC jbo jbp jbk jcG jbf jbq jef jbm jbi jdB jcG cyI jfT)) hP hD [0, 1, 2, 3, 4, 5, 6] [7] rfl rfl (by decide) (by decide) hk1 hFc hP1 hD1
  have hP : va_P (dC, dI) vwCl (qMQ a0 jaK jaR ja1 jb6 jbc jbV ja3 jbH jaT jh8 jaq jac jbI jbl jbn jba jaa jbA x1 jh8 jhy jiK q3 q4 jaT jbb jbr jaR jb6 jbb cyI jbQ jhy cyI f2 jaR jcB jcC jbo jbp jbk jcG jbf jbq jef jbm jbi jdB jcG cyI jfT a3 cyJ n3 f3) H1 := hP.sub [1, 2, 3, 4, 5, 6, 7, 0] rfl
  have hD : va_D A (qMQ a0 jaK jaR ja1 jb6 jbc jbV ja3 jbH jaT jh8 jaq jac jbI jbl jbn jba jaa jbA x1 jh8 jhy jiK q3 q4 jaT jbb jbr jaR jb6 jbb cyI jbQ jhy cyI f2 jaR jcB jcC jbo jbp jbk jcG jbf jbq jef jbm jbi jdB jcG cyI jfT a3 cyJ n3 f3) := hD.sub [1, 2, 3, 4, 5, 6, 7, 0] (by decide) rfl
  generalize H1 = H at hP hS ⊢
  refine lv_i2l (v := r5.toInt64) hx hb (qaa qqo 6 rfl) rfl ?_
  refine lv_topl (fun x6 ex6 => ?_)
  have hw := hw x6 ex6
  obtain ⟨hi9, hw⟩ := hw
  refine va_last hx hb hK hP hD hS 7 2 rfl rfl hi9 (qaa qqo 7 rfl) (fun H locs hP hD hS => ?_)
  obtain ⟨f7, ef7⟩ : ∃ y : Nat → Int64, y = vp_updL f3 (0 : Int32).toNatClampNeg x6 := ⟨_, rfl⟩
  have hw := hw f7 ef7
  have hP : va_P (dC, dI) vwCl (qMQ a0 jaK jaR ja1 jb6 jbc jbV ja3 jbH jaT jh8 jaq jac jbI jbl jbn jba jaa jbA x1 jh8 jhy jiK q3 q4 jaT jbb jbr jaR jb6 jbb cyI jbQ jhy cyI f2 jaR jcB jcC jbo jbp jbk jcG jbf jbq jef jbm jbi jdB jcG cyI jfT a3 cyJ n3 f7) H := by rw [ef7]; exact hP
  have hD : va_D A (qMQ a0 jaK jaR ja1 jb6 jbc jbV ja3 jbH jaT jh8 jaq jac jbI jbl jbn jba jaa jbA x1 jh8 jhy jiK q3 q4 jaT jbb jbr jaR jb6 jbb cyI jbQ jhy cyI f2 jaR jcB jcC jbo jbp jbk jcG jbf jbq jef jbm jbi jdB jcG cyI jfT a3 cyJ n3 f7) := by rw [ef7]; exact hD
  refine lv_goto (tgt := 17) hx hb (qaa qqo 8 rfl) (by decide) ?_
  refine lv_iconst (v := 0) hx hb (qaa qqo 12 rfl) (by decide) ?_
  exact (W.widen (k := 2) (n := 12) (nbq rfl) (nbq rfl) (W.iret (v := 0) hx hb hr (fun t ht hW => ⟨⟨0, (x1, f2, q3, q4, f7), rfl, hw, by rw [ht]; exact hP, va_K.moved hW.alike hK, hD⟩, hS.F ht⟩) hS.2.2 (qaa qqo 13 rfl)))
theorem qCC : ∀ w ∈ u_ws RX8 TX8 7, w ∈ wsX8_open := uiM qCf euX8 (by decide +kernel)
theorem qaGq : (.fieldLink RX8 15 "MarchHares$Tape" "faultPlace" "I" : Cond) ∈ wsX8_open := qCf 143 (by decide +kernel)
theorem qaIu : (.fieldLink RX8 19 "MarchHares$Tape" "filled" "I" : Cond) ∈ wsX8_open := qCf 580 (by decide +kernel)
theorem qaHh : (.fieldLink RX8 28 "MarchHares$Tape" "length" "I" : Cond) ∈ wsX8_open := qCf 712 (by decide +kernel)
theorem qaLd : (.fieldLink RX8 31 "MarchHares$Tape" "at" "I" : Cond) ∈ wsX8_open := qCf 713 (by decide +kernel)
theorem qaIL : (.fieldLink RX8 34 "MarchHares$Tape" "token" "I" : Cond) ∈ wsX8_open := qCf 714 (by decide +kernel)
theorem qaHQ : (.fieldLink RX8 37 "MarchHares$Tape" "fault" "I" : Cond) ∈ wsX8_open := qCf 715 (by decide +kernel)
theorem qaAp : (.initialized "java/lang/Math" : Cond) ∈ wsX8_open := qCf 651 (by decide +kernel)
theorem qaIx : (.methodLink RX8 22 Lib.Math.min.name : Cond) ∈ wsX8_open := qCf 711 (by decide +kernel)
theorem qaqa : (.code Lib.Math.min.name Lib.Math.min.code 2 (some .int) : Cond) ∈ wsX8_open := qCf 652 (by decide +kernel)
theorem qasQ : (.static Lib.Math.min.name : Cond) ∈ wsX8_open := qCf 650 (by decide +kernel)
set_option maxHeartbeats 4000000 in
set_option maxRecDepth 100000 in
theorem qa20 (l : Launch) (dC : Nat → ClassId) (dI : Nat → Nat → Nat) (cyB cyI cyJ cyP : ClassId) (a0 sz : Nat) (jn7 : Value) (jb7 jcP jlr jnc jkC jj3 p1 : Int32) {Q : Int32 → Int32 → Int32 → Int32 → Int32 → Int32 → Prop} (hw : qaMe jb7 jcP jlr jnc jkC jj3 p1 Q) : Met l yX8_open wsX8_open ({ frames := 1, cells := 0, slots := 0, locals := 32 }) (va_Pc [.ref a0, .int p1] (cPc (dC, dI) (kT cyB cyI cyJ cyP) (qwc a0 jn7 jb7 jcP jlr jnc jkC jj3) sz)) (va_Qv (fun (u : Int32 × Int32 × Int32 × Int32 × Int32 × Int32) => Q u.1 u.2.1 u.2.2.1 u.2.2.2.1 u.2.2.2.2.1 u.2.2.2.2.2) (cB (dC, dI) (kT cyB cyI cyJ cyP) (va_A (qwc a0 jn7 jb7 jcP jlr jnc jkC jj3) sz) (fun u : Int32 × Int32 × Int32 × Int32 × Int32 × Int32 => ((qwc a0 jn7 u.1 u.2.1 u.2.2.1 u.2.2.2.1 u.2.2.2.2.1 u.2.2.2.2.2) : va_W))) (va_A (qwc a0 jn7 jb7 jcP jlr jnc jkC jj3) sz)) 0 0 (va_A (qwc a0 jn7 jb7 jcP jlr jnc jkC jj3) sz) := by
  refine Met.ofW (cc := cX8_open) (maxL := 2) (ret := none) (by decide) rfl ?_
  intro p e s m args below meth c s₁ B hml hv
  obtain ⟨rfl, hsz, hP, hK, hD0, hNw⟩ := hv
  have hx := B.exec
  have hb := B.bytes
  have hr := B.returns
  have hts := atoms_spec (ws := wsX8_open) B.pre
  have hown : s.vm.findClass RX8 = some m.cls := findClass_of_methodNamed B.named
  have hlocks := B.notSynchronized
  subst hsz
  have hD := hD0.self (sz := s.heap.size)
  generalize hAe : va_A (qwc a0 jn7 jb7 jcP jlr jnc jkC jj3) s.heap.size = A at hD ⊢
  have hA : ∀ q : Nat, s.heap.size ≤ q → A q := fun q h => by rw [← hAe]; exact Or.inr h
  have hS : va_S A s.heap s.heap [] := va_S.rf
  have hP : va_P (dC, dI) vwCl (qwc a0 jn7 jb7 jcP jlr jnc jkC jj3) s.heap := hP
  have hl := lv_entry ([.ref a0, .int p1]) (n := 2) (nbq rfl)
  rw [lg_entry_eq]
  generalize (lg_sl ([.ref a0, .int p1]) ++ List.replicate (2 - (lg_sl ([.ref a0, .int p1])).length) Slot.unset).toArray = ls at hl ⊢
  have hl : lv_has ls 2 [(0, .ref a0), (1, .int p1)] := hl
  have C0 : cfx p s m _ meth c cX8_open none wsX8_open RX8 2 A (dC, dI) (kT cyB cyI cyJ cyP) := ⟨hx, hb, hr, hts, hown, hlocks, hml, hA, hK, hNw⟩
  clear hAe
  obtain ⟨H, hH⟩ : ∃ H, H = s.heap := ⟨_, rfl⟩
  rw [← hH] at hP ⊢
  have hS : va_S A s.heap H [] := by rw [hH]; exact va_S.rf
  have hS := hS
  refine lv_aload_n hx hb (qaa qoB 0 rfl) rfl (lv_at hl 0 rfl) ?_
  refine lv_iload_n hx hb (qaa qoB 1 rfl) rfl (lv_at hl 1 rfl) ?_
  refine lv_sipush (v := 600) hx hb (qaa qoB 2 rfl) (by decide) ?_
  refine va_mmin hx hb (by rw [hml]; exact hl.1.symm) hown (hts _ qaIx) (hts _ qasQ) (hts _ qaAp) (hts _ qaqa) (nbq rfl) (nbq rfl) (nbq rfl) (nbq rfl) (qaa qoB 3 rfl) ?_
  refine lv_topi (fun x1 ex1 => ?_)
  have hw := hw x1 ex1
  refine va_put (D := (dC, dI)) (ci := 8) (v := .int x1) (ty := .int) (C := RX8) (T := TX8) (N := 7) hx hb hts qCC tyX8 tyX8_ok nmX8 hown hK hP hD hS 0 rfl rfl 1 (by decide) (hts _ qaHh) (fun _ h9 => h9) rfl (by decide +kernel) rfl rfl (nbq rfl) (qaa qoB 4 rfl) (fun H locs hP hD hS => ?_)
  have hP : va_P (dC, dI) vwCl (qwc a0 jn7 x1 jcP jlr jnc jkC jj3) H := hP
  have hD : va_D A (qwc a0 jn7 x1 jcP jlr jnc jkC jj3) := hD
  refine lv_aload_n hx hb (qaa qoB 5 rfl) rfl (lv_at hl 0 rfl) ?_
  refine lv_iconst (v := 0) hx hb (qaa qoB 6 rfl) (by decide) ?_
  refine va_put (D := (dC, dI)) (ci := 8) (v := .int 0) (ty := .int) (C := RX8) (T := TX8) (N := 7) hx hb hts qCC tyX8 tyX8_ok nmX8 hown hK hP hD hS 0 rfl rfl 2 (by decide) (hts _ qaLd) (fun _ h9 => h9) rfl (by decide +kernel) rfl rfl (nbq rfl) (qaa qoB 7 rfl) (fun H locs hP hD hS => ?_)
  have hP : va_P (dC, dI) vwCl (qwc a0 jn7 x1 0 jlr jnc jkC jj3) H := hP
  have hD : va_D A (qwc a0 jn7 x1 0 jlr jnc jkC jj3) := hD
  refine lv_aload_n hx hb (qaa qoB 8 rfl) rfl (lv_at hl 0 rfl) ?_
  refine lv_iconst (v := 0) hx hb (qaa qoB 9 rfl) (by decide) ?_
  refine va_put (D := (dC, dI)) (ci := 8) (v := .int 0) (ty := .int) (C := RX8) (T := TX8) (N := 7) hx hb hts qCC tyX8 tyX8_ok nmX8 hown hK hP hD hS 0 rfl rfl 3 (by decide) (hts _ qaIL) (fun _ h9 => h9) rfl (by decide +kernel) rfl rfl (nbq rfl) (qaa qoB 10 rfl) (fun H locs hP hD hS => ?_)
  have hP : va_P (dC, dI) vwCl (qwc a0 jn7 x1 0 0 jnc jkC jj3) H := hP
  have hD : va_D A (qwc a0 jn7 x1 0 0 jnc jkC jj3) := hD
  refine lv_aload_n hx hb (qaa qoB 11 rfl) rfl (lv_at hl 0 rfl) ?_
  refine lv_iconst (v := 0) hx hb (qaa qoB 12 rfl) (by decide) ?_
  refine va_put (D := (dC, dI)) (ci := 8) (v := .int 0) (ty := .int) (C := RX8) (T := TX8) (N := 7) hx hb hts qCC tyX8 tyX8_ok nmX8 hown hK hP hD hS 0 rfl rfl 4 (by decide) (hts _ qaIu) (fun _ h9 => h9) rfl (by decide +kernel) rfl rfl (nbq rfl) (qaa qoB 13 rfl) (fun H locs hP hD hS => ?_)
  have hP : va_P (dC, dI) vwCl (qwc a0 jn7 x1 0 0 0 jkC jj3) H := hP
  have hD : va_D A (qwc a0 jn7 x1 0 0 0 jkC jj3) := hD
  refine lv_aload_n hx hb (qaa qoB 14 rfl) rfl (lv_at hl 0 rfl) ?_
  refine lv_iconst (v := 0) hx hb (qaa qoB 15 rfl) (by decide) ?_
  refine va_put (D := (dC, dI)) (ci := 8) (v := .int 0) (ty := .int) (C := RX8) (T := TX8) (N := 7) hx hb hts qCC tyX8 tyX8_ok nmX8 hown hK hP hD hS 0 rfl rfl 5 (by decide) (hts _ qaHQ) (fun _ h9 => h9) rfl (by decide +kernel) rfl rfl (nbq rfl) (qaa qHu 0 rfl) (fun H locs hP hD hS => ?_)
  have hP : va_P (dC, dI) vwCl (qwc a0 jn7 x1 0 0 0 0 jj3) H := hP
  have hD : va_D A (qwc a0 jn7 x1 0 0 0 0 jj3) := hD
  refine lv_aload_n hx hb (qaa qHu 1 rfl) rfl (lv_at hl 0 rfl) ?_
  refine lv_iconst (v := (-1)) hx hb (qaa qHu 2 rfl) (by decide) ?_
  refine va_put (D := (dC, dI)) (ci := 8) (v := .int (-1)) (ty := .int) (C := RX8) (T := TX8) (N := 7) hx hb hts qCC tyX8 tyX8_ok nmX8 hown hK hP hD hS 0 rfl rfl 6 (by decide) (hts _ qaGq) (fun _ h9 => h9) rfl (by decide +kernel) rfl rfl (nbq rfl) (qaa qHu 3 rfl) (fun H locs hP hD hS => ?_)
  have hP : va_P (dC, dI) vwCl (qwc a0 jn7 x1 0 0 0 0 (-1)) H := hP
  have hD : va_D A (qwc a0 jn7 x1 0 0 0 0 (-1)) := hD
  exact ((W.vret hx hb hr (fun t ht hW => ⟨⟨(x1, 0, 0, 0, 0, (-1)), rfl, hw, by rw [ht]; exact hP, va_K.moved hW.alike hK, hD⟩, hS.F ht⟩) hS.2.2 (qaa qHu 4 rfl)))
theorem qRp : ∀ w ∈ u_ws RX10 TX10 19, w ∈ wsX10_openText := uiM qpp qyN (by decide +kernel)
theorem qafc : ∀ w ∈ u_ws RX8 TX8 7, w ∈ wsX10_openText := uiM qpp euX8 (by decide +kernel)
theorem qRw : (.fieldLink RX10 10 "MarchHares" "tape" "LMarchHares$Tape;" : Cond) ∈ wsX10_openText := qpp 16 (by decide +kernel)
theorem q6R : (.fieldLink RX10 105 "MarchHares$Tape" "filled" "I" : Cond) ∈ wsX10_openText := qpp 535 (by decide +kernel)
theorem q5x : (.initialized "java/lang/Math" : Cond) ∈ wsX10_openText := qpp 651 (by decide +kernel)
theorem q6X : (.methodLink RX10 384 Lib.Math.min.name : Cond) ∈ wsX10_openText := qpp 649 (by decide +kernel)
theorem q06 : (.code Lib.Math.min.name Lib.Math.min.code 2 (some .int) : Cond) ∈ wsX10_openText := qpp 652 (by decide +kernel)
theorem q4M : (.static Lib.Math.min.name : Cond) ∈ wsX10_openText := qpp 650 (by decide +kernel)
set_option maxHeartbeats 4000000 in
set_option maxRecDepth 100000 in
theorem qHR (l : Launch) (dC : Nat → ClassId) (dI : Nat → Nat → Nat) (cyB cyI cyJ cyP : ClassId) (a0 jaW sz : Nat) (jfS ja1 jcp jbc jbV ja3 jbH ja2 jbO jaq jac jbI jbl jbn jba jaa jbA jok : Value) (jbz jk4 jlW jll jj0 jlm jjE p1 p2 : Int32) {E : String → Int32 → Int32 → Int32 → Int32 → Int32 → Int32 → Int32 → Prop} {Q : Int32 → Int32 → Int32 → Int32 → Int32 → Int32 → Int32 → Prop} (hw : qyV jbz jk4 jlW jll jj0 jlm jjE p1 p2 E Q) : vx_Met l yX10_openText wsX10_openText ({ frames := 8, cells := 1, slots := 6, locals := 164 }) (va_Pc [.ref a0, .int p1, .int p2] (cPx l (dC, dI) (kT cyB cyI cyJ cyP) (qJL a0 jaW jfS ja1 jcp jbc jbV ja3 jbH ja2 jbO jaq jac jbI jbl jbn jba jaa jbA jbz jaW jok jk4 jlW jll jj0 jlm jjE) sz)) (va_Qv (fun (u : Int32 × Int32 × Int32 × Int32 × Int32 × Int32 × Int32) => Q u.1 u.2.1 u.2.2.1 u.2.2.2.1 u.2.2.2.2.1 u.2.2.2.2.2.1 u.2.2.2.2.2.2) (cB (dC, dI) (kT cyB cyI cyJ cyP) (va_A (qJL a0 jaW jfS ja1 jcp jbc jbV ja3 jbH ja2 jbO jaq jac jbI jbl jbn jba jaa jbA jbz jaW jok jk4 jlW jll jj0 jlm jjE) sz) (fun u : Int32 × Int32 × Int32 × Int32 × Int32 × Int32 × Int32 => ((qJL a0 jaW jfS ja1 jcp jbc jbV ja3 jbH ja2 jbO jaq jac jbI jbl jbn jba jaa jbA u.1 jaW jok u.2.1 u.2.2.1 u.2.2.2.1 u.2.2.2.2.1 u.2.2.2.2.2.1 u.2.2.2.2.2.2) : va_W))) (va_A (qJL a0 jaW jfS ja1 jcp jbc jbV ja3 jbH ja2 jbO jaq jac jbI jbl jbn jba jaa jbA jbz jaW jok jk4 jlW jll jj0 jlm jjE) sz)) (vx_X (fun _ => True) (fun (en : String) (u : Int32 × Int32 × Int32 × Int32 × Int32 × Int32 × Int32) (t : State) => E en u.1 u.2.1 u.2.2.1 u.2.2.2.1 u.2.2.2.2.1 u.2.2.2.2.2.1 u.2.2.2.2.2.2 ∧ cB (dC, dI) (kT cyB cyI cyJ cyP) (va_A (qJL a0 jaW jfS ja1 jcp jbc jbV ja3 jbH ja2 jbO jaq jac jbI jbl jbn jba jaa jbA jbz jaW jok jk4 jlW jll jj0 jlm jjE) sz) (fun u : Int32 × Int32 × Int32 × Int32 × Int32 × Int32 × Int32 => ((qJL a0 jaW jfS ja1 jcp jbc jbV ja3 jbH ja2 jbO jaq jac jbI jbl jbn jba jaa jbA u.1 jaW jok u.2.1 u.2.2.1 u.2.2.2.1 u.2.2.2.2.1 u.2.2.2.2.2.1 u.2.2.2.2.2.2) : va_W)) u t) (va_A (qJL a0 jaW jfS ja1 jcp jbc jbV ja3 jbH ja2 jbO jaq jac jbI jbl jbn jba jaa jbA jbz jaW jok jk4 jlW jll jj0 jlm jjE) sz)) 1 6 (va_A (qJL a0 jaW jfS ja1 jcp jbc jbV ja3 jbH ja2 jbO jaq jac jbI jbl jbn jba jaa jbA jbz jaW jok jk4 jlW jll jj0 jlm jjE) sz) := by
  refine vx_ofW (cc := cX10_openText) (maxL := 3) (ret := none) (by decide) rfl ?_
  intro p e s m args below meth c s₁ B hml hnt hv
  obtain ⟨rfl, hsz, hP, hK, hD0, hNw, hXl, hXu, hXn, hXt⟩ := hv
  have hx := B.exec
  have hb := B.bytes
  have hr := B.returns
  have hts := atoms_spec (ws := wsX10_openText) B.pre
  have hown : s.vm.findClass RX10 = some m.cls := findClass_of_methodNamed B.named
  have hlocks := B.notSynchronized
  subst hsz
  have hD := hD0.self (sz := s.heap.size)
  generalize hAe : va_A (qJL a0 jaW jfS ja1 jcp jbc jbV ja3 jbH ja2 jbO jaq jac jbI jbl jbn jba jaa jbA jbz jaW jok jk4 jlW jll jj0 jlm jjE) s.heap.size = A at hD hXu hXn ⊢
  have hA : ∀ q : Nat, s.heap.size ≤ q → A q := fun q h => by rw [← hAe]; exact Or.inr h
  have hS : va_S A s.heap s.heap [] := va_S.rf
  have hP : va_P (dC, dI) vwCl (qJL a0 jaW jfS ja1 jcp jbc jbV ja3 jbH ja2 jbO jaq jac jbI jbl jbn jba jaa jbA jbz jaW jok jk4 jlW jll jj0 jlm jjE) s.heap := hP
  have hl := lv_entry ([.ref a0, .int p1, .int p2]) (n := 3) (nbq rfl)
  rw [lg_entry_eq]
  generalize (lg_sl ([.ref a0, .int p1, .int p2]) ++ List.replicate (3 - (lg_sl ([.ref a0, .int p1, .int p2])).length) Slot.unset).toArray = ls at hl ⊢
  have hl : lv_has ls 3 [(0, .ref a0), (1, .int p1), (2, .int p2)] := hl
  have hY : cfY l s A := ⟨hXl, hXu, hXn, hXt⟩
  have hXs : cfX l s c A := ⟨hnt, hY⟩
  have C0 : cfx p s m _ meth c cX10_openText none wsX10_openText RX10 3 A (dC, dI) (kT cyB cyI cyJ cyP) ∧ cfX l s c A := ⟨⟨hx, hb, hr, hts, hown, hlocks, hml, hA, hK, hNw⟩, hXs⟩
  clear hAe
  obtain ⟨H, hH⟩ : ∃ H, H = s.heap := ⟨_, rfl⟩
  rw [← hH] at hP ⊢
  have hS : va_S A s.heap H [] := by rw [hH]; exact va_S.rf
  have hS := hS
  refine lv_aload_n hx hb (qaa qgk 0 rfl) rfl (lv_at hl 0 rfl) ?_
  refine lv_iload_n hx hb (qaa qgk 1 rfl) rfl (lv_at hl 1 rfl) ?_
  refine lv_iconst (v := 0) hx hb (qaa qgk 2 rfl) (by decide) ?_
  refine lv_iload_n hx hb (qaa qgk 3 rfl) rfl (lv_at hl 2 rfl) ?_
  refine lv_aload_n hx hb (qaa qgk 4 rfl) rfl (lv_at hl 0 rfl) ?_
  refine va_get (D := (dC, dI)) (ci := 10) (v := .ref jaW) (C := RX10) (T := TX10) (N := 19) hx hb hts qRp hown hK hP 0 rfl rfl 0 (by decide) (hts _ qRw) (fun _ h9 => h9) rfl (qaa qgk 5 rfl) ?_
  refine va_get (D := (dC, dI)) (ci := 8) (v := .int jj0) (C := RX8) (T := TX8) (N := 7) hx hb hts qafc hown hK hP 1 rfl rfl 4 (by decide) (hts _ q6R) (fun _ h9 => h9) rfl (qaa qgk 6 rfl) ?_
  refine va_mmin hx hb (by rw [hml]; exact hl.1.symm) hown (hts _ q6X) (hts _ q4M) (hts _ q5x) (hts _ q06) (nbq rfl) (nbq rfl) (nbq rfl) (nbq rfl) (qaa qgk 7 rfl) ?_
  refine lv_topi (fun x1 ex1 => ?_)
  have hw := hw x1 ex1
  obtain ⟨hCc, hPc, hDc, hFc⟩ := qac (ws' := (qaO6 a0 jaW jfS ja1 jcp jbc jbV ja3 jbH ja2 jbO jaq jac jbI jbl jbn jba jaa jbA jbz)) hP hD hS hA [0] (by decide +kernel) rfl
  refine vx_callv (vx_runV (As := [.int p1, .int 0, .int x1]) (rest := []) ⟨hx, hb, hml, hown, hts⟩ (qaV l dC dI cyB cyI cyJ cyP a0 H.size (.ref jaW) (jfS) (ja1) (jcp) (jbc) (jbV) (ja3) (jbH) (ja2) (jbO) (jaq) (jac) (jbI) (jbl) (jbn) (jba) (jaa) (jbA) jbz p1 0 x1 hw) (cwV 3 hts gX10_openText_X10_needWithin rfl rfl rfl (by decide +kernel) ⟨nbq rfl, nbq rfl⟩) ⟨qav, va_recv (q := (RX10, TX10, 19)) hK hPc (ci := 10) (q0 := 0) rfl rfl, qbl hPc hK hDc hNw hY hS hFc⟩ rfl rfl hl.1 rfl (lv_room (nbq rfl)) (qaa qgk 8 rfl) ⟨nbq rfl, nbq rfl⟩) hS (fun q _ h => hFc q h) hFc (fun q _ h => hFc q h) (fun en ce q9 u t H1 locs ht hvm hpx hB hz1 hk1 hS hc9 hv9 hcl9 => ?_) (fun u t H1 locs ht hvm hw hB hz1 hk1 hS => ?_)
  · obtain ⟨x2, rfl⟩ : ∃ z, z = u := ⟨_, rfl⟩
    obtain ⟨hw, hP1, hK1, hD1⟩ := hB
    rw [ht] at hP1
    obtain ⟨hP, hD⟩ := qad (wr := (qwc jaW jok jk4 jlW jll jj0 jlm jjE)) (w1 := (qaO6 a0 jaW jfS ja1 jcp jbc jbV ja3 jbH ja2 jbO jaq jac jbI jbl jbn jba jaa jbA x2)) (wn := (qJL a0 jaW jfS ja1 jcp jbc jbV ja3 jbH ja2 jbO jaq jac jbI jbl jbn jba jaa jbA x2 jaW jok jk4 jlW jll jj0 jlm jjE)) hP hD [0] [1] [1, 0] hCc rfl (by decide +kernel) (by decide +kernel) (by decide +kernel) rfl hk1 hFc hP1 hD1
    generalize H1 = H at hP hS hc9 ⊢
    exact vx_out (fun x hx9 => (hXs.1 x hx9).elim) hlocks hc9 hv9 hcl9 (fun t2 ht2 hal2 => ⟨(x2, jk4, jlW, jll, jj0, jlm, jjE), trivial, ⟨hw, by rw [ht2]; exact hP, va_K.moved hal2 hK, hD⟩, hS.F ht2⟩) hS.2.2 (nbq rfl) (nbq rfl)
  obtain ⟨x2, rfl⟩ : ∃ z, z = u := ⟨_, rfl⟩
  obtain ⟨hP1, hK1, hD1⟩ := hB
  rw [ht] at hP1
  obtain ⟨hP, hD⟩ := qad (wr := (qwc jaW jok jk4 jlW jll jj0 jlm jjE)) (w1 := (qaO6 a0 jaW jfS ja1 jcp jbc jbV ja3 jbH ja2 jbO jaq jac jbI jbl jbn jba jaa jbA x2)) (wn := (qJL a0 jaW jfS ja1 jcp jbc jbV ja3 jbH ja2 jbO jaq jac jbI jbl jbn jba jaa jbA x2 jaW jok jk4 jlW jll jj0 jlm jjE)) hP hD [0] [1] [1, 0] hCc rfl (by decide +kernel) (by decide +kernel) (by decide +kernel) rfl hk1 hFc hP1 hD1
  generalize H1 = H at hP hS ⊢
  refine lv_aload_n hx hb (qaa qgk 9 rfl) rfl (lv_at hl 0 rfl) ?_
  refine va_get (D := (dC, dI)) (ci := 10) (v := .ref jaW) (C := RX10) (T := TX10) (N := 19) hx hb hts qRp hown hK hP 0 rfl rfl 0 (by decide) (hts _ qRw) (fun _ h9 => h9) rfl (qaa qgk 10 rfl) ?_
  refine lv_iload_n hx hb (qaa qgk 11 rfl) rfl (lv_at hl 1 rfl) ?_
  obtain ⟨hCc, hPc, hDc, hFc⟩ := qac (ws' := (qwc jaW jok jk4 jlW jll jj0 jlm jjE)) hP hD hS hA [1] (by decide +kernel) rfl
  refine va_callv (va_runV (As := [.int p1]) (rest := []) ⟨hx, hb, hml, hown, hts⟩ (qa20 l dC dI cyB cyI cyJ cyP jaW H.size (jok) jk4 jlW jll jj0 jlm jjE p1 hw) (cwV 1 hts gX10_openText_X8_open rfl rfl rfl (by decide +kernel) ⟨nbq rfl, nbq rfl⟩) ⟨qab, va_recv (q := (RX8, TX8, 7)) hK hPc (ci := 8) (q0 := 0) rfl rfl, qae hPc hK hDc hNw⟩ rfl rfl hl.1 rfl (lv_room (nbq rfl)) (qaa qgk 12 rfl) ⟨nbq rfl, nbq rfl⟩) hS (fun q _ h => hFc q h) hFc (fun u t H1 locs ht hvm hw hB hz1 hk1 hS => ?_)
  obtain ⟨x3, x4, x5, x6, x7, x8⟩ := u
  obtain ⟨hP1, hK1, hD1⟩ := hB
  rw [ht] at hP1
  obtain ⟨hP, hD⟩ := qah (wr := (qaO6 a0 jaW jfS ja1 jcp jbc jbV ja3 jbH ja2 jbO jaq jac jbI jbl jbn jba jaa jbA x2)) (w1 := (qwc jaW jok x3 x4 x5 x6 x7 x8)) (wn := (qJL a0 jaW jfS ja1 jcp jbc jbV ja3 jbH ja2 jbO jaq jac jbI jbl jbn jba jaa jbA x2 jaW jok x3 x4 x5 x6 x7 x8)) hP hD [1] [0] hCc rfl (by decide +kernel) (by decide +kernel) rfl hk1 hFc hP1 hD1
  generalize H1 = H at hP hS ⊢
  exact vx_ret (W.widen (k := 1) (n := 6) (nbq rfl) (nbq rfl) (W.vret hx hb hr (fun t ht hW => ⟨⟨(x2, x3, x4, x5, x6, x7, x8), rfl, hw, by rw [ht]; exact hP, va_K.moved hW.alike hK, hD⟩, hS.F ht⟩) hS.2.2 (qaa qgk 13 rfl)))
theorem q7X : ∀ w ∈ u_ws RX0 TX0 2, w ∈ wsX0_clear := uiM qaiR euX0 (by decide +kernel)
theorem qaw6 : (.fieldLink RX0 18 "MarchHares$Book" "many" "I" : Cond) ∈ wsX0_clear := qaiR 262 (by decide +kernel)
theorem qaKl : (.fieldLink RX0 9 "MarchHares$Book" "seen" "[I" : Cond) ∈ wsX0_clear := qaiR 257 (by decide +kernel)
set_option maxHeartbeats 4000000 in
set_option maxRecDepth 100000 in
theorem qaQl {p : Program} {l : Launch} {e : Env} {s : State} {m : MethodId} {args : Array Value} {below : List Frame} {meth : Method} {c : Code} {A : Nat → Prop} (dC : Nat → ClassId) (dI : Nat → Nat → Nat) (cyB cyI cyJ cyP : ClassId) (a0 jjj : Nat) (Q : Int32 → NI → Prop) (C0 : cfx p s m args meth c cX0_clear none wsX0_clear RX0 2 A (dC, dI) (kT cyB cyI cyJ cyP)) : ∀ (n : Nat) (H : Heap) (locs : List Loc) (ls : Array Slot) (jkY : Int32) (jkG : NI) (l1 : Int32), va_P (dC, dI) vwCl (qwk a0 jjj jkY jjj cyI jkG) H → va_D A (qwk a0 jjj jkY jjj cyI jkG) → va_S A s.heap H locs → lv_has ls 2 [(0, .ref a0), (1, .int l1)] → qIT Q n jkY jkG l1 → W p l e (headSpec wsX0_clear ({ frames := 0, cells := 0, slots := 0, locals := 0 })).room s m args below meth c H locs 0 0 (MQ below (va_Qv (fun (u : Int32 × NI) => Q u.1 u.2) (cB (dC, dI) (kT cyB cyI cyJ cyP) A (fun u : Int32 × NI => ((qwk a0 jjj u.1 jjj cyI u.2) : va_W))) A) args s 0 0 A) (F0 m 7 ls []) := by
  obtain ⟨hx, hb, hr, hts, hown, hlocks, hml, hA, hK, hNw⟩ := id C0
  intro n
  induction n with
  | zero => intro H locs ls jkY jkG l1 hP hD hS hl hw; exact False.elim hw
  | succ n ih =>
    intro H locs ls jkY jkG l1 hP hD hS hl hw
    refine lv_iload_n hx hb (qaa qlO 5 rfl) rfl (lv_at hl 1 rfl) ?_
    refine lv_bipush (v := 8) hx hb (qaa qlO 6 rfl) (by decide) ?_
    refine lv_icmp_ge (tgt := 26) hx hb (qaa qlO 7 rfl) (by decide) (fun c1 => ?_) (fun c1 => ?_)
    · have hw := hw.1 c1
      exact ((W.vret hx hb hr (fun t ht hW => ⟨⟨(jkY, jkG), rfl, hw, by rw [ht]; exact hP, va_K.moved hW.alike hK, hD⟩, hS.F ht⟩) hS.2.2 (qaa qlO 15 rfl)))
    · have hw := hw.2 c1
      refine lv_aload_n hx hb (qaa qlO 8 rfl) rfl (lv_at hl 0 rfl) ?_
      refine va_get (D := (dC, dI)) (ci := 0) (v := .ref jjj) (C := RX0) (T := TX0) (N := 2) hx hb hts q7X hown hK hP 0 rfl rfl 0 (by decide) (hts _ qaKl) (fun _ h9 => h9) rfl (qaa qlO 9 rfl) ?_
      refine lv_iload_n hx hb (qaa qlO 10 rfl) rfl (lv_at hl 1 rfl) ?_
      refine lv_iconst (v := (-1)) hx hb (qaa qlO 11 rfl) (by decide) ?_
      obtain ⟨hi9, hw⟩ := hw
      refine va_iast hx hb hK hP hD hS 1 1 rfl rfl hi9 (qaa qlO 12 rfl) (fun H locs hP hD hS => ?_)
      obtain ⟨f2, ef2⟩ : ∃ y : NI, y = upd jkG l1.toNatClampNeg (-1) := ⟨_, rfl⟩
      have hw := hw f2 ef2
      have hP : va_P (dC, dI) vwCl (qwk a0 jjj jkY jjj cyI f2) H := by rw [ef2]; exact hP
      have hD : va_D A (qwk a0 jjj jkY jjj cyI f2) := by rw [ef2]; exact hD
      obtain ⟨x3, ex3⟩ : ∃ y : Int32, y = l1 + 1 := ⟨_, rfl⟩
      have hw := hw x3 ex3
      refine lv_iinc (v := x3) (lv' := [(1, .int x3), (0, .ref a0)]) hx hb (qaa qlO 13 rfl) hl (k := 1) rfl (by rw [ex3]; rfl) (by decide) rfl (fun ls hl => ?_)
      refine lv_goto (tgt := 7) hx hb (qaa qlO 14 rfl) (by decide) ?_
      exact ih _ _ _ jkY f2 x3 hP hD hS (lv_sub hl [1, 0] rfl) hw
set_option maxHeartbeats 4000000 in
set_option maxRecDepth 100000 in
theorem q9A (l : Launch) (dC : Nat → ClassId) (dI : Nat → Nat → Nat) (cyB cyI cyJ cyP : ClassId) (a0 jjj sz : Nat) (jkY : Int32) (jkG : NI) {Q : Int32 → NI → Prop} (hw : qB2 jkY jkG Q) : Met l yX0_clear wsX0_clear ({ frames := 0, cells := 0, slots := 0, locals := 0 }) (va_Pc [.ref a0] (cPc (dC, dI) (kT cyB cyI cyJ cyP) (qwk a0 jjj jkY jjj cyI jkG) sz)) (va_Qv (fun (u : Int32 × NI) => Q u.1 u.2) (cB (dC, dI) (kT cyB cyI cyJ cyP) (va_A (qwk a0 jjj jkY jjj cyI jkG) sz) (fun u : Int32 × NI => ((qwk a0 jjj u.1 jjj cyI u.2) : va_W))) (va_A (qwk a0 jjj jkY jjj cyI jkG) sz)) 0 0 (va_A (qwk a0 jjj jkY jjj cyI jkG) sz) := by
  refine Met.ofW (cc := cX0_clear) (maxL := 2) (ret := none) (by decide) rfl ?_
  intro p e s m args below meth c s₁ B hml hv
  obtain ⟨rfl, hsz, hP, hK, hD0, hNw⟩ := hv
  have hx := B.exec
  have hb := B.bytes
  have hr := B.returns
  have hts := atoms_spec (ws := wsX0_clear) B.pre
  have hown : s.vm.findClass RX0 = some m.cls := findClass_of_methodNamed B.named
  have hlocks := B.notSynchronized
  subst hsz
  have hD := hD0.self (sz := s.heap.size)
  generalize hAe : va_A (qwk a0 jjj jkY jjj cyI jkG) s.heap.size = A at hD ⊢
  have hA : ∀ q : Nat, s.heap.size ≤ q → A q := fun q h => by rw [← hAe]; exact Or.inr h
  have hS : va_S A s.heap s.heap [] := va_S.rf
  have hP : va_P (dC, dI) vwCl (qwk a0 jjj jkY jjj cyI jkG) s.heap := hP
  have hl := lv_entry ([.ref a0]) (n := 2) (nbq rfl)
  rw [lg_entry_eq]
  generalize (lg_sl ([.ref a0]) ++ List.replicate (2 - (lg_sl ([.ref a0])).length) Slot.unset).toArray = ls at hl ⊢
  have hl : lv_has ls 2 [(0, .ref a0)] := hl
  have C0 : cfx p s m _ meth c cX0_clear none wsX0_clear RX0 2 A (dC, dI) (kT cyB cyI cyJ cyP) := ⟨hx, hb, hr, hts, hown, hlocks, hml, hA, hK, hNw⟩
  clear hAe
  obtain ⟨H, hH⟩ : ∃ H, H = s.heap := ⟨_, rfl⟩
  rw [← hH] at hP ⊢
  have hS : va_S A s.heap H [] := by rw [hH]; exact va_S.rf
  have hS := hS
  refine lv_aload_n hx hb (qaa qlO 0 rfl) rfl (lv_at hl 0 rfl) ?_
  refine lv_iconst (v := 0) hx hb (qaa qlO 1 rfl) (by decide) ?_
  refine va_put (D := (dC, dI)) (ci := 0) (v := .int 0) (ty := .int) (C := RX0) (T := TX0) (N := 2) hx hb hts q7X tyX0 tyX0_ok nmX0 hown hK hP hD hS 0 rfl rfl 1 (by decide) (hts _ qaw6) (fun _ h9 => h9) rfl (by decide +kernel) rfl rfl (nbq rfl) (qaa qlO 2 rfl) (fun H locs hP hD hS => ?_)
  have hP : va_P (dC, dI) vwCl (qwk a0 jjj 0 jjj cyI jkG) H := hP
  have hD : va_D A (qwk a0 jjj 0 jjj cyI jkG) := hD
  refine lv_iconst (v := 0) hx hb (qaa qlO 3 rfl) (by decide) ?_
  refine lv_istore_n (lv' := [(1, .int 0), (0, .ref a0)]) hx hb (qaa qlO 4 rfl) rfl hl (by decide) rfl (fun ls hl => ?_)
  obtain ⟨n9, hw⟩ := hw
  exact qaQl dC dI cyB cyI cyJ cyP a0 jjj Q C0 n9 _ _ _ 0 jkG 0 hP hD hS (lv_sub hl [1, 0] rfl) hw
theorem qamr : ∀ w ∈ u_ws RX8 TX8 7, w ∈ wsX8_isFaulty := uiM qaho euX8 (by decide +kernel)
theorem qafQ : (.fieldLink RX8 37 "MarchHares$Tape" "fault" "I" : Cond) ∈ wsX8_isFaulty := qaho 715 (by decide +kernel)
set_option maxHeartbeats 4000000 in
set_option maxRecDepth 100000 in
theorem qkj (l : Launch) (dC : Nat → ClassId) (dI : Nat → Nat → Nat) (cyB cyI cyJ cyP : ClassId) (a0 sz : Nat) (jn7 jjf jby jl9 jjY jkr : Value) (jkC : Int32) {Q : Int32 → Prop} (hw : qgr jkC Q) : Met l yX8_isFaulty wsX8_isFaulty ({ frames := 0, cells := 0, slots := 0, locals := 0 }) (va_Pc [.ref a0] (cPc (dC, dI) (kT cyB cyI cyJ cyP) (qacj a0 jn7 jjf jby jl9 jjY jkC jkr) sz)) (va_Qi (fun (r : Int32) (_ : Unit) => Q r ) (cB (dC, dI) (kT cyB cyI cyJ cyP) (va_A (qacj a0 jn7 jjf jby jl9 jjY jkC jkr) sz) (fun u : Unit => ((qacj a0 jn7 jjf jby jl9 jjY jkC jkr) : va_W))) (va_A (qacj a0 jn7 jjf jby jl9 jjY jkC jkr) sz)) 0 0 (va_A (qacj a0 jn7 jjf jby jl9 jjY jkC jkr) sz) := by
  refine Met.ofW (cc := cX8_isFaulty) (maxL := 1) (ret := (some .boolean)) (by decide) rfl ?_
  intro p e s m args below meth c s₁ B hml hv
  obtain ⟨rfl, hsz, hP, hK, hD0, hNw⟩ := hv
  have hx := B.exec
  have hb := B.bytes
  have hr := B.returns
  have hts := atoms_spec (ws := wsX8_isFaulty) B.pre
  have hown : s.vm.findClass RX8 = some m.cls := findClass_of_methodNamed B.named
  have hlocks := B.notSynchronized
  subst hsz
  have hD := hD0.self (sz := s.heap.size)
  generalize hAe : va_A (qacj a0 jn7 jjf jby jl9 jjY jkC jkr) s.heap.size = A at hD ⊢
  have hA : ∀ q : Nat, s.heap.size ≤ q → A q := fun q h => by rw [← hAe]; exact Or.inr h
  have hS : va_S A s.heap s.heap [] := va_S.rf
  have hP : va_P (dC, dI) vwCl (qacj a0 jn7 jjf jby jl9 jjY jkC jkr) s.heap := hP
  have hl := lv_entry ([.ref a0]) (n := 1) (nbq rfl)
  rw [lg_entry_eq]
  generalize (lg_sl ([.ref a0]) ++ List.replicate (1 - (lg_sl ([.ref a0])).length) Slot.unset).toArray = ls at hl ⊢
  have hl : lv_has ls 1 [(0, .ref a0)] := hl
  have C0 : cfx p s m _ meth c cX8_isFaulty (some .boolean) wsX8_isFaulty RX8 1 A (dC, dI) (kT cyB cyI cyJ cyP) := ⟨hx, hb, hr, hts, hown, hlocks, hml, hA, hK, hNw⟩
  clear hAe
  obtain ⟨H, hH⟩ : ∃ H, H = s.heap := ⟨_, rfl⟩
  rw [← hH] at hP ⊢
  have hS : va_S A s.heap H [] := by rw [hH]; exact va_S.rf
  have hS := hS
  refine lv_aload_n hx hb (qaa qsv 0 rfl) rfl (lv_at hl 0 rfl) ?_
  refine va_get (D := (dC, dI)) (ci := 8) (v := .int jkC) (C := RX8) (T := TX8) (N := 7) hx hb hts qamr hown hK hP 0 rfl rfl 5 (by decide) (hts _ qafQ) (fun _ h9 => h9) rfl (qaa qsv 1 rfl) ?_
  refine lv_if_eq (tgt := 11) hx hb (qaa qsv 2 rfl) (by decide) (fun c1 => ?_) (fun c1 => ?_)
  · have hw := hw.1 c1
    refine lv_iconst (v := 0) hx hb (qaa qsv 5 rfl) (by decide) ?_
    exact ((W.zret (v := 0) hx hb hr rfl (fun t ht hW => ⟨⟨0, (), rfl, hw, by rw [ht]; exact hP, va_K.moved hW.alike hK, hD⟩, hS.F ht⟩) hS.2.2 (qaa qsv 6 rfl)))
  · have hw := hw.2 c1
    refine lv_iconst (v := 1) hx hb (qaa qsv 3 rfl) (by decide) ?_
    refine lv_goto (tgt := 12) hx hb (qaa qsv 4 rfl) (by decide) ?_
    exact ((W.zret (v := 1) hx hb hr rfl (fun t ht hW => ⟨⟨1, (), rfl, hw, by rw [ht]; exact hP, va_K.moved hW.alike hK, hD⟩, hS.F ht⟩) hS.2.2 (qaa qsv 6 rfl)))
theorem qtd : ∀ w ∈ u_ws RX8 TX8 7, w ∈ wsX8_skipBlanks := uiM qIq euX8 (by decide +kernel)
theorem q5I : (.fieldLink RX8 11 "MarchHares$Tape" "bytes" "[B" : Cond) ∈ wsX8_skipBlanks := qIq 142 (by decide +kernel)
theorem q6i : (.fieldLink RX8 28 "MarchHares$Tape" "length" "I" : Cond) ∈ wsX8_skipBlanks := qIq 712 (by decide +kernel)
theorem qxX : (.fieldLink RX8 31 "MarchHares$Tape" "at" "I" : Cond) ∈ wsX8_skipBlanks := qIq 713 (by decide +kernel)
set_option maxHeartbeats 4000000 in
set_option maxRecDepth 100000 in
theorem qagN {p : Program} {l : Launch} {e : Env} {s : State} {m : MethodId} {args : Array Value} {below : List Frame} {meth : Method} {c : Code} {A : Nat → Prop} (dC : Nat → ClassId) (dI : Nat → Nat → Nat) (cyB cyI cyJ cyP : ClassId) (a0 jif : Nat) (jl9 jjY jmS jkr : Value) (jb7 : Int32) (jjA : NI) (Q : Int32 → Prop) (C0 : cfx p s m args meth c cX8_skipBlanks none wsX8_skipBlanks RX8 1 A (dC, dI) (kT cyB cyI cyJ cyP)) : ∀ (n : Nat) (H : Heap) (locs : List Loc) (ls : Array Slot) (jcP : Int32), va_P (dC, dI) vwCl (qwm a0 jif jb7 jcP jl9 jjY jmS jkr jif cyB jjA) H → va_D A (qwm a0 jif jb7 jcP jl9 jjY jmS jkr jif cyB jjA) → va_S A s.heap H locs → lv_has ls 1 [(0, .ref a0)] → qBh jb7 jjA Q n jcP → W p l e (headSpec wsX8_skipBlanks ({ frames := 0, cells := 0, slots := 0, locals := 0 })).room s m args below meth c H locs 0 0 (MQ below (va_Qv (fun (u : Int32) => Q u) (cB (dC, dI) (kT cyB cyI cyJ cyP) A (fun u : Int32 => ((qwm a0 jif jb7 u jl9 jjY jmS jkr jif cyB jjA) : va_W))) A) args s 0 0 A) (F0 m 0 ls []) := by
  obtain ⟨hx, hb, hr, hts, hown, hlocks, hml, hA, hK, hNw⟩ := id C0
  intro n
  induction n with
  | zero => intro H locs ls jcP hP hD hS hl hw; exact False.elim hw
  | succ n ih =>
    intro H locs ls jcP hP hD hS hl hw
    refine lv_aload_n hx hb (qaa qde 0 rfl) rfl (lv_at hl 0 rfl) ?_
    refine va_get (D := (dC, dI)) (ci := 8) (v := .int jcP) (C := RX8) (T := TX8) (N := 7) hx hb hts qtd hown hK hP 0 rfl rfl 2 (by decide) (hts _ qxX) (fun _ h9 => h9) rfl (qaa qde 1 rfl) ?_
    refine lv_aload_n hx hb (qaa qde 2 rfl) rfl (lv_at hl 0 rfl) ?_
    refine va_get (D := (dC, dI)) (ci := 8) (v := .int jb7) (C := RX8) (T := TX8) (N := 7) hx hb hts qtd hown hK hP 0 rfl rfl 1 (by decide) (hts _ q6i) (fun _ h9 => h9) rfl (qaa qde 3 rfl) ?_
    refine lv_icmp_ge (tgt := 38) hx hb (qaa qde 4 rfl) (by decide) (fun c1 => ?_) (fun c1 => ?_)
    · have hw := hw.1 c1
      exact ((W.vret hx hb hr (fun t ht hW => ⟨⟨(jcP), rfl, hw, by rw [ht]; exact hP, va_K.moved hW.alike hK, hD⟩, hS.F ht⟩) hS.2.2 (qaa qv1 3 rfl)))
    · have hw := hw.2 c1
      refine lv_aload_n hx hb (qaa qde 5 rfl) rfl (lv_at hl 0 rfl) ?_
      refine va_get (D := (dC, dI)) (ci := 8) (v := .ref jif) (C := RX8) (T := TX8) (N := 7) hx hb hts qtd hown hK hP 0 rfl rfl 0 (by decide) (hts _ q5I) (fun _ h9 => h9) rfl (qaa qde 6 rfl) ?_
      refine lv_aload_n hx hb (qaa qde 7 rfl) rfl (lv_at hl 0 rfl) ?_
      refine va_get (D := (dC, dI)) (ci := 8) (v := .int jcP) (C := RX8) (T := TX8) (N := 7) hx hb hts qtd hown hK hP 0 rfl rfl 2 (by decide) (hts _ qxX) (fun _ h9 => h9) rfl (qaa qde 8 rfl) ?_
      obtain ⟨hi9, hw⟩ := hw
      refine va_bald hx hb hK hP 1 0 rfl rfl hi9 (qaa qde 9 rfl) ?_
      refine lv_topi (fun x2 ex2 => ?_)
      have hw := hw x2 ex2
      refine lv_bipush (v := 32) hx hb (qaa qde 10 rfl) (by decide) ?_
      refine lv_icmp_ne (tgt := 38) hx hb (qaa qde 11 rfl) (by decide) (fun c3 => ?_) (fun c3 => ?_)
      · have hw := hw.1 c3
        exact ((W.vret hx hb hr (fun t ht hW => ⟨⟨(jcP), rfl, hw, by rw [ht]; exact hP, va_K.moved hW.alike hK, hD⟩, hS.F ht⟩) hS.2.2 (qaa qv1 3 rfl)))
      · have hw := hw.2 c3
        refine lv_aload_n hx hb (qaa qde 12 rfl) rfl (lv_at hl 0 rfl) ?_
        refine lv_dup hx hb (qaa qde 13 rfl) rfl ?_
        refine va_get (D := (dC, dI)) (ci := 8) (v := .int jcP) (C := RX8) (T := TX8) (N := 7) hx hb hts qtd hown hK hP 0 rfl rfl 2 (by decide) (hts _ qxX) (fun _ h9 => h9) rfl (qaa qde 14 rfl) ?_
        refine lv_iconst (v := 1) hx hb (qaa qde 15 rfl) (by decide) ?_
        refine lv_iadd hx hb (qaa qv1 0 rfl) ?_
        refine lv_topi (fun x4 ex4 => ?_)
        have hw := hw x4 ex4
        refine va_put (D := (dC, dI)) (ci := 8) (v := .int x4) (ty := .int) (C := RX8) (T := TX8) (N := 7) hx hb hts qtd tyX8 tyX8_ok nmX8 hown hK hP hD hS 0 rfl rfl 2 (by decide) (hts _ qxX) (fun _ h9 => h9) rfl (by decide +kernel) rfl rfl (nbq rfl) (qaa qv1 1 rfl) (fun H locs hP hD hS => ?_)
        have hP : va_P (dC, dI) vwCl (qwm a0 jif jb7 x4 jl9 jjY jmS jkr jif cyB jjA) H := hP
        have hD : va_D A (qwm a0 jif jb7 x4 jl9 jjY jmS jkr jif cyB jjA) := hD
        refine lv_goto (tgt := 0) hx hb (qaa qv1 2 rfl) (by decide) ?_
        exact ih _ _ _ x4 hP hD hS (lv_sub hl [0] rfl) hw
set_option maxHeartbeats 4000000 in
set_option maxRecDepth 100000 in
theorem qwt (l : Launch) (dC : Nat → ClassId) (dI : Nat → Nat → Nat) (cyB cyI cyJ cyP : ClassId) (a0 jif sz : Nat) (jl9 jjY jmS jkr : Value) (jb7 : Int32) (jjA : NI) (jcP : Int32) {Q : Int32 → Prop} (hw : qsx jb7 jjA jcP Q) : Met l yX8_skipBlanks wsX8_skipBlanks ({ frames := 0, cells := 0, slots := 0, locals := 0 }) (va_Pc [.ref a0] (cPc (dC, dI) (kT cyB cyI cyJ cyP) (qwm a0 jif jb7 jcP jl9 jjY jmS jkr jif cyB jjA) sz)) (va_Qv (fun (u : Int32) => Q u) (cB (dC, dI) (kT cyB cyI cyJ cyP) (va_A (qwm a0 jif jb7 jcP jl9 jjY jmS jkr jif cyB jjA) sz) (fun u : Int32 => ((qwm a0 jif jb7 u jl9 jjY jmS jkr jif cyB jjA) : va_W))) (va_A (qwm a0 jif jb7 jcP jl9 jjY jmS jkr jif cyB jjA) sz)) 0 0 (va_A (qwm a0 jif jb7 jcP jl9 jjY jmS jkr jif cyB jjA) sz) := by
  refine Met.ofW (cc := cX8_skipBlanks) (maxL := 1) (ret := none) (by decide) rfl ?_
  intro p e s m args below meth c s₁ B hml hv
  obtain ⟨rfl, hsz, hP, hK, hD0, hNw⟩ := hv
  have hx := B.exec
  have hb := B.bytes
  have hr := B.returns
  have hts := atoms_spec (ws := wsX8_skipBlanks) B.pre
  have hown : s.vm.findClass RX8 = some m.cls := findClass_of_methodNamed B.named
  have hlocks := B.notSynchronized
  subst hsz
  have hD := hD0.self (sz := s.heap.size)
  generalize hAe : va_A (qwm a0 jif jb7 jcP jl9 jjY jmS jkr jif cyB jjA) s.heap.size = A at hD ⊢
  have hA : ∀ q : Nat, s.heap.size ≤ q → A q := fun q h => by rw [← hAe]; exact Or.inr h
  have hS : va_S A s.heap s.heap [] := va_S.rf
  have hP : va_P (dC, dI) vwCl (qwm a0 jif jb7 jcP jl9 jjY jmS jkr jif cyB jjA) s.heap := hP
  have hl := lv_entry ([.ref a0]) (n := 1) (nbq rfl)
  rw [lg_entry_eq]
  generalize (lg_sl ([.ref a0]) ++ List.replicate (1 - (lg_sl ([.ref a0])).length) Slot.unset).toArray = ls at hl ⊢
  have hl : lv_has ls 1 [(0, .ref a0)] := hl
  have C0 : cfx p s m _ meth c cX8_skipBlanks none wsX8_skipBlanks RX8 1 A (dC, dI) (kT cyB cyI cyJ cyP) := ⟨hx, hb, hr, hts, hown, hlocks, hml, hA, hK, hNw⟩
  clear hAe
  obtain ⟨H, hH⟩ : ∃ H, H = s.heap := ⟨_, rfl⟩
  rw [← hH] at hP ⊢
  have hS : va_S A s.heap H [] := by rw [hH]; exact va_S.rf
  have hS := hS
  obtain ⟨n9, hw⟩ := hw
  exact qagN dC dI cyB cyI cyJ cyP a0 jif jl9 jjY jmS jkr jb7 jjA Q C0 n9 _ _ _ jcP hP hD hS (lv_sub hl [0] rfl) hw
theorem qZX : ∀ w ∈ u_ws RX8 TX8 7, w ∈ wsX8_isEnded := uiM qLJ euX8 (by decide +kernel)
theorem qanI : (.fieldLink RX8 28 "MarchHares$Tape" "length" "I" : Cond) ∈ wsX8_isEnded := qLJ 712 (by decide +kernel)
theorem qalD : (.fieldLink RX8 31 "MarchHares$Tape" "at" "I" : Cond) ∈ wsX8_isEnded := qLJ 713 (by decide +kernel)
set_option maxHeartbeats 4000000 in
set_option maxRecDepth 100000 in
theorem qN1 (l : Launch) (dC : Nat → ClassId) (dI : Nat → Nat → Nat) (cyB cyI cyJ cyP : ClassId) (a0 jif sz : Nat) (jl9 jjY jmS jkr : Value) (jb7 : Int32) (jjA : NI) (jcP : Int32) {Q : Int32 → Int32 → Prop} (hw : qzU jb7 jjA jcP Q) : Met l yX8_isEnded wsX8_isEnded ({ frames := 1, cells := 0, slots := 0, locals := 20 }) (va_Pc [.ref a0] (cPc (dC, dI) (kT cyB cyI cyJ cyP) (qwm a0 jif jb7 jcP jl9 jjY jmS jkr jif cyB jjA) sz)) (va_Qi (fun (r u : Int32) => Q r u) (cB (dC, dI) (kT cyB cyI cyJ cyP) (va_A (qwm a0 jif jb7 jcP jl9 jjY jmS jkr jif cyB jjA) sz) (fun u : Int32 => ((qwm a0 jif jb7 u jl9 jjY jmS jkr jif cyB jjA) : va_W))) (va_A (qwm a0 jif jb7 jcP jl9 jjY jmS jkr jif cyB jjA) sz)) 0 0 (va_A (qwm a0 jif jb7 jcP jl9 jjY jmS jkr jif cyB jjA) sz) := by
  refine Met.ofW (cc := cX8_isEnded) (maxL := 1) (ret := (some .boolean)) (by decide) rfl ?_
  intro p e s m args below meth c s₁ B hml hv
  obtain ⟨rfl, hsz, hP, hK, hD0, hNw⟩ := hv
  have hx := B.exec
  have hb := B.bytes
  have hr := B.returns
  have hts := atoms_spec (ws := wsX8_isEnded) B.pre
  have hown : s.vm.findClass RX8 = some m.cls := findClass_of_methodNamed B.named
  have hlocks := B.notSynchronized
  subst hsz
  have hD := hD0.self (sz := s.heap.size)
  generalize hAe : va_A (qwm a0 jif jb7 jcP jl9 jjY jmS jkr jif cyB jjA) s.heap.size = A at hD ⊢
  have hA : ∀ q : Nat, s.heap.size ≤ q → A q := fun q h => by rw [← hAe]; exact Or.inr h
  have hS : va_S A s.heap s.heap [] := va_S.rf
  have hP : va_P (dC, dI) vwCl (qwm a0 jif jb7 jcP jl9 jjY jmS jkr jif cyB jjA) s.heap := hP
  have hl := lv_entry ([.ref a0]) (n := 1) (nbq rfl)
  rw [lg_entry_eq]
  generalize (lg_sl ([.ref a0]) ++ List.replicate (1 - (lg_sl ([.ref a0])).length) Slot.unset).toArray = ls at hl ⊢
  have hl : lv_has ls 1 [(0, .ref a0)] := hl
  have C0 : cfx p s m _ meth c cX8_isEnded (some .boolean) wsX8_isEnded RX8 1 A (dC, dI) (kT cyB cyI cyJ cyP) := ⟨hx, hb, hr, hts, hown, hlocks, hml, hA, hK, hNw⟩
  clear hAe
  obtain ⟨H, hH⟩ : ∃ H, H = s.heap := ⟨_, rfl⟩
  rw [← hH] at hP ⊢
  have hS : va_S A s.heap H [] := by rw [hH]; exact va_S.rf
  have hS := hS
  refine lv_aload_n hx hb (qaa qnT 0 rfl) rfl (lv_at hl 0 rfl) ?_
  obtain ⟨hCc, hPc, hDc, hFc⟩ := qac (ws' := (qwm a0 jif jb7 jcP jl9 jjY jmS jkr jif cyB jjA)) hP hD hS hA [0, 1] (by decide +kernel) rfl
  refine va_callv (va_runV (As := []) (rest := []) ⟨hx, hb, hml, hown, hts⟩ (qwt l dC dI cyB cyI cyJ cyP a0 jif H.size (jl9) (jjY) (jmS) (jkr) jb7 jjA jcP hw) (cwV 0 hts gX8_isEnded_X8_skipBlanks rfl rfl rfl (by decide +kernel) ⟨nbq rfl, nbq rfl⟩) ⟨qab, va_recv (q := (RX8, TX8, 7)) hK hPc (ci := 8) (q0 := 0) rfl rfl, qae hPc hK hDc hNw⟩ rfl rfl hl.1 rfl (lv_room (nbq rfl)) (qaa qnT 1 rfl) ⟨nbq rfl, nbq rfl⟩) hS (fun q _ h => hFc q h) hFc (fun u t H1 locs ht hvm hw hB hz1 hk1 hS => ?_)
  obtain ⟨x1, rfl⟩ : ∃ z, z = u := ⟨_, rfl⟩
  obtain ⟨hP1, hK1, hD1⟩ := hB
  rw [ht] at hP1
  obtain ⟨hP, hD⟩ := qah (wr := []) (w1 := (qwm a0 jif jb7 x1 jl9 jjY jmS jkr jif cyB jjA)) (wn := (qwm a0 jif jb7 x1 jl9 jjY jmS jkr jif cyB jjA)) hP hD [0, 1] [] hCc rfl (by decide +kernel) (by decide +kernel) rfl hk1 hFc hP1 hD1
  generalize H1 = H at hP hS ⊢
  refine lv_aload_n hx hb (qaa qnT 2 rfl) rfl (lv_at hl 0 rfl) ?_
  refine va_get (D := (dC, dI)) (ci := 8) (v := .int x1) (C := RX8) (T := TX8) (N := 7) hx hb hts qZX hown hK hP 0 rfl rfl 2 (by decide) (hts _ qalD) (fun _ h9 => h9) rfl (qaa qnT 3 rfl) ?_
  refine lv_aload_n hx hb (qaa qnT 4 rfl) rfl (lv_at hl 0 rfl) ?_
  refine va_get (D := (dC, dI)) (ci := 8) (v := .int jb7) (C := RX8) (T := TX8) (N := 7) hx hb hts qZX hown hK hP 0 rfl rfl 1 (by decide) (hts _ qanI) (fun _ h9 => h9) rfl (qaa qnT 5 rfl) ?_
  refine lv_icmp_lt (tgt := 19) hx hb (qaa qnT 6 rfl) (by decide) (fun c2 => ?_) (fun c2 => ?_)
  · have hw := hw.1 c2
    refine lv_iconst (v := 0) hx hb (qaa qnT 9 rfl) (by decide) ?_
    exact ((W.zret (v := 0) hx hb hr rfl (fun t ht hW => ⟨⟨0, (x1), rfl, hw, by rw [ht]; exact hP, va_K.moved hW.alike hK, hD⟩, hS.F ht⟩) hS.2.2 (qaa qnT 10 rfl)))
  · have hw := hw.2 c2
    refine lv_iconst (v := 1) hx hb (qaa qnT 7 rfl) (by decide) ?_
    refine lv_goto (tgt := 20) hx hb (qaa qnT 8 rfl) (by decide) ?_
    exact ((W.zret (v := 1) hx hb hr rfl (fun t ht hW => ⟨⟨1, (x1), rfl, hw, by rw [ht]; exact hP, va_K.moved hW.alike hK, hD⟩, hS.F ht⟩) hS.2.2 (qaa qnT 10 rfl)))
theorem qEE : ∀ w ∈ u_ws RX8 TX8 7, w ∈ wsX8_digitAt := uiM q22 euX8 (by decide +kernel)
theorem qJM : (.fieldLink RX8 11 "MarchHares$Tape" "bytes" "[B" : Cond) ∈ wsX8_digitAt := q22 142 (by decide +kernel)
theorem qann : (.fieldLink RX8 28 "MarchHares$Tape" "length" "I" : Cond) ∈ wsX8_digitAt := q22 712 (by decide +kernel)
set_option maxHeartbeats 4000000 in
set_option maxRecDepth 100000 in
theorem qOh (l : Launch) (dC : Nat → ClassId) (dI : Nat → Nat → Nat) (cyB cyI cyJ cyP : ClassId) (a0 jif sz : Nat) (jby jl9 jjY jmS jkr : Value) (jb7 : Int32) (jjA : NI) (p1 : Int32) {Q : Int32 → Prop} (hw : qC5 jb7 jjA p1 Q) : Met l yX8_digitAt wsX8_digitAt ({ frames := 0, cells := 0, slots := 0, locals := 0 }) (va_Pc [.ref a0, .int p1] (cPc (dC, dI) (kT cyB cyI cyJ cyP) (q8y a0 jif jb7 jby jl9 jjY jmS jkr jif cyB jjA) sz)) (va_Qi (fun (r : Int32) (_ : Unit) => Q r ) (cB (dC, dI) (kT cyB cyI cyJ cyP) (va_A (q8y a0 jif jb7 jby jl9 jjY jmS jkr jif cyB jjA) sz) (fun u : Unit => ((q8y a0 jif jb7 jby jl9 jjY jmS jkr jif cyB jjA) : va_W))) (va_A (q8y a0 jif jb7 jby jl9 jjY jmS jkr jif cyB jjA) sz)) 0 0 (va_A (q8y a0 jif jb7 jby jl9 jjY jmS jkr jif cyB jjA) sz) := by
  refine Met.ofW (cc := cX8_digitAt) (maxL := 2) (ret := (some .int)) (by decide) rfl ?_
  intro p e s m args below meth c s₁ B hml hv
  obtain ⟨rfl, hsz, hP, hK, hD0, hNw⟩ := hv
  have hx := B.exec
  have hb := B.bytes
  have hr := B.returns
  have hts := atoms_spec (ws := wsX8_digitAt) B.pre
  have hown : s.vm.findClass RX8 = some m.cls := findClass_of_methodNamed B.named
  have hlocks := B.notSynchronized
  subst hsz
  have hD := hD0.self (sz := s.heap.size)
  generalize hAe : va_A (q8y a0 jif jb7 jby jl9 jjY jmS jkr jif cyB jjA) s.heap.size = A at hD ⊢
  have hA : ∀ q : Nat, s.heap.size ≤ q → A q := fun q h => by rw [← hAe]; exact Or.inr h
  have hS : va_S A s.heap s.heap [] := va_S.rf
  have hP : va_P (dC, dI) vwCl (q8y a0 jif jb7 jby jl9 jjY jmS jkr jif cyB jjA) s.heap := hP
  have hl := lv_entry ([.ref a0, .int p1]) (n := 2) (nbq rfl)
  rw [lg_entry_eq]
  generalize (lg_sl ([.ref a0, .int p1]) ++ List.replicate (2 - (lg_sl ([.ref a0, .int p1])).length) Slot.unset).toArray = ls at hl ⊢
  have hl : lv_has ls 2 [(0, .ref a0), (1, .int p1)] := hl
  have C0 : cfx p s m _ meth c cX8_digitAt (some .int) wsX8_digitAt RX8 2 A (dC, dI) (kT cyB cyI cyJ cyP) := ⟨hx, hb, hr, hts, hown, hlocks, hml, hA, hK, hNw⟩
  clear hAe
  obtain ⟨H, hH⟩ : ∃ H, H = s.heap := ⟨_, rfl⟩
  rw [← hH] at hP ⊢
  have hS : va_S A s.heap H [] := by rw [hH]; exact va_S.rf
  have hS := hS
  refine lv_iload_n hx hb (qaa qhY 0 rfl) rfl (lv_at hl 1 rfl) ?_
  refine lv_aload_n hx hb (qaa qhY 1 rfl) rfl (lv_at hl 0 rfl) ?_
  refine va_get (D := (dC, dI)) (ci := 8) (v := .int jb7) (C := RX8) (T := TX8) (N := 7) hx hb hts qEE hown hK hP 0 rfl rfl 1 (by decide) (hts _ qann) (fun _ h9 => h9) rfl (qaa qhY 2 rfl) ?_
  refine lv_icmp_ge (tgt := 30) hx hb (qaa qhY 3 rfl) (by decide) (fun c1 => ?_) (fun c1 => ?_)
  · have hw := hw.1 c1
    refine lv_iconst (v := (-1)) hx hb (qaa qkG 0 rfl) (by decide) ?_
    exact ((W.iret (v := (-1)) hx hb hr (fun t ht hW => ⟨⟨(-1), (), rfl, hw, by rw [ht]; exact hP, va_K.moved hW.alike hK, hD⟩, hS.F ht⟩) hS.2.2 (qaa qkG 1 rfl)))
  · have hw := hw.2 c1
    refine lv_aload_n hx hb (qaa qhY 4 rfl) rfl (lv_at hl 0 rfl) ?_
    refine va_get (D := (dC, dI)) (ci := 8) (v := .ref jif) (C := RX8) (T := TX8) (N := 7) hx hb hts qEE hown hK hP 0 rfl rfl 0 (by decide) (hts _ qJM) (fun _ h9 => h9) rfl (qaa qhY 5 rfl) ?_
    refine lv_iload_n hx hb (qaa qhY 6 rfl) rfl (lv_at hl 1 rfl) ?_
    obtain ⟨hi9, hw⟩ := hw
    refine va_bald hx hb hK hP 1 0 rfl rfl hi9 (qaa qhY 7 rfl) ?_
    refine lv_topi (fun x2 ex2 => ?_)
    have hw := hw x2 ex2
    refine lv_bipush (v := 48) hx hb (qaa qhY 8 rfl) (by decide) ?_
    refine lv_icmp_lt (tgt := 30) hx hb (qaa qhY 9 rfl) (by decide) (fun c3 => ?_) (fun c3 => ?_)
    · have hw := hw.1 c3
      refine lv_iconst (v := (-1)) hx hb (qaa qkG 0 rfl) (by decide) ?_
      exact ((W.iret (v := (-1)) hx hb hr (fun t ht hW => ⟨⟨(-1), (), rfl, hw, by rw [ht]; exact hP, va_K.moved hW.alike hK, hD⟩, hS.F ht⟩) hS.2.2 (qaa qkG 1 rfl)))
    · have hw := hw.2 c3
      refine lv_aload_n hx hb (qaa qhY 10 rfl) rfl (lv_at hl 0 rfl) ?_
      refine va_get (D := (dC, dI)) (ci := 8) (v := .ref jif) (C := RX8) (T := TX8) (N := 7) hx hb hts qEE hown hK hP 0 rfl rfl 0 (by decide) (hts _ qJM) (fun _ h9 => h9) rfl (qaa qhY 11 rfl) ?_
      refine lv_iload_n hx hb (qaa qhY 12 rfl) rfl (lv_at hl 1 rfl) ?_
      obtain ⟨hi9, hw⟩ := hw
      refine va_bald hx hb hK hP 1 0 rfl rfl hi9 (qaa qhY 13 rfl) ?_
      refine lv_topi (fun x4 ex4 => ?_)
      have hw := hw x4 ex4
      refine lv_bipush (v := 57) hx hb (qaa qhY 14 rfl) (by decide) ?_
      refine lv_icmp_le (tgt := 32) hx hb (qaa qhY 15 rfl) (by decide) (fun c5 => ?_) (fun c5 => ?_)
      · have hw := hw.1 c5
        refine lv_aload_n hx hb (qaa qkG 2 rfl) rfl (lv_at hl 0 rfl) ?_
        refine va_get (D := (dC, dI)) (ci := 8) (v := .ref jif) (C := RX8) (T := TX8) (N := 7) hx hb hts qEE hown hK hP 0 rfl rfl 0 (by decide) (hts _ qJM) (fun _ h9 => h9) rfl (qaa qkG 3 rfl) ?_
        refine lv_iload_n hx hb (qaa qkG 4 rfl) rfl (lv_at hl 1 rfl) ?_
        obtain ⟨hi9, hw⟩ := hw
        refine va_bald hx hb hK hP 1 0 rfl rfl hi9 (qaa qkG 5 rfl) ?_
        refine lv_topi (fun x6 ex6 => ?_)
        have hw := hw x6 ex6
        refine lv_bipush (v := 48) hx hb (qaa qkG 6 rfl) (by decide) ?_
        refine lv_isub hx hb (qaa qkG 7 rfl) ?_
        exact ((W.iret (v := (x6 - 48)) hx hb hr (fun t ht hW => ⟨⟨(x6 - 48), (), rfl, hw, by rw [ht]; exact hP, va_K.moved hW.alike hK, hD⟩, hS.F ht⟩) hS.2.2 (qaa qkG 8 rfl)))
      · have hw := hw.2 c5
        refine lv_iconst (v := (-1)) hx hb (qaa qkG 0 rfl) (by decide) ?_
        exact ((W.iret (v := (-1)) hx hb hr (fun t ht hW => ⟨⟨(-1), (), rfl, hw, by rw [ht]; exact hP, va_K.moved hW.alike hK, hD⟩, hS.F ht⟩) hS.2.2 (qaa qkG 1 rfl)))
theorem qTg : ∀ w ∈ u_ws RX8 TX8 7, w ∈ wsX8_blame := uiM qaio euX8 (by decide +kernel)
theorem qawa : (.fieldLink RX8 15 "MarchHares$Tape" "faultPlace" "I" : Cond) ∈ wsX8_blame := qaio 143 (by decide +kernel)
theorem q1x : (.fieldLink RX8 37 "MarchHares$Tape" "fault" "I" : Cond) ∈ wsX8_blame := qaio 715 (by decide +kernel)
set_option maxHeartbeats 4000000 in
set_option maxRecDepth 100000 in
theorem qXo (l : Launch) (dC : Nat → ClassId) (dI : Nat → Nat → Nat) (cyB cyI cyJ cyP : ClassId) (a0 sz : Nat) (jn7 jjf jby jl9 jjY : Value) (jkC jj3 p1 p2 : Int32) {Q : Int32 → Int32 → Prop} (hw : qKe jkC jj3 p1 p2 Q) : Met l yX8_blame wsX8_blame ({ frames := 0, cells := 0, slots := 0, locals := 0 }) (va_Pc [.ref a0, .int p1, .int p2] (cPc (dC, dI) (kT cyB cyI cyJ cyP) (qPH a0 jn7 jjf jby jl9 jjY jkC jj3) sz)) (va_Qv (fun (u : Int32 × Int32) => Q u.1 u.2) (cB (dC, dI) (kT cyB cyI cyJ cyP) (va_A (qPH a0 jn7 jjf jby jl9 jjY jkC jj3) sz) (fun u : Int32 × Int32 => ((qPH a0 jn7 jjf jby jl9 jjY u.1 u.2) : va_W))) (va_A (qPH a0 jn7 jjf jby jl9 jjY jkC jj3) sz)) 0 0 (va_A (qPH a0 jn7 jjf jby jl9 jjY jkC jj3) sz) := by
  refine Met.ofW (cc := cX8_blame) (maxL := 3) (ret := none) (by decide) rfl ?_
  intro p e s m args below meth c s₁ B hml hv
  obtain ⟨rfl, hsz, hP, hK, hD0, hNw⟩ := hv
  have hx := B.exec
  have hb := B.bytes
  have hr := B.returns
  have hts := atoms_spec (ws := wsX8_blame) B.pre
  have hown : s.vm.findClass RX8 = some m.cls := findClass_of_methodNamed B.named
  have hlocks := B.notSynchronized
  subst hsz
  have hD := hD0.self (sz := s.heap.size)
  generalize hAe : va_A (qPH a0 jn7 jjf jby jl9 jjY jkC jj3) s.heap.size = A at hD ⊢
  have hA : ∀ q : Nat, s.heap.size ≤ q → A q := fun q h => by rw [← hAe]; exact Or.inr h
  have hS : va_S A s.heap s.heap [] := va_S.rf
  have hP : va_P (dC, dI) vwCl (qPH a0 jn7 jjf jby jl9 jjY jkC jj3) s.heap := hP
  have hl := lv_entry ([.ref a0, .int p1, .int p2]) (n := 3) (nbq rfl)
  rw [lg_entry_eq]
  generalize (lg_sl ([.ref a0, .int p1, .int p2]) ++ List.replicate (3 - (lg_sl ([.ref a0, .int p1, .int p2])).length) Slot.unset).toArray = ls at hl ⊢
  have hl : lv_has ls 3 [(0, .ref a0), (1, .int p1), (2, .int p2)] := hl
  have C0 : cfx p s m _ meth c cX8_blame none wsX8_blame RX8 3 A (dC, dI) (kT cyB cyI cyJ cyP) := ⟨hx, hb, hr, hts, hown, hlocks, hml, hA, hK, hNw⟩
  clear hAe
  obtain ⟨H, hH⟩ : ∃ H, H = s.heap := ⟨_, rfl⟩
  rw [← hH] at hP ⊢
  have hS : va_S A s.heap H [] := by rw [hH]; exact va_S.rf
  have hS := hS
  refine lv_aload_n hx hb (qaa qr8 0 rfl) rfl (lv_at hl 0 rfl) ?_
  refine va_get (D := (dC, dI)) (ci := 8) (v := .int jkC) (C := RX8) (T := TX8) (N := 7) hx hb hts qTg hown hK hP 0 rfl rfl 5 (by decide) (hts _ q1x) (fun _ h9 => h9) rfl (qaa qr8 1 rfl) ?_
  refine lv_if_ne (tgt := 17) hx hb (qaa qr8 2 rfl) (by decide) (fun c1 => ?_) (fun c1 => ?_)
  · have hw := hw.1 c1
    exact ((W.vret hx hb hr (fun t ht hW => ⟨⟨(jkC, jj3), rfl, hw, by rw [ht]; exact hP, va_K.moved hW.alike hK, hD⟩, hS.F ht⟩) hS.2.2 (qaa qr8 9 rfl)))
  · have hw := hw.2 c1
    refine lv_aload_n hx hb (qaa qr8 3 rfl) rfl (lv_at hl 0 rfl) ?_
    refine lv_iload_n hx hb (qaa qr8 4 rfl) rfl (lv_at hl 1 rfl) ?_
    refine va_put (D := (dC, dI)) (ci := 8) (v := .int p1) (ty := .int) (C := RX8) (T := TX8) (N := 7) hx hb hts qTg tyX8 tyX8_ok nmX8 hown hK hP hD hS 0 rfl rfl 5 (by decide) (hts _ q1x) (fun _ h9 => h9) rfl (by decide +kernel) rfl rfl (nbq rfl) (qaa qr8 5 rfl) (fun H locs hP hD hS => ?_)
    have hP : va_P (dC, dI) vwCl (qPH a0 jn7 jjf jby jl9 jjY p1 jj3) H := hP
    have hD : va_D A (qPH a0 jn7 jjf jby jl9 jjY p1 jj3) := hD
    refine lv_aload_n hx hb (qaa qr8 6 rfl) rfl (lv_at hl 0 rfl) ?_
    refine lv_iload_n hx hb (qaa qr8 7 rfl) rfl (lv_at hl 2 rfl) ?_
    refine va_put (D := (dC, dI)) (ci := 8) (v := .int p2) (ty := .int) (C := RX8) (T := TX8) (N := 7) hx hb hts qTg tyX8 tyX8_ok nmX8 hown hK hP hD hS 0 rfl rfl 6 (by decide) (hts _ qawa) (fun _ h9 => h9) rfl (by decide +kernel) rfl rfl (nbq rfl) (qaa qr8 8 rfl) (fun H locs hP hD hS => ?_)
    have hP : va_P (dC, dI) vwCl (qPH a0 jn7 jjf jby jl9 jjY p1 p2) H := hP
    have hD : va_D A (qPH a0 jn7 jjf jby jl9 jjY p1 p2) := hD
    exact ((W.vret hx hb hr (fun t ht hW => ⟨⟨(p1, p2), rfl, hw, by rw [ht]; exact hP, va_K.moved hW.alike hK, hD⟩, hS.F ht⟩) hS.2.2 (qaa qr8 9 rfl)))
theorem qo3 : ∀ w ∈ u_ws RX8 TX8 7, w ∈ wsX8_number := uiM qne euX8 (by decide +kernel)
theorem qaoY : (.fieldLink RX8 28 "MarchHares$Tape" "length" "I" : Cond) ∈ wsX8_number := qne 712 (by decide +kernel)
theorem qsJ : (.fieldLink RX8 31 "MarchHares$Tape" "at" "I" : Cond) ∈ wsX8_number := qne 713 (by decide +kernel)
theorem qYY : (.fieldLink RX8 34 "MarchHares$Tape" "token" "I" : Cond) ∈ wsX8_number := qne 714 (by decide +kernel)
theorem q66 : (.initialized RX10 : Cond) ∈ wsX8_number := qne 2 (by decide +kernel)
theorem qakF : (.initialized "java/lang/Math" : Cond) ∈ wsX8_number := qne 651 (by decide +kernel)
theorem qaoS : (.constant RX8 78 (100000) : Cond) ∈ wsX8_number := qne 973 (by decide +kernel)
theorem qarQ : (.methodLink RX8 22 Lib.Math.min.name : Cond) ∈ wsX8_number := qne 711 (by decide +kernel)
theorem qafy : (.code Lib.Math.min.name Lib.Math.min.code 2 (some .int) : Cond) ∈ wsX8_number := qne 652 (by decide +kernel)
theorem qafO : (.static Lib.Math.min.name : Cond) ∈ wsX8_number := qne 650 (by decide +kernel)
theorem qTI : (.static yX10_within : Cond) ∈ wsX8_number := qne 658 (by decide +kernel)
set_option maxHeartbeats 4000000 in
set_option maxRecDepth 100000 in
theorem q1H {p : Program} {l : Launch} {e : Env} {s : State} {m : MethodId} {args : Array Value} {below : List Frame} {meth : Method} {c : Code} {A : Nat → Prop} (dC : Nat → ClassId) (dI : Nat → Nat → Nat) (cyB cyI cyJ cyP : ClassId) (a0 jif : Nat) (jjY : Value) (jb7 : Int32) (jjA : NI) (Q : Int32 → Int32 → Int32 → Int32 → Int32 → Prop) (C0 : cfx p s m args meth c cX8_number (some .int) wsX8_number RX8 4 A (dC, dI) (kT cyB cyI cyJ cyP)) : ∀ (H : Heap) (locs : List Loc) (ls : Array Slot) (jcP jkC jj3 jlr l1 l2 l3 : Int32), va_P (dC, dI) vwCl (qdL a0 jif jb7 jcP jlr jjY jkC jj3 jif cyB jjA) H → va_D A (qdL a0 jif jb7 jcP jlr jjY jkC jj3 jif cyB jjA) → va_S A s.heap H locs → lv_has ls 4 [(0, .ref a0), (1, .int l1), (2, .int l2), (3, .int l3)] → qBA jb7 jjA Q jcP jkC jj3 jlr l1 l2 l3 → W p l e (headSpec wsX8_number ({ frames := 1, cells := 0, slots := 0, locals := 32 })).room s m args below meth c H locs 0 0 (MQ below (va_Qi (fun (r : Int32) (u : Int32 × Int32 × Int32 × Int32) => Q r u.1 u.2.1 u.2.2.1 u.2.2.2) (cB (dC, dI) (kT cyB cyI cyJ cyP) A (fun u : Int32 × Int32 × Int32 × Int32 => ((qdL a0 jif jb7 u.1 u.2.2.2 jjY u.2.1 u.2.2.1 jif cyB jjA) : va_W))) A) args s 0 0 A) (F0 m 97 ls []) := by
  obtain ⟨hx, hb, hr, hts, hown, hlocks, hml, hA, hK, hNw⟩ := id C0
  intro H locs ls jcP jkC jj3 jlr l1 l2 l3 hP hD hS hl hw
  refine lv_iload_n hx hb (qaa qge 3 rfl) rfl (lv_at hl 3 rfl) ?_
  refine lv_iload_n hx hb (qaa qge 4 rfl) rfl (lv_at hl 1 rfl) ?_
  refine lv_iload_n hx hb (qaa qge 5 rfl) rfl (lv_at hl 2 rfl) ?_
  obtain ⟨hCc, hPc, hDc, hFc⟩ := qac (ws' := []) hP hD hS hA [] (by decide +kernel) rfl
  refine va_calli (va_runSN (As := [.int l3, .int l1, .int l2]) (rest := []) ⟨hx, hb, hml, hown, hts⟩ (qzC l dC dI cyB cyI cyJ cyP H.size l3 l1 l2 hw) ⟨(va_cnB 3 hts gX8_number_X10_within_n79 rfl rfl rfl (qbmY hNw) (hts _ q66) (by decide +kernel) ⟨nbq rfl, nbq rfl⟩), (hts _ qTI), trivial⟩ ⟨qab, qae hPc hK hDc hNw⟩ rfl rfl hl.1 rfl (lv_room (nbq rfl)) (qaa qge 6 rfl) ⟨nbq rfl, nbq rfl⟩) hS (fun q _ h => hFc q h) hFc (fun r14 u t H1 locs ht hvm hw hB hz1 hk1 hS => ?_)
  obtain ⟨hP1, hK1, hD1⟩ := hB
  rw [ht] at hP1
  obtain ⟨hP, hD⟩ := qah (wr := (qdL a0 jif jb7 jcP jlr jjY jkC jj3 jif cyB jjA)) (w1 := []) (wn := (qdL a0 jif jb7 jcP jlr jjY jkC jj3 jif cyB jjA)) hP hD [] [0, 1] hCc rfl (by decide +kernel) (by decide +kernel) rfl hk1 hFc hP1 hD1
  generalize H1 = H at hP hS ⊢
  refine lv_if_ne (tgt := 115) hx hb (qaa qge 7 rfl) (by decide) (fun c15 => ?_) (fun c15 => ?_)
  · have hw := hw.1 c15
    refine lv_iload_n hx hb (qaa qge 13 rfl) rfl (lv_at hl 3 rfl) ?_
    exact ((W.iret (v := l3) hx hb hr (fun t ht hW => ⟨⟨l3, (jcP, jkC, jj3, jlr), rfl, hw, by rw [ht]; exact hP, va_K.moved hW.alike hK, hD⟩, hS.F ht⟩) hS.2.2 (qaa qge 14 rfl)))
  · have hw := hw.2 c15
    refine lv_aload_n hx hb (qaa qge 8 rfl) rfl (lv_at hl 0 rfl) ?_
    refine lv_iconst (v := 2) hx hb (qaa qge 9 rfl) (by decide) ?_
    refine lv_aload_n hx hb (qaa qge 10 rfl) rfl (lv_at hl 0 rfl) ?_
    refine va_get (D := (dC, dI)) (ci := 8) (v := .int jlr) (C := RX8) (T := TX8) (N := 7) hx hb hts qo3 hown hK hP 0 rfl rfl 3 (by decide) (hts _ qYY) (fun _ h9 => h9) rfl (qaa qge 11 rfl) ?_
    obtain ⟨hCc, hPc, hDc, hFc⟩ := qac (ws' := (qL0 a0 jif jb7 jcP jlr jjY jkC jj3)) hP hD hS hA [0] (by decide +kernel) rfl
    refine va_callv (va_runV (As := [.int 2, .int jlr]) (rest := []) ⟨hx, hb, hml, hown, hts⟩ (qXo l dC dI cyB cyI cyJ cyP a0 H.size (.ref jif) (.int jb7) (.int jcP) (.int jlr) (jjY) jkC jj3 2 jlr hw) (cwV 2 hts gX8_number_X8_blame rfl rfl rfl (by decide +kernel) ⟨nbq rfl, nbq rfl⟩) ⟨qab, va_recv (q := (RX8, TX8, 7)) hK hPc (ci := 8) (q0 := 0) rfl rfl, qae hPc hK hDc hNw⟩ rfl rfl hl.1 rfl (lv_room (nbq rfl)) (qaa qge 12 rfl) ⟨nbq rfl, nbq rfl⟩) hS (fun q _ h => hFc q h) hFc (fun u t H1 locs ht hvm hw hB hz1 hk1 hS => ?_)
    obtain ⟨x16, x17⟩ := u
    obtain ⟨hP1, hK1, hD1⟩ := hB
    rw [ht] at hP1
    obtain ⟨hP, hD⟩ := qad (wr := (qaCm jif cyB jjA)) (w1 := (qL0 a0 jif jb7 jcP jlr jjY x16 x17)) (wn := (qdL a0 jif jb7 jcP jlr jjY x16 x17 jif cyB jjA)) hP hD [0] [1] [1, 0] hCc rfl (by decide +kernel) (by decide +kernel) (by decide +kernel) rfl hk1 hFc hP1 hD1
    generalize H1 = H at hP hS ⊢
    refine lv_iload_n hx hb (qaa qge 13 rfl) rfl (lv_at hl 3 rfl) ?_
    exact ((W.iret (v := l3) hx hb hr (fun t ht hW => ⟨⟨l3, (jcP, x16, x17, jlr), rfl, hw, by rw [ht]; exact hP, va_K.moved hW.alike hK, hD⟩, hS.F ht⟩) hS.2.2 (qaa qge 14 rfl)))
set_option maxHeartbeats 4000000 in
set_option maxRecDepth 100000 in
theorem qaAG {p : Program} {l : Launch} {e : Env} {s : State} {m : MethodId} {args : Array Value} {below : List Frame} {meth : Method} {c : Code} {A : Nat → Prop} (dC : Nat → ClassId) (dI : Nat → Nat → Nat) (cyB cyI cyJ cyP : ClassId) (a0 jif : Nat) (jjY : Value) (jb7 : Int32) (jjA : NI) (Q : Int32 → Int32 → Int32 → Int32 → Int32 → Prop) (C0 : cfx p s m args meth c cX8_number (some .int) wsX8_number RX8 4 A (dC, dI) (kT cyB cyI cyJ cyP)) : ∀ (n : Nat) (H : Heap) (locs : List Loc) (ls : Array Slot) (jcP jkC jj3 jlr l1 l2 l3 : Int32), va_P (dC, dI) vwCl (qdL a0 jif jb7 jcP jlr jjY jkC jj3 jif cyB jjA) H → va_D A (qdL a0 jif jb7 jcP jlr jjY jkC jj3 jif cyB jjA) → va_S A s.heap H locs → lv_has ls 4 [(0, .ref a0), (1, .int l1), (2, .int l2), (3, .int l3)] → qId jb7 jjA Q n jcP jkC jj3 jlr l1 l2 l3 → W p l e (headSpec wsX8_number ({ frames := 1, cells := 0, slots := 0, locals := 32 })).room s m args below meth c H locs 0 0 (MQ below (va_Qi (fun (r : Int32) (u : Int32 × Int32 × Int32 × Int32) => Q r u.1 u.2.1 u.2.2.1 u.2.2.2) (cB (dC, dI) (kT cyB cyI cyJ cyP) A (fun u : Int32 × Int32 × Int32 × Int32 => ((qdL a0 jif jb7 u.1 u.2.2.2 jjY u.2.1 u.2.2.1 jif cyB jjA) : va_W))) A) args s 0 0 A) (F0 m 43 ls []) := by
  obtain ⟨hx, hb, hr, hts, hown, hlocks, hml, hA, hK, hNw⟩ := id C0
  intro n
  induction n with
  | zero => intro H locs ls jcP jkC jj3 jlr l1 l2 l3 hP hD hS hl hw; exact False.elim hw
  | succ n ih =>
    intro H locs ls jcP jkC jj3 jlr l1 l2 l3 hP hD hS hl hw
    refine lv_aload_n hx hb (qaa qhp 7 rfl) rfl (lv_at hl 0 rfl) ?_
    refine va_get (D := (dC, dI)) (ci := 8) (v := .int jcP) (C := RX8) (T := TX8) (N := 7) hx hb hts qo3 hown hK hP 0 rfl rfl 2 (by decide) (hts _ qsJ) (fun _ h9 => h9) rfl (qaa qhp 8 rfl) ?_
    refine lv_aload_n hx hb (qaa qhp 9 rfl) rfl (lv_at hl 0 rfl) ?_
    refine va_get (D := (dC, dI)) (ci := 8) (v := .int jb7) (C := RX8) (T := TX8) (N := 7) hx hb hts qo3 hown hK hP 0 rfl rfl 1 (by decide) (hts _ qaoY) (fun _ h9 => h9) rfl (qaa qhp 10 rfl) ?_
    refine lv_icmp_ge (tgt := 97) hx hb (qaa qhp 11 rfl) (by decide) (fun c8 => ?_) (fun c8 => ?_)
    · have hw := hw.1 c8
      exact q1H dC dI cyB cyI cyJ cyP a0 jif jjY jb7 jjA Q C0 _ _ _ jcP jkC jj3 jlr l1 l2 l3 hP hD hS (lv_sub hl [0, 1, 2, 3] rfl) hw
    · have hw := hw.2 c8
      refine lv_aload_n hx hb (qaa qhp 12 rfl) rfl (lv_at hl 0 rfl) ?_
      refine lv_aload_n hx hb (qaa qhp 13 rfl) rfl (lv_at hl 0 rfl) ?_
      refine va_get (D := (dC, dI)) (ci := 8) (v := .int jcP) (C := RX8) (T := TX8) (N := 7) hx hb hts qo3 hown hK hP 0 rfl rfl 2 (by decide) (hts _ qsJ) (fun _ h9 => h9) rfl (qaa qhp 14 rfl) ?_
      obtain ⟨hCc, hPc, hDc, hFc⟩ := qac (ws' := (qdL a0 jif jb7 jcP jlr jjY jkC jj3 jif cyB jjA)) hP hD hS hA [0, 1] (by decide +kernel) rfl
      refine va_calli (va_runV (As := [.int jcP]) (rest := []) ⟨hx, hb, hml, hown, hts⟩ (qOh l dC dI cyB cyI cyJ cyP a0 jif H.size (.int jcP) (.int jlr) (jjY) (.int jkC) (.int jj3) jb7 jjA jcP hw) (cwV 1 hts gX8_number_X8_digitAt rfl rfl rfl (by decide +kernel) ⟨nbq rfl, nbq rfl⟩) ⟨qab, va_recv (q := (RX8, TX8, 7)) hK hPc (ci := 8) (q0 := 0) rfl rfl, qae hPc hK hDc hNw⟩ rfl rfl hl.1 rfl (lv_room (nbq rfl)) (qaa qhp 15 rfl) ⟨nbq rfl, nbq rfl⟩) hS (fun q _ h => hFc q h) hFc (fun r9 u t H1 locs ht hvm hw hB hz1 hk1 hS => ?_)
      obtain ⟨hP1, hK1, hD1⟩ := hB
      rw [ht] at hP1
      obtain ⟨hP, hD⟩ := qah (wr := []) (w1 := (qdL a0 jif jb7 jcP jlr jjY jkC jj3 jif cyB jjA)) (wn := (qdL a0 jif jb7 jcP jlr jjY jkC jj3 jif cyB jjA)) hP hD [0, 1] [] hCc rfl (by decide +kernel) (by decide +kernel) rfl hk1 hFc hP1 hD1
      generalize H1 = H at hP hS ⊢
      refine lv_if_lt (tgt := 97) hx hb (qaa qhz 0 rfl) (by decide) (fun c10 => ?_) (fun c10 => ?_)
      · have hw := hw.1 c10
        exact q1H dC dI cyB cyI cyJ cyP a0 jif jjY jb7 jjA Q C0 _ _ _ jcP jkC jj3 jlr l1 l2 l3 hP hD hS (lv_sub hl [0, 1, 2, 3] rfl) hw
      · have hw := hw.2 c10
        refine lv_ldc (v := 100000) hx hb hown (hts _ qaoS) (qaa qhz 1 rfl) ?_
        refine lv_iload_n hx hb (qaa qhz 2 rfl) rfl (lv_at hl 3 rfl) ?_
        refine lv_bipush (v := 10) hx hb (qaa qhz 3 rfl) (by decide) ?_
        refine lv_imul hx hb (qaa qhz 4 rfl) ?_
        refine lv_aload_n hx hb (qaa qhz 5 rfl) rfl (lv_at hl 0 rfl) ?_
        refine lv_aload_n hx hb (qaa qhz 6 rfl) rfl (lv_at hl 0 rfl) ?_
        refine va_get (D := (dC, dI)) (ci := 8) (v := .int jcP) (C := RX8) (T := TX8) (N := 7) hx hb hts qo3 hown hK hP 0 rfl rfl 2 (by decide) (hts _ qsJ) (fun _ h9 => h9) rfl (qaa qhz 7 rfl) ?_
        obtain ⟨hCc, hPc, hDc, hFc⟩ := qac (ws' := (qdL a0 jif jb7 jcP jlr jjY jkC jj3 jif cyB jjA)) hP hD hS hA [0, 1] (by decide +kernel) rfl
        refine va_calli (va_runV (As := [.int jcP]) (rest := [.int (l3 * 10), .int 100000]) ⟨hx, hb, hml, hown, hts⟩ (qOh l dC dI cyB cyI cyJ cyP a0 jif H.size (.int jcP) (.int jlr) (jjY) (.int jkC) (.int jj3) jb7 jjA jcP hw) (cwV 1 hts gX8_number_X8_digitAt rfl rfl rfl (by decide +kernel) ⟨nbq rfl, nbq rfl⟩) ⟨qab, va_recv (q := (RX8, TX8, 7)) hK hPc (ci := 8) (q0 := 0) rfl rfl, qae hPc hK hDc hNw⟩ rfl rfl hl.1 rfl (lv_room (nbq rfl)) (qaa qhz 8 rfl) ⟨nbq rfl, nbq rfl⟩) hS (fun q _ h => hFc q h) hFc (fun r11 u t H1 locs ht hvm hw hB hz1 hk1 hS => ?_)
        obtain ⟨hP1, hK1, hD1⟩ := hB
        rw [ht] at hP1
        obtain ⟨hP, hD⟩ := qah (wr := []) (w1 := (qdL a0 jif jb7 jcP jlr jjY jkC jj3 jif cyB jjA)) (wn := (qdL a0 jif jb7 jcP jlr jjY jkC jj3 jif cyB jjA)) hP hD [0, 1] [] hCc rfl (by decide +kernel) (by decide +kernel) rfl hk1 hFc hP1 hD1
        generalize H1 = H at hP hS ⊢
        refine lv_iadd hx hb (qaa qhz 9 rfl) ?_
        refine va_mmin hx hb (by rw [hml]; exact hl.1.symm) hown (hts _ qarQ) (hts _ qafO) (hts _ qakF) (hts _ qafy) (nbq rfl) (nbq rfl) (nbq rfl) (nbq rfl) (qaa qhz 10 rfl) ?_
        refine lv_topi (fun x12 ex12 => ?_)
        have hw := hw x12 ex12
        refine lv_istore_n (lv' := [(3, .int x12), (0, .ref a0), (1, .int l1), (2, .int l2)]) hx hb (qaa qhz 11 rfl) rfl hl (by decide) rfl (fun ls hl => ?_)
        refine lv_aload_n hx hb (qaa qhz 12 rfl) rfl (lv_at hl 1 rfl) ?_
        refine lv_dup hx hb (qaa qhz 13 rfl) rfl ?_
        refine va_get (D := (dC, dI)) (ci := 8) (v := .int jcP) (C := RX8) (T := TX8) (N := 7) hx hb hts qo3 hown hK hP 0 rfl rfl 2 (by decide) (hts _ qsJ) (fun _ h9 => h9) rfl (qaa qhz 14 rfl) ?_
        refine lv_iconst (v := 1) hx hb (qaa qhz 15 rfl) (by decide) ?_
        refine lv_iadd hx hb (qaa qge 0 rfl) ?_
        refine lv_topi (fun x13 ex13 => ?_)
        have hw := hw x13 ex13
        refine va_put (D := (dC, dI)) (ci := 8) (v := .int x13) (ty := .int) (C := RX8) (T := TX8) (N := 7) hx hb hts qo3 tyX8 tyX8_ok nmX8 hown hK hP hD hS 0 rfl rfl 2 (by decide) (hts _ qsJ) (fun _ h9 => h9) rfl (by decide +kernel) rfl rfl (nbq rfl) (qaa qge 1 rfl) (fun H locs hP hD hS => ?_)
        have hP : va_P (dC, dI) vwCl (qdL a0 jif jb7 x13 jlr jjY jkC jj3 jif cyB jjA) H := hP
        have hD : va_D A (qdL a0 jif jb7 x13 jlr jjY jkC jj3 jif cyB jjA) := hD
        refine lv_goto (tgt := 43) hx hb (qaa qge 2 rfl) (by decide) ?_
        exact ih _ _ _ x13 jkC jj3 jlr l1 l2 x12 hP hD hS (lv_sub hl [1, 2, 3, 0] rfl) hw
set_option maxHeartbeats 4000000 in
set_option maxRecDepth 100000 in
theorem q1m {p : Program} {l : Launch} {e : Env} {s : State} {m : MethodId} {args : Array Value} {below : List Frame} {meth : Method} {c : Code} {A : Nat → Prop} (dC : Nat → ClassId) (dI : Nat → Nat → Nat) (cyB cyI cyJ cyP : ClassId) (a0 jif : Nat) (jjY : Value) (jb7 : Int32) (jjA : NI) (Q : Int32 → Int32 → Int32 → Int32 → Int32 → Prop) (C0 : cfx p s m args meth c cX8_number (some .int) wsX8_number RX8 4 A (dC, dI) (kT cyB cyI cyJ cyP)) : ∀ (H : Heap) (locs : List Loc) (ls : Array Slot) (jcP jkC jj3 jlr l1 l2 : Int32), va_P (dC, dI) vwCl (qdL a0 jif jb7 jcP jlr jjY jkC jj3 jif cyB jjA) H → va_D A (qdL a0 jif jb7 jcP jlr jjY jkC jj3 jif cyB jjA) → va_S A s.heap H locs → lv_has ls 4 [(0, .ref a0), (1, .int l1), (2, .int l2)] → qQC jb7 jjA Q jcP jkC jj3 jlr l1 l2 → W p l e (headSpec wsX8_number ({ frames := 1, cells := 0, slots := 0, locals := 32 })).room s m args below meth c H locs 0 0 (MQ below (va_Qi (fun (r : Int32) (u : Int32 × Int32 × Int32 × Int32) => Q r u.1 u.2.1 u.2.2.1 u.2.2.2) (cB (dC, dI) (kT cyB cyI cyJ cyP) A (fun u : Int32 × Int32 × Int32 × Int32 => ((qdL a0 jif jb7 u.1 u.2.2.2 jjY u.2.1 u.2.2.1 jif cyB jjA) : va_W))) A) args s 0 0 A) (F0 m 24 ls []) := by
  obtain ⟨hx, hb, hr, hts, hown, hlocks, hml, hA, hK, hNw⟩ := id C0
  intro H locs ls jcP jkC jj3 jlr l1 l2 hP hD hS hl hw
  refine lv_aload_n hx hb (qaa qjt 12 rfl) rfl (lv_at hl 0 rfl) ?_
  obtain ⟨hCc, hPc, hDc, hFc⟩ := qac (ws' := (qL0 a0 jif jb7 jcP jlr jjY jkC jj3)) hP hD hS hA [0] (by decide +kernel) rfl
  refine va_calli (va_runV (As := []) (rest := []) ⟨hx, hb, hml, hown, hts⟩ (qkj l dC dI cyB cyI cyJ cyP a0 H.size (.ref jif) (.int jb7) (.int jcP) (.int jlr) (jjY) (.int jj3) jkC hw) (cwV 0 hts gX8_number_X8_isFaulty rfl rfl rfl (by decide +kernel) ⟨nbq rfl, nbq rfl⟩) ⟨qab, va_recv (q := (RX8, TX8, 7)) hK hPc (ci := 8) (q0 := 0) rfl rfl, qae hPc hK hDc hNw⟩ rfl rfl hl.1 rfl (lv_room (nbq rfl)) (qaa qjt 13 rfl) ⟨nbq rfl, nbq rfl⟩) hS (fun q _ h => hFc q h) hFc (fun r6 u t H1 locs ht hvm hw hB hz1 hk1 hS => ?_)
  obtain ⟨hP1, hK1, hD1⟩ := hB
  rw [ht] at hP1
  obtain ⟨hP, hD⟩ := qad (wr := (qaCm jif cyB jjA)) (w1 := (qL0 a0 jif jb7 jcP jlr jjY jkC jj3)) (wn := (qdL a0 jif jb7 jcP jlr jjY jkC jj3 jif cyB jjA)) hP hD [0] [1] [1, 0] hCc rfl (by decide +kernel) (by decide +kernel) (by decide +kernel) rfl hk1 hFc hP1 hD1
  generalize H1 = H at hP hS ⊢
  refine lv_if_eq (tgt := 33) hx hb (qaa qjt 14 rfl) (by decide) (fun c7 => ?_) (fun c7 => ?_)
  · have hw := hw.1 c7
    refine lv_aload_n hx hb (qaa qhp 1 rfl) rfl (lv_at hl 0 rfl) ?_
    refine lv_aload_n hx hb (qaa qhp 2 rfl) rfl (lv_at hl 0 rfl) ?_
    refine va_get (D := (dC, dI)) (ci := 8) (v := .int jcP) (C := RX8) (T := TX8) (N := 7) hx hb hts qo3 hown hK hP 0 rfl rfl 2 (by decide) (hts _ qsJ) (fun _ h9 => h9) rfl (qaa qhp 3 rfl) ?_
    refine va_put (D := (dC, dI)) (ci := 8) (v := .int jcP) (ty := .int) (C := RX8) (T := TX8) (N := 7) hx hb hts qo3 tyX8 tyX8_ok nmX8 hown hK hP hD hS 0 rfl rfl 3 (by decide) (hts _ qYY) (fun _ h9 => h9) rfl (by decide +kernel) rfl rfl (nbq rfl) (qaa qhp 4 rfl) (fun H locs hP hD hS => ?_)
    have hP : va_P (dC, dI) vwCl (qdL a0 jif jb7 jcP jcP jjY jkC jj3 jif cyB jjA) H := hP
    have hD : va_D A (qdL a0 jif jb7 jcP jcP jjY jkC jj3 jif cyB jjA) := hD
    refine lv_iconst (v := 0) hx hb (qaa qhp 5 rfl) (by decide) ?_
    refine lv_istore_n (lv' := [(3, .int 0), (0, .ref a0), (1, .int l1), (2, .int l2)]) hx hb (qaa qhp 6 rfl) rfl hl (by decide) rfl (fun ls hl => ?_)
    obtain ⟨n9, hw⟩ := hw
    exact qaAG dC dI cyB cyI cyJ cyP a0 jif jjY jb7 jjA Q C0 n9 _ _ _ jcP jkC jj3 jcP l1 l2 0 hP hD hS (lv_sub hl [1, 2, 3, 0] rfl) hw
  · have hw := hw.2 c7
    refine lv_iconst (v := 0) hx hb (qaa qjt 15 rfl) (by decide) ?_
    exact ((W.iret (v := 0) hx hb hr (fun t ht hW => ⟨⟨0, (jcP, jkC, jj3, jlr), rfl, hw, by rw [ht]; exact hP, va_K.moved hW.alike hK, hD⟩, hS.F ht⟩) hS.2.2 (qaa qhp 0 rfl)))
set_option maxHeartbeats 4000000 in
set_option maxRecDepth 100000 in
theorem qh9 (l : Launch) (dC : Nat → ClassId) (dI : Nat → Nat → Nat) (cyB cyI cyJ cyP : ClassId) (a0 jif sz : Nat) (jjY : Value) (jb7 : Int32) (jjA : NI) (jcP jkC jj3 jlr p1 p2 : Int32) {Q : Int32 → Int32 → Int32 → Int32 → Int32 → Prop} (hw : qe2 jb7 jjA jcP jkC jj3 jlr p1 p2 Q) : Met l yX8_number wsX8_number ({ frames := 1, cells := 0, slots := 0, locals := 32 }) (va_Pc [.ref a0, .int p1, .int p2] (cPc (dC, dI) (kT cyB cyI cyJ cyP) (qdL a0 jif jb7 jcP jlr jjY jkC jj3 jif cyB jjA) sz)) (va_Qi (fun (r : Int32) (u : Int32 × Int32 × Int32 × Int32) => Q r u.1 u.2.1 u.2.2.1 u.2.2.2) (cB (dC, dI) (kT cyB cyI cyJ cyP) (va_A (qdL a0 jif jb7 jcP jlr jjY jkC jj3 jif cyB jjA) sz) (fun u : Int32 × Int32 × Int32 × Int32 => ((qdL a0 jif jb7 u.1 u.2.2.2 jjY u.2.1 u.2.2.1 jif cyB jjA) : va_W))) (va_A (qdL a0 jif jb7 jcP jlr jjY jkC jj3 jif cyB jjA) sz)) 0 0 (va_A (qdL a0 jif jb7 jcP jlr jjY jkC jj3 jif cyB jjA) sz) := by
  refine Met.ofW (cc := cX8_number) (maxL := 4) (ret := (some .int)) (by decide) rfl ?_
  intro p e s m args below meth c s₁ B hml hv
  obtain ⟨rfl, hsz, hP, hK, hD0, hNw⟩ := hv
  have hx := B.exec
  have hb := B.bytes
  have hr := B.returns
  have hts := atoms_spec (ws := wsX8_number) B.pre
  have hown : s.vm.findClass RX8 = some m.cls := findClass_of_methodNamed B.named
  have hlocks := B.notSynchronized
  subst hsz
  have hD := hD0.self (sz := s.heap.size)
  generalize hAe : va_A (qdL a0 jif jb7 jcP jlr jjY jkC jj3 jif cyB jjA) s.heap.size = A at hD ⊢
  have hA : ∀ q : Nat, s.heap.size ≤ q → A q := fun q h => by rw [← hAe]; exact Or.inr h
  have hS : va_S A s.heap s.heap [] := va_S.rf
  have hP : va_P (dC, dI) vwCl (qdL a0 jif jb7 jcP jlr jjY jkC jj3 jif cyB jjA) s.heap := hP
  have hl := lv_entry ([.ref a0, .int p1, .int p2]) (n := 4) (nbq rfl)
  rw [lg_entry_eq]
  generalize (lg_sl ([.ref a0, .int p1, .int p2]) ++ List.replicate (4 - (lg_sl ([.ref a0, .int p1, .int p2])).length) Slot.unset).toArray = ls at hl ⊢
  have hl : lv_has ls 4 [(0, .ref a0), (1, .int p1), (2, .int p2)] := hl
  have C0 : cfx p s m _ meth c cX8_number (some .int) wsX8_number RX8 4 A (dC, dI) (kT cyB cyI cyJ cyP) := ⟨hx, hb, hr, hts, hown, hlocks, hml, hA, hK, hNw⟩
  clear hAe
  obtain ⟨H, hH⟩ : ∃ H, H = s.heap := ⟨_, rfl⟩
  rw [← hH] at hP ⊢
  have hS : va_S A s.heap H [] := by rw [hH]; exact va_S.rf
  have hS := hS
  refine lv_aload_n hx hb (qaa qjt 0 rfl) rfl (lv_at hl 0 rfl) ?_
  obtain ⟨hCc, hPc, hDc, hFc⟩ := qac (ws' := (qdL a0 jif jb7 jcP jlr jjY jkC jj3 jif cyB jjA)) hP hD hS hA [0, 1] (by decide +kernel) rfl
  refine va_callv (va_runV (As := []) (rest := []) ⟨hx, hb, hml, hown, hts⟩ (qwt l dC dI cyB cyI cyJ cyP a0 jif H.size (.int jlr) (jjY) (.int jkC) (.int jj3) jb7 jjA jcP hw) (cwV 0 hts gX8_number_X8_skipBlanks rfl rfl rfl (by decide +kernel) ⟨nbq rfl, nbq rfl⟩) ⟨qab, va_recv (q := (RX8, TX8, 7)) hK hPc (ci := 8) (q0 := 0) rfl rfl, qae hPc hK hDc hNw⟩ rfl rfl hl.1 rfl (lv_room (nbq rfl)) (qaa qjt 1 rfl) ⟨nbq rfl, nbq rfl⟩) hS (fun q _ h => hFc q h) hFc (fun u t H1 locs ht hvm hw hB hz1 hk1 hS => ?_)
  obtain ⟨x1, rfl⟩ : ∃ z, z = u := ⟨_, rfl⟩
  obtain ⟨hP1, hK1, hD1⟩ := hB
  rw [ht] at hP1
  obtain ⟨hP, hD⟩ := qah (wr := []) (w1 := (qdL a0 jif jb7 x1 jlr jjY jkC jj3 jif cyB jjA)) (wn := (qdL a0 jif jb7 x1 jlr jjY jkC jj3 jif cyB jjA)) hP hD [0, 1] [] hCc rfl (by decide +kernel) (by decide +kernel) rfl hk1 hFc hP1 hD1
  generalize H1 = H at hP hS ⊢
  refine lv_aload_n hx hb (qaa qjt 2 rfl) rfl (lv_at hl 0 rfl) ?_
  refine lv_aload_n hx hb (qaa qjt 3 rfl) rfl (lv_at hl 0 rfl) ?_
  refine va_get (D := (dC, dI)) (ci := 8) (v := .int x1) (C := RX8) (T := TX8) (N := 7) hx hb hts qo3 hown hK hP 0 rfl rfl 2 (by decide) (hts _ qsJ) (fun _ h9 => h9) rfl (qaa qjt 4 rfl) ?_
  obtain ⟨hCc, hPc, hDc, hFc⟩ := qac (ws' := (qdL a0 jif jb7 x1 jlr jjY jkC jj3 jif cyB jjA)) hP hD hS hA [0, 1] (by decide +kernel) rfl
  refine va_calli (va_runV (As := [.int x1]) (rest := []) ⟨hx, hb, hml, hown, hts⟩ (qOh l dC dI cyB cyI cyJ cyP a0 jif H.size (.int x1) (.int jlr) (jjY) (.int jkC) (.int jj3) jb7 jjA x1 hw) (cwV 1 hts gX8_number_X8_digitAt rfl rfl rfl (by decide +kernel) ⟨nbq rfl, nbq rfl⟩) ⟨qab, va_recv (q := (RX8, TX8, 7)) hK hPc (ci := 8) (q0 := 0) rfl rfl, qae hPc hK hDc hNw⟩ rfl rfl hl.1 rfl (lv_room (nbq rfl)) (qaa qjt 5 rfl) ⟨nbq rfl, nbq rfl⟩) hS (fun q _ h => hFc q h) hFc (fun r2 u t H1 locs ht hvm hw hB hz1 hk1 hS => ?_)
  obtain ⟨hP1, hK1, hD1⟩ := hB
  rw [ht] at hP1
  obtain ⟨hP, hD⟩ := qah (wr := []) (w1 := (qdL a0 jif jb7 x1 jlr jjY jkC jj3 jif cyB jjA)) (wn := (qdL a0 jif jb7 x1 jlr jjY jkC jj3 jif cyB jjA)) hP hD [0, 1] [] hCc rfl (by decide +kernel) (by decide +kernel) rfl hk1 hFc hP1 hD1
  generalize H1 = H at hP hS ⊢
  refine lv_if_ge (tgt := 24) hx hb (qaa qjt 6 rfl) (by decide) (fun c3 => ?_) (fun c3 => ?_)
  · have hw := hw.1 c3
    exact q1m dC dI cyB cyI cyJ cyP a0 jif jjY jb7 jjA Q C0 _ _ _ x1 jkC jj3 jlr p1 p2 hP hD hS (lv_sub hl [0, 1, 2] rfl) hw
  · have hw := hw.2 c3
    refine lv_aload_n hx hb (qaa qjt 7 rfl) rfl (lv_at hl 0 rfl) ?_
    refine lv_iconst (v := 1) hx hb (qaa qjt 8 rfl) (by decide) ?_
    refine lv_aload_n hx hb (qaa qjt 9 rfl) rfl (lv_at hl 0 rfl) ?_
    refine va_get (D := (dC, dI)) (ci := 8) (v := .int x1) (C := RX8) (T := TX8) (N := 7) hx hb hts qo3 hown hK hP 0 rfl rfl 2 (by decide) (hts _ qsJ) (fun _ h9 => h9) rfl (qaa qjt 10 rfl) ?_
    obtain ⟨hCc, hPc, hDc, hFc⟩ := qac (ws' := (qL0 a0 jif jb7 x1 jlr jjY jkC jj3)) hP hD hS hA [0] (by decide +kernel) rfl
    refine va_callv (va_runV (As := [.int 1, .int x1]) (rest := []) ⟨hx, hb, hml, hown, hts⟩ (qXo l dC dI cyB cyI cyJ cyP a0 H.size (.ref jif) (.int jb7) (.int x1) (.int jlr) (jjY) jkC jj3 1 x1 hw) (cwV 2 hts gX8_number_X8_blame rfl rfl rfl (by decide +kernel) ⟨nbq rfl, nbq rfl⟩) ⟨qab, va_recv (q := (RX8, TX8, 7)) hK hPc (ci := 8) (q0 := 0) rfl rfl, qae hPc hK hDc hNw⟩ rfl rfl hl.1 rfl (lv_room (nbq rfl)) (qaa qjt 11 rfl) ⟨nbq rfl, nbq rfl⟩) hS (fun q _ h => hFc q h) hFc (fun u t H1 locs ht hvm hw hB hz1 hk1 hS => ?_)
    obtain ⟨x4, x5⟩ := u
    obtain ⟨hP1, hK1, hD1⟩ := hB
    rw [ht] at hP1
    obtain ⟨hP, hD⟩ := qad (wr := (qaCm jif cyB jjA)) (w1 := (qL0 a0 jif jb7 x1 jlr jjY x4 x5)) (wn := (qdL a0 jif jb7 x1 jlr jjY x4 x5 jif cyB jjA)) hP hD [0] [1] [1, 0] hCc rfl (by decide +kernel) (by decide +kernel) (by decide +kernel) rfl hk1 hFc hP1 hD1
    generalize H1 = H at hP hS ⊢
    exact q1m dC dI cyB cyI cyJ cyP a0 jif jjY jb7 jjA Q C0 _ _ _ x1 x4 x5 jlr p1 p2 hP hD hS (lv_sub hl [0, 1, 2] rfl) hw
theorem qaJn : ∀ w ∈ u_ws RX0 TX0 2, w ∈ wsX0_tells := uiM qaLB euX0 (by decide +kernel)
theorem qaGf : (.fieldLink RX0 9 "MarchHares$Book" "seen" "[I" : Cond) ∈ wsX0_tells := qaLB 257 (by decide +kernel)
set_option maxHeartbeats 4000000 in
set_option maxRecDepth 100000 in
theorem qaDK (l : Launch) (dC : Nat → ClassId) (dI : Nat → Nat → Nat) (cyB cyI cyJ cyP : ClassId) (a0 jjj sz : Nat) (jmb : Value) (jkG : NI) (p1 : Int32) {Q : Int32 → Prop} (hw : qXK jkG p1 Q) : Met l yX0_tells wsX0_tells ({ frames := 0, cells := 0, slots := 0, locals := 0 }) (va_Pc [.ref a0, .int p1] (cPc (dC, dI) (kT cyB cyI cyJ cyP) (q9W a0 jjj jmb jjj cyI jkG) sz)) (va_Qi (fun (r : Int32) (_ : Unit) => Q r ) (cB (dC, dI) (kT cyB cyI cyJ cyP) (va_A (q9W a0 jjj jmb jjj cyI jkG) sz) (fun u : Unit => ((q9W a0 jjj jmb jjj cyI jkG) : va_W))) (va_A (q9W a0 jjj jmb jjj cyI jkG) sz)) 0 0 (va_A (q9W a0 jjj jmb jjj cyI jkG) sz) := by
  refine Met.ofW (cc := cX0_tells) (maxL := 2) (ret := (some .boolean)) (by decide) rfl ?_
  intro p e s m args below meth c s₁ B hml hv
  obtain ⟨rfl, hsz, hP, hK, hD0, hNw⟩ := hv
  have hx := B.exec
  have hb := B.bytes
  have hr := B.returns
  have hts := atoms_spec (ws := wsX0_tells) B.pre
  have hown : s.vm.findClass RX0 = some m.cls := findClass_of_methodNamed B.named
  have hlocks := B.notSynchronized
  subst hsz
  have hD := hD0.self (sz := s.heap.size)
  generalize hAe : va_A (q9W a0 jjj jmb jjj cyI jkG) s.heap.size = A at hD ⊢
  have hA : ∀ q : Nat, s.heap.size ≤ q → A q := fun q h => by rw [← hAe]; exact Or.inr h
  have hS : va_S A s.heap s.heap [] := va_S.rf
  have hP : va_P (dC, dI) vwCl (q9W a0 jjj jmb jjj cyI jkG) s.heap := hP
  have hl := lv_entry ([.ref a0, .int p1]) (n := 2) (nbq rfl)
  rw [lg_entry_eq]
  generalize (lg_sl ([.ref a0, .int p1]) ++ List.replicate (2 - (lg_sl ([.ref a0, .int p1])).length) Slot.unset).toArray = ls at hl ⊢
  have hl : lv_has ls 2 [(0, .ref a0), (1, .int p1)] := hl
  have C0 : cfx p s m _ meth c cX0_tells (some .boolean) wsX0_tells RX0 2 A (dC, dI) (kT cyB cyI cyJ cyP) := ⟨hx, hb, hr, hts, hown, hlocks, hml, hA, hK, hNw⟩
  clear hAe
  obtain ⟨H, hH⟩ : ∃ H, H = s.heap := ⟨_, rfl⟩
  rw [← hH] at hP ⊢
  have hS : va_S A s.heap H [] := by rw [hH]; exact va_S.rf
  have hS := hS
  refine lv_aload_n hx hb (qaa qsq 0 rfl) rfl (lv_at hl 0 rfl) ?_
  refine va_get (D := (dC, dI)) (ci := 0) (v := .ref jjj) (C := RX0) (T := TX0) (N := 2) hx hb hts qaJn hown hK hP 0 rfl rfl 0 (by decide) (hts _ qaGf) (fun _ h9 => h9) rfl (qaa qsq 1 rfl) ?_
  refine lv_iload_n hx hb (qaa qsq 2 rfl) rfl (lv_at hl 1 rfl) ?_
  obtain ⟨hi9, hw⟩ := hw
  refine va_iald hx hb hK hP 1 1 rfl rfl hi9 (qaa qsq 3 rfl) ?_
  refine lv_topi (fun x1 ex1 => ?_)
  have hw := hw x1 ex1
  refine lv_iconst (v := (-1)) hx hb (qaa qsq 4 rfl) (by decide) ?_
  refine lv_icmp_eq (tgt := 14) hx hb (qaa qsq 5 rfl) (by decide) (fun c2 => ?_) (fun c2 => ?_)
  · have hw := hw.1 c2
    refine lv_iconst (v := 0) hx hb (qaa qsq 8 rfl) (by decide) ?_
    exact ((W.zret (v := 0) hx hb hr rfl (fun t ht hW => ⟨⟨0, (), rfl, hw, by rw [ht]; exact hP, va_K.moved hW.alike hK, hD⟩, hS.F ht⟩) hS.2.2 (qaa qsq 9 rfl)))
  · have hw := hw.2 c2
    refine lv_iconst (v := 1) hx hb (qaa qsq 6 rfl) (by decide) ?_
    refine lv_goto (tgt := 15) hx hb (qaa qsq 7 rfl) (by decide) ?_
    exact ((W.zret (v := 1) hx hb hr rfl (fun t ht hW => ⟨⟨1, (), rfl, hw, by rw [ht]; exact hP, va_K.moved hW.alike hK, hD⟩, hS.F ht⟩) hS.2.2 (qaa qsq 9 rfl)))
theorem qacg : ∀ w ∈ u_ws RX8 TX8 7, w ∈ wsX8_blameToken := uiM qID euX8 (by decide +kernel)
theorem q6K : (.fieldLink RX8 34 "MarchHares$Tape" "token" "I" : Cond) ∈ wsX8_blameToken := qID 714 (by decide +kernel)
set_option maxHeartbeats 4000000 in
set_option maxRecDepth 100000 in
theorem qnW (l : Launch) (dC : Nat → ClassId) (dI : Nat → Nat → Nat) (cyB cyI cyJ cyP : ClassId) (a0 sz : Nat) (jn7 jjf jby jjY : Value) (jlr jkC jj3 p1 : Int32) {Q : Int32 → Int32 → Prop} (hw : qkI jlr jkC jj3 p1 Q) : Met l yX8_blameToken wsX8_blameToken ({ frames := 1, cells := 0, slots := 0, locals := 22 }) (va_Pc [.ref a0, .int p1] (cPc (dC, dI) (kT cyB cyI cyJ cyP) (qUr a0 jn7 jjf jby jlr jjY jkC jj3) sz)) (va_Qv (fun (u : Int32 × Int32) => Q u.1 u.2) (cB (dC, dI) (kT cyB cyI cyJ cyP) (va_A (qUr a0 jn7 jjf jby jlr jjY jkC jj3) sz) (fun u : Int32 × Int32 => ((qUr a0 jn7 jjf jby jlr jjY u.1 u.2) : va_W))) (va_A (qUr a0 jn7 jjf jby jlr jjY jkC jj3) sz)) 0 0 (va_A (qUr a0 jn7 jjf jby jlr jjY jkC jj3) sz) := by
  refine Met.ofW (cc := cX8_blameToken) (maxL := 2) (ret := none) (by decide) rfl ?_
  intro p e s m args below meth c s₁ B hml hv
  obtain ⟨rfl, hsz, hP, hK, hD0, hNw⟩ := hv
  have hx := B.exec
  have hb := B.bytes
  have hr := B.returns
  have hts := atoms_spec (ws := wsX8_blameToken) B.pre
  have hown : s.vm.findClass RX8 = some m.cls := findClass_of_methodNamed B.named
  have hlocks := B.notSynchronized
  subst hsz
  have hD := hD0.self (sz := s.heap.size)
  generalize hAe : va_A (qUr a0 jn7 jjf jby jlr jjY jkC jj3) s.heap.size = A at hD ⊢
  have hA : ∀ q : Nat, s.heap.size ≤ q → A q := fun q h => by rw [← hAe]; exact Or.inr h
  have hS : va_S A s.heap s.heap [] := va_S.rf
  have hP : va_P (dC, dI) vwCl (qUr a0 jn7 jjf jby jlr jjY jkC jj3) s.heap := hP
  have hl := lv_entry ([.ref a0, .int p1]) (n := 2) (nbq rfl)
  rw [lg_entry_eq]
  generalize (lg_sl ([.ref a0, .int p1]) ++ List.replicate (2 - (lg_sl ([.ref a0, .int p1])).length) Slot.unset).toArray = ls at hl ⊢
  have hl : lv_has ls 2 [(0, .ref a0), (1, .int p1)] := hl
  have C0 : cfx p s m _ meth c cX8_blameToken none wsX8_blameToken RX8 2 A (dC, dI) (kT cyB cyI cyJ cyP) := ⟨hx, hb, hr, hts, hown, hlocks, hml, hA, hK, hNw⟩
  clear hAe
  obtain ⟨H, hH⟩ : ∃ H, H = s.heap := ⟨_, rfl⟩
  rw [← hH] at hP ⊢
  have hS : va_S A s.heap H [] := by rw [hH]; exact va_S.rf
  have hS := hS
  refine lv_aload_n hx hb (qaa qum 0 rfl) rfl (lv_at hl 0 rfl) ?_
  refine lv_iload_n hx hb (qaa qum 1 rfl) rfl (lv_at hl 1 rfl) ?_
  refine lv_aload_n hx hb (qaa qum 2 rfl) rfl (lv_at hl 0 rfl) ?_
  refine va_get (D := (dC, dI)) (ci := 8) (v := .int jlr) (C := RX8) (T := TX8) (N := 7) hx hb hts qacg hown hK hP 0 rfl rfl 3 (by decide) (hts _ q6K) (fun _ h9 => h9) rfl (qaa qum 3 rfl) ?_
  obtain ⟨hCc, hPc, hDc, hFc⟩ := qac (ws' := (qUr a0 jn7 jjf jby jlr jjY jkC jj3)) hP hD hS hA [0] (by decide +kernel) rfl
  refine va_callv (va_runV (As := [.int p1, .int jlr]) (rest := []) ⟨hx, hb, hml, hown, hts⟩ (qXo l dC dI cyB cyI cyJ cyP a0 H.size (jn7) (jjf) (jby) (.int jlr) (jjY) jkC jj3 p1 jlr hw) (cwV 2 hts gX8_blameToken_X8_blame rfl rfl rfl (by decide +kernel) ⟨nbq rfl, nbq rfl⟩) ⟨qab, va_recv (q := (RX8, TX8, 7)) hK hPc (ci := 8) (q0 := 0) rfl rfl, qae hPc hK hDc hNw⟩ rfl rfl hl.1 rfl (lv_room (nbq rfl)) (qaa qum 4 rfl) ⟨nbq rfl, nbq rfl⟩) hS (fun q _ h => hFc q h) hFc (fun u t H1 locs ht hvm hw hB hz1 hk1 hS => ?_)
  obtain ⟨x1, x2⟩ := u
  obtain ⟨hP1, hK1, hD1⟩ := hB
  rw [ht] at hP1
  obtain ⟨hP, hD⟩ := qah (wr := []) (w1 := (qUr a0 jn7 jjf jby jlr jjY x1 x2)) (wn := (qUr a0 jn7 jjf jby jlr jjY x1 x2)) hP hD [0] [] hCc rfl (by decide +kernel) (by decide +kernel) rfl hk1 hFc hP1 hD1
  generalize H1 = H at hP hS ⊢
  exact ((W.vret hx hb hr (fun t ht hW => ⟨⟨(x1, x2), rfl, hw, by rw [ht]; exact hP, va_K.moved hW.alike hK, hD⟩, hS.F ht⟩) hS.2.2 (qaa qum 5 rfl)))
theorem qvb : ∀ w ∈ u_ws RX8 TX8 7, w ∈ wsX8_takes := uiM qCw euX8 (by decide +kernel)
theorem qaDG : (.fieldLink RX8 11 "MarchHares$Tape" "bytes" "[B" : Cond) ∈ wsX8_takes := qCw 142 (by decide +kernel)
theorem qaw9 : (.fieldLink RX8 28 "MarchHares$Tape" "length" "I" : Cond) ∈ wsX8_takes := qCw 712 (by decide +kernel)
theorem qCk : (.fieldLink RX8 31 "MarchHares$Tape" "at" "I" : Cond) ∈ wsX8_takes := qCw 713 (by decide +kernel)
theorem qavl : (.fieldLink RX8 34 "MarchHares$Tape" "token" "I" : Cond) ∈ wsX8_takes := qCw 714 (by decide +kernel)
set_option maxHeartbeats 4000000 in
set_option maxRecDepth 100000 in
theorem qsg (l : Launch) (dC : Nat → ClassId) (dI : Nat → Nat → Nat) (cyB cyI cyJ cyP : ClassId) (a0 jif sz : Nat) (jjY jkr : Value) (jb7 jkC : Int32) (jjA : NI) (jcP jlr p1 : Int32) {Q : Int32 → Int32 → Int32 → Prop} (hw : qqe jb7 jkC jjA jcP jlr p1 Q) : Met l yX8_takes wsX8_takes ({ frames := 1, cells := 0, slots := 0, locals := 20 }) (va_Pc [.ref a0, .int p1] (cPc (dC, dI) (kT cyB cyI cyJ cyP) (qFL a0 jif jb7 jcP jlr jjY jkC jkr jif cyB jjA) sz)) (va_Qi (fun (r : Int32) (u : Int32 × Int32) => Q r u.1 u.2) (cB (dC, dI) (kT cyB cyI cyJ cyP) (va_A (qFL a0 jif jb7 jcP jlr jjY jkC jkr jif cyB jjA) sz) (fun u : Int32 × Int32 => ((qFL a0 jif jb7 u.1 u.2 jjY jkC jkr jif cyB jjA) : va_W))) (va_A (qFL a0 jif jb7 jcP jlr jjY jkC jkr jif cyB jjA) sz)) 0 0 (va_A (qFL a0 jif jb7 jcP jlr jjY jkC jkr jif cyB jjA) sz) := by
  refine Met.ofW (cc := cX8_takes) (maxL := 2) (ret := (some .boolean)) (by decide) rfl ?_
  intro p e s m args below meth c s₁ B hml hv
  obtain ⟨rfl, hsz, hP, hK, hD0, hNw⟩ := hv
  have hx := B.exec
  have hb := B.bytes
  have hr := B.returns
  have hts := atoms_spec (ws := wsX8_takes) B.pre
  have hown : s.vm.findClass RX8 = some m.cls := findClass_of_methodNamed B.named
  have hlocks := B.notSynchronized
  subst hsz
  have hD := hD0.self (sz := s.heap.size)
  generalize hAe : va_A (qFL a0 jif jb7 jcP jlr jjY jkC jkr jif cyB jjA) s.heap.size = A at hD ⊢
  have hA : ∀ q : Nat, s.heap.size ≤ q → A q := fun q h => by rw [← hAe]; exact Or.inr h
  have hS : va_S A s.heap s.heap [] := va_S.rf
  have hP : va_P (dC, dI) vwCl (qFL a0 jif jb7 jcP jlr jjY jkC jkr jif cyB jjA) s.heap := hP
  have hl := lv_entry ([.ref a0, .int p1]) (n := 2) (nbq rfl)
  rw [lg_entry_eq]
  generalize (lg_sl ([.ref a0, .int p1]) ++ List.replicate (2 - (lg_sl ([.ref a0, .int p1])).length) Slot.unset).toArray = ls at hl ⊢
  have hl : lv_has ls 2 [(0, .ref a0), (1, .int p1)] := hl
  have C0 : cfx p s m _ meth c cX8_takes (some .boolean) wsX8_takes RX8 2 A (dC, dI) (kT cyB cyI cyJ cyP) := ⟨hx, hb, hr, hts, hown, hlocks, hml, hA, hK, hNw⟩
  clear hAe
  obtain ⟨H, hH⟩ : ∃ H, H = s.heap := ⟨_, rfl⟩
  rw [← hH] at hP ⊢
  have hS : va_S A s.heap H [] := by rw [hH]; exact va_S.rf
  have hS := hS
  refine lv_aload_n hx hb (qaa qmN 0 rfl) rfl (lv_at hl 0 rfl) ?_
  obtain ⟨hCc, hPc, hDc, hFc⟩ := qac (ws' := (qFL a0 jif jb7 jcP jlr jjY jkC jkr jif cyB jjA)) hP hD hS hA [0, 1] (by decide +kernel) rfl
  refine va_callv (va_runV (As := []) (rest := []) ⟨hx, hb, hml, hown, hts⟩ (qwt l dC dI cyB cyI cyJ cyP a0 jif H.size (.int jlr) (jjY) (.int jkC) (jkr) jb7 jjA jcP hw) (cwV 0 hts gX8_takes_X8_skipBlanks rfl rfl rfl (by decide +kernel) ⟨nbq rfl, nbq rfl⟩) ⟨qab, va_recv (q := (RX8, TX8, 7)) hK hPc (ci := 8) (q0 := 0) rfl rfl, qae hPc hK hDc hNw⟩ rfl rfl hl.1 rfl (lv_room (nbq rfl)) (qaa qmN 1 rfl) ⟨nbq rfl, nbq rfl⟩) hS (fun q _ h => hFc q h) hFc (fun u t H1 locs ht hvm hw hB hz1 hk1 hS => ?_)
  obtain ⟨x1, rfl⟩ : ∃ z, z = u := ⟨_, rfl⟩
  obtain ⟨hP1, hK1, hD1⟩ := hB
  rw [ht] at hP1
  obtain ⟨hP, hD⟩ := qah (wr := []) (w1 := (qFL a0 jif jb7 x1 jlr jjY jkC jkr jif cyB jjA)) (wn := (qFL a0 jif jb7 x1 jlr jjY jkC jkr jif cyB jjA)) hP hD [0, 1] [] hCc rfl (by decide +kernel) (by decide +kernel) rfl hk1 hFc hP1 hD1
  generalize H1 = H at hP hS ⊢
  refine lv_aload_n hx hb (qaa qmN 2 rfl) rfl (lv_at hl 0 rfl) ?_
  obtain ⟨hCc, hPc, hDc, hFc⟩ := qac (ws' := (qa4I a0 jif jb7 x1 jlr jjY jkC jkr)) hP hD hS hA [0] (by decide +kernel) rfl
  refine va_calli (va_runV (As := []) (rest := []) ⟨hx, hb, hml, hown, hts⟩ (qkj l dC dI cyB cyI cyJ cyP a0 H.size (.ref jif) (.int jb7) (.int x1) (.int jlr) (jjY) (jkr) jkC hw) (cwV 0 hts gX8_takes_X8_isFaulty rfl rfl rfl (by decide +kernel) ⟨nbq rfl, nbq rfl⟩) ⟨qab, va_recv (q := (RX8, TX8, 7)) hK hPc (ci := 8) (q0 := 0) rfl rfl, qae hPc hK hDc hNw⟩ rfl rfl hl.1 rfl (lv_room (nbq rfl)) (qaa qmN 3 rfl) ⟨nbq rfl, nbq rfl⟩) hS (fun q _ h => hFc q h) hFc (fun r2 u t H1 locs ht hvm hw hB hz1 hk1 hS => ?_)
  obtain ⟨hP1, hK1, hD1⟩ := hB
  rw [ht] at hP1
  obtain ⟨hP, hD⟩ := qad (wr := (qaCm jif cyB jjA)) (w1 := (qa4I a0 jif jb7 x1 jlr jjY jkC jkr)) (wn := (qFL a0 jif jb7 x1 jlr jjY jkC jkr jif cyB jjA)) hP hD [0] [1] [1, 0] hCc rfl (by decide +kernel) (by decide +kernel) (by decide +kernel) rfl hk1 hFc hP1 hD1
  generalize H1 = H at hP hS ⊢
  refine lv_if_ne (tgt := 35) hx hb (qaa qmN 4 rfl) (by decide) (fun c3 => ?_) (fun c3 => ?_)
  · have hw := hw.1 c3
    refine lv_iconst (v := 0) hx hb (qaa qgd 1 rfl) (by decide) ?_
    exact ((W.zret (v := 0) hx hb hr rfl (fun t ht hW => ⟨⟨0, (x1, jlr), rfl, hw, by rw [ht]; exact hP, va_K.moved hW.alike hK, hD⟩, hS.F ht⟩) hS.2.2 (qaa qgd 2 rfl)))
  · have hw := hw.2 c3
    refine lv_aload_n hx hb (qaa qmN 5 rfl) rfl (lv_at hl 0 rfl) ?_
    refine va_get (D := (dC, dI)) (ci := 8) (v := .int x1) (C := RX8) (T := TX8) (N := 7) hx hb hts qvb hown hK hP 0 rfl rfl 2 (by decide) (hts _ qCk) (fun _ h9 => h9) rfl (qaa qmN 6 rfl) ?_
    refine lv_aload_n hx hb (qaa qmN 7 rfl) rfl (lv_at hl 0 rfl) ?_
    refine va_get (D := (dC, dI)) (ci := 8) (v := .int jb7) (C := RX8) (T := TX8) (N := 7) hx hb hts qvb hown hK hP 0 rfl rfl 1 (by decide) (hts _ qaw9) (fun _ h9 => h9) rfl (qaa qmN 8 rfl) ?_
    refine lv_icmp_ge (tgt := 35) hx hb (qaa qmN 9 rfl) (by decide) (fun c4 => ?_) (fun c4 => ?_)
    · have hw := hw.1 c4
      refine lv_iconst (v := 0) hx hb (qaa qgd 1 rfl) (by decide) ?_
      exact ((W.zret (v := 0) hx hb hr rfl (fun t ht hW => ⟨⟨0, (x1, jlr), rfl, hw, by rw [ht]; exact hP, va_K.moved hW.alike hK, hD⟩, hS.F ht⟩) hS.2.2 (qaa qgd 2 rfl)))
    · have hw := hw.2 c4
      refine lv_aload_n hx hb (qaa qmN 10 rfl) rfl (lv_at hl 0 rfl) ?_
      refine va_get (D := (dC, dI)) (ci := 8) (v := .ref jif) (C := RX8) (T := TX8) (N := 7) hx hb hts qvb hown hK hP 0 rfl rfl 0 (by decide) (hts _ qaDG) (fun _ h9 => h9) rfl (qaa qmN 11 rfl) ?_
      refine lv_aload_n hx hb (qaa qmN 12 rfl) rfl (lv_at hl 0 rfl) ?_
      refine va_get (D := (dC, dI)) (ci := 8) (v := .int x1) (C := RX8) (T := TX8) (N := 7) hx hb hts qvb hown hK hP 0 rfl rfl 2 (by decide) (hts _ qCk) (fun _ h9 => h9) rfl (qaa qmN 13 rfl) ?_
      obtain ⟨hi9, hw⟩ := hw
      refine va_bald hx hb hK hP 1 0 rfl rfl hi9 (qaa qmN 14 rfl) ?_
      refine lv_topi (fun x5 ex5 => ?_)
      have hw := hw x5 ex5
      refine lv_iload_n hx hb (qaa qmN 15 rfl) rfl (lv_at hl 1 rfl) ?_
      refine lv_icmp_eq (tgt := 37) hx hb (qaa qgd 0 rfl) (by decide) (fun c6 => ?_) (fun c6 => ?_)
      · have hw := hw.1 c6
        refine lv_aload_n hx hb (qaa qgd 3 rfl) rfl (lv_at hl 0 rfl) ?_
        refine lv_aload_n hx hb (qaa qgd 4 rfl) rfl (lv_at hl 0 rfl) ?_
        refine va_get (D := (dC, dI)) (ci := 8) (v := .int x1) (C := RX8) (T := TX8) (N := 7) hx hb hts qvb hown hK hP 0 rfl rfl 2 (by decide) (hts _ qCk) (fun _ h9 => h9) rfl (qaa qgd 5 rfl) ?_
        refine va_put (D := (dC, dI)) (ci := 8) (v := .int x1) (ty := .int) (C := RX8) (T := TX8) (N := 7) hx hb hts qvb tyX8 tyX8_ok nmX8 hown hK hP hD hS 0 rfl rfl 3 (by decide) (hts _ qavl) (fun _ h9 => h9) rfl (by decide +kernel) rfl rfl (nbq rfl) (qaa qgd 6 rfl) (fun H locs hP hD hS => ?_)
        have hP : va_P (dC, dI) vwCl (qFL a0 jif jb7 x1 x1 jjY jkC jkr jif cyB jjA) H := hP
        have hD : va_D A (qFL a0 jif jb7 x1 x1 jjY jkC jkr jif cyB jjA) := hD
        refine lv_aload_n hx hb (qaa qgd 7 rfl) rfl (lv_at hl 0 rfl) ?_
        refine lv_dup hx hb (qaa qgd 8 rfl) rfl ?_
        refine va_get (D := (dC, dI)) (ci := 8) (v := .int x1) (C := RX8) (T := TX8) (N := 7) hx hb hts qvb hown hK hP 0 rfl rfl 2 (by decide) (hts _ qCk) (fun _ h9 => h9) rfl (qaa qgd 9 rfl) ?_
        refine lv_iconst (v := 1) hx hb (qaa qgd 10 rfl) (by decide) ?_
        refine lv_iadd hx hb (qaa qgd 11 rfl) ?_
        refine lv_topi (fun x7 ex7 => ?_)
        have hw := hw x7 ex7
        refine va_put (D := (dC, dI)) (ci := 8) (v := .int x7) (ty := .int) (C := RX8) (T := TX8) (N := 7) hx hb hts qvb tyX8 tyX8_ok nmX8 hown hK hP hD hS 0 rfl rfl 2 (by decide) (hts _ qCk) (fun _ h9 => h9) rfl (by decide +kernel) rfl rfl (nbq rfl) (qaa qgd 12 rfl) (fun H locs hP hD hS => ?_)
        have hP : va_P (dC, dI) vwCl (qFL a0 jif jb7 x7 x1 jjY jkC jkr jif cyB jjA) H := hP
        have hD : va_D A (qFL a0 jif jb7 x7 x1 jjY jkC jkr jif cyB jjA) := hD
        refine lv_iconst (v := 1) hx hb (qaa qgd 13 rfl) (by decide) ?_
        exact ((W.zret (v := 1) hx hb hr rfl (fun t ht hW => ⟨⟨1, (x7, x1), rfl, hw, by rw [ht]; exact hP, va_K.moved hW.alike hK, hD⟩, hS.F ht⟩) hS.2.2 (qaa qgd 14 rfl)))
      · have hw := hw.2 c6
        refine lv_iconst (v := 0) hx hb (qaa qgd 1 rfl) (by decide) ?_
        exact ((W.zret (v := 0) hx hb hr rfl (fun t ht hW => ⟨⟨0, (x1, jlr), rfl, hw, by rw [ht]; exact hP, va_K.moved hW.alike hK, hD⟩, hS.F ht⟩) hS.2.2 (qaa qgd 2 rfl)))
theorem qah6 : ∀ w ∈ u_ws RX8 TX8 7, w ∈ wsX8_blameSign := uiM qAw euX8 (by decide +kernel)
theorem qaa1 : (.fieldLink RX8 31 "MarchHares$Tape" "at" "I" : Cond) ∈ wsX8_blameSign := qAw 713 (by decide +kernel)
set_option maxHeartbeats 4000000 in
set_option maxRecDepth 100000 in
theorem qCs (l : Launch) (dC : Nat → ClassId) (dI : Nat → Nat → Nat) (cyB cyI cyJ cyP : ClassId) (a0 jif sz : Nat) (jl9 jjY : Value) (jb7 : Int32) (jjA : NI) (jcP jkC jj3 : Int32) {Q : Int32 → Int32 → Int32 → Prop} (hw : qua jb7 jjA jcP jkC jj3 Q) : Met l yX8_blameSign wsX8_blameSign ({ frames := 1, cells := 0, slots := 0, locals := 22 }) (va_Pc [.ref a0] (cPc (dC, dI) (kT cyB cyI cyJ cyP) (qQs a0 jif jb7 jcP jl9 jjY jkC jj3 jif cyB jjA) sz)) (va_Qv (fun (u : Int32 × Int32 × Int32) => Q u.1 u.2.1 u.2.2) (cB (dC, dI) (kT cyB cyI cyJ cyP) (va_A (qQs a0 jif jb7 jcP jl9 jjY jkC jj3 jif cyB jjA) sz) (fun u : Int32 × Int32 × Int32 => ((qQs a0 jif jb7 u.1 jl9 jjY u.2.1 u.2.2 jif cyB jjA) : va_W))) (va_A (qQs a0 jif jb7 jcP jl9 jjY jkC jj3 jif cyB jjA) sz)) 0 0 (va_A (qQs a0 jif jb7 jcP jl9 jjY jkC jj3 jif cyB jjA) sz) := by
  refine Met.ofW (cc := cX8_blameSign) (maxL := 1) (ret := none) (by decide) rfl ?_
  intro p e s m args below meth c s₁ B hml hv
  obtain ⟨rfl, hsz, hP, hK, hD0, hNw⟩ := hv
  have hx := B.exec
  have hb := B.bytes
  have hr := B.returns
  have hts := atoms_spec (ws := wsX8_blameSign) B.pre
  have hown : s.vm.findClass RX8 = some m.cls := findClass_of_methodNamed B.named
  have hlocks := B.notSynchronized
  subst hsz
  have hD := hD0.self (sz := s.heap.size)
  generalize hAe : va_A (qQs a0 jif jb7 jcP jl9 jjY jkC jj3 jif cyB jjA) s.heap.size = A at hD ⊢
  have hA : ∀ q : Nat, s.heap.size ≤ q → A q := fun q h => by rw [← hAe]; exact Or.inr h
  have hS : va_S A s.heap s.heap [] := va_S.rf
  have hP : va_P (dC, dI) vwCl (qQs a0 jif jb7 jcP jl9 jjY jkC jj3 jif cyB jjA) s.heap := hP
  have hl := lv_entry ([.ref a0]) (n := 1) (nbq rfl)
  rw [lg_entry_eq]
  generalize (lg_sl ([.ref a0]) ++ List.replicate (1 - (lg_sl ([.ref a0])).length) Slot.unset).toArray = ls at hl ⊢
  have hl : lv_has ls 1 [(0, .ref a0)] := hl
  have C0 : cfx p s m _ meth c cX8_blameSign none wsX8_blameSign RX8 1 A (dC, dI) (kT cyB cyI cyJ cyP) := ⟨hx, hb, hr, hts, hown, hlocks, hml, hA, hK, hNw⟩
  clear hAe
  obtain ⟨H, hH⟩ : ∃ H, H = s.heap := ⟨_, rfl⟩
  rw [← hH] at hP ⊢
  have hS : va_S A s.heap H [] := by rw [hH]; exact va_S.rf
  have hS := hS
  refine lv_aload_n hx hb (qaa qrB 0 rfl) rfl (lv_at hl 0 rfl) ?_
  obtain ⟨hCc, hPc, hDc, hFc⟩ := qac (ws' := (qQs a0 jif jb7 jcP jl9 jjY jkC jj3 jif cyB jjA)) hP hD hS hA [0, 1] (by decide +kernel) rfl
  refine va_callv (va_runV (As := []) (rest := []) ⟨hx, hb, hml, hown, hts⟩ (qwt l dC dI cyB cyI cyJ cyP a0 jif H.size (jl9) (jjY) (.int jkC) (.int jj3) jb7 jjA jcP hw) (cwV 0 hts gX8_blameSign_X8_skipBlanks rfl rfl rfl (by decide +kernel) ⟨nbq rfl, nbq rfl⟩) ⟨qab, va_recv (q := (RX8, TX8, 7)) hK hPc (ci := 8) (q0 := 0) rfl rfl, qae hPc hK hDc hNw⟩ rfl rfl hl.1 rfl (lv_room (nbq rfl)) (qaa qrB 1 rfl) ⟨nbq rfl, nbq rfl⟩) hS (fun q _ h => hFc q h) hFc (fun u t H1 locs ht hvm hw hB hz1 hk1 hS => ?_)
  obtain ⟨x1, rfl⟩ : ∃ z, z = u := ⟨_, rfl⟩
  obtain ⟨hP1, hK1, hD1⟩ := hB
  rw [ht] at hP1
  obtain ⟨hP, hD⟩ := qah (wr := []) (w1 := (qQs a0 jif jb7 x1 jl9 jjY jkC jj3 jif cyB jjA)) (wn := (qQs a0 jif jb7 x1 jl9 jjY jkC jj3 jif cyB jjA)) hP hD [0, 1] [] hCc rfl (by decide +kernel) (by decide +kernel) rfl hk1 hFc hP1 hD1
  generalize H1 = H at hP hS ⊢
  refine lv_aload_n hx hb (qaa qrB 2 rfl) rfl (lv_at hl 0 rfl) ?_
  refine lv_iconst (v := 1) hx hb (qaa qrB 3 rfl) (by decide) ?_
  refine lv_aload_n hx hb (qaa qrB 4 rfl) rfl (lv_at hl 0 rfl) ?_
  refine va_get (D := (dC, dI)) (ci := 8) (v := .int x1) (C := RX8) (T := TX8) (N := 7) hx hb hts qah6 hown hK hP 0 rfl rfl 2 (by decide) (hts _ qaa1) (fun _ h9 => h9) rfl (qaa qrB 5 rfl) ?_
  obtain ⟨hCc, hPc, hDc, hFc⟩ := qac (ws' := (qa8D a0 jif jb7 x1 jl9 jjY jkC jj3)) hP hD hS hA [0] (by decide +kernel) rfl
  refine va_callv (va_runV (As := [.int 1, .int x1]) (rest := []) ⟨hx, hb, hml, hown, hts⟩ (qXo l dC dI cyB cyI cyJ cyP a0 H.size (.ref jif) (.int jb7) (.int x1) (jl9) (jjY) jkC jj3 1 x1 hw) (cwV 2 hts gX8_blameSign_X8_blame rfl rfl rfl (by decide +kernel) ⟨nbq rfl, nbq rfl⟩) ⟨qab, va_recv (q := (RX8, TX8, 7)) hK hPc (ci := 8) (q0 := 0) rfl rfl, qae hPc hK hDc hNw⟩ rfl rfl hl.1 rfl (lv_room (nbq rfl)) (qaa qrB 6 rfl) ⟨nbq rfl, nbq rfl⟩) hS (fun q _ h => hFc q h) hFc (fun u t H1 locs ht hvm hw hB hz1 hk1 hS => ?_)
  obtain ⟨x2, x3⟩ := u
  obtain ⟨hP1, hK1, hD1⟩ := hB
  rw [ht] at hP1
  obtain ⟨hP, hD⟩ := qad (wr := (qaCm jif cyB jjA)) (w1 := (qa8D a0 jif jb7 x1 jl9 jjY x2 x3)) (wn := (qQs a0 jif jb7 x1 jl9 jjY x2 x3 jif cyB jjA)) hP hD [0] [1] [1, 0] hCc rfl (by decide +kernel) (by decide +kernel) (by decide +kernel) rfl hk1 hFc hP1 hD1
  generalize H1 = H at hP hS ⊢
  exact ((W.vret hx hb hr (fun t ht hW => ⟨⟨(x1, x2, x3), rfl, hw, by rw [ht]; exact hP, va_K.moved hW.alike hK, hD⟩, hS.F ht⟩) hS.2.2 (qaa qrB 7 rfl)))
set_option maxHeartbeats 4000000 in
set_option maxRecDepth 100000 in
theorem qtg (l : Launch) (dC : Nat → ClassId) (dI : Nat → Nat → Nat) (cyB cyI cyJ cyP : ClassId) (a0 jif sz : Nat) (jjY : Value) (jb7 : Int32) (jjA : NI) (jcP jlr jkC jj3 p1 : Int32) {Q : Int32 → Int32 → Int32 → Int32 → Prop} (hw : qp1 jb7 jjA jcP jlr jkC jj3 p1 Q) : Met l yX8_needs wsX8_needs ({ frames := 2, cells := 0, slots := 0, locals := 42 }) (va_Pc [.ref a0, .int p1] (cPc (dC, dI) (kT cyB cyI cyJ cyP) (qdL a0 jif jb7 jcP jlr jjY jkC jj3 jif cyB jjA) sz)) (va_Qv (fun (u : Int32 × Int32 × Int32 × Int32) => Q u.1 u.2.1 u.2.2.1 u.2.2.2) (cB (dC, dI) (kT cyB cyI cyJ cyP) (va_A (qdL a0 jif jb7 jcP jlr jjY jkC jj3 jif cyB jjA) sz) (fun u : Int32 × Int32 × Int32 × Int32 => ((qdL a0 jif jb7 u.1 u.2.1 jjY u.2.2.1 u.2.2.2 jif cyB jjA) : va_W))) (va_A (qdL a0 jif jb7 jcP jlr jjY jkC jj3 jif cyB jjA) sz)) 0 0 (va_A (qdL a0 jif jb7 jcP jlr jjY jkC jj3 jif cyB jjA) sz) := by
  refine Met.ofW (cc := cX8_needs) (maxL := 2) (ret := none) (by decide) rfl ?_
  intro p e s m args below meth c s₁ B hml hv
  obtain ⟨rfl, hsz, hP, hK, hD0, hNw⟩ := hv
  have hx := B.exec
  have hb := B.bytes
  have hr := B.returns
  have hts := atoms_spec (ws := wsX8_needs) B.pre
  have hown : s.vm.findClass RX8 = some m.cls := findClass_of_methodNamed B.named
  have hlocks := B.notSynchronized
  subst hsz
  have hD := hD0.self (sz := s.heap.size)
  generalize hAe : va_A (qdL a0 jif jb7 jcP jlr jjY jkC jj3 jif cyB jjA) s.heap.size = A at hD ⊢
  have hA : ∀ q : Nat, s.heap.size ≤ q → A q := fun q h => by rw [← hAe]; exact Or.inr h
  have hS : va_S A s.heap s.heap [] := va_S.rf
  have hP : va_P (dC, dI) vwCl (qdL a0 jif jb7 jcP jlr jjY jkC jj3 jif cyB jjA) s.heap := hP
  have hl := lv_entry ([.ref a0, .int p1]) (n := 2) (nbq rfl)
  rw [lg_entry_eq]
  generalize (lg_sl ([.ref a0, .int p1]) ++ List.replicate (2 - (lg_sl ([.ref a0, .int p1])).length) Slot.unset).toArray = ls at hl ⊢
  have hl : lv_has ls 2 [(0, .ref a0), (1, .int p1)] := hl
  have C0 : cfx p s m _ meth c cX8_needs none wsX8_needs RX8 2 A (dC, dI) (kT cyB cyI cyJ cyP) := ⟨hx, hb, hr, hts, hown, hlocks, hml, hA, hK, hNw⟩
  clear hAe
  obtain ⟨H, hH⟩ : ∃ H, H = s.heap := ⟨_, rfl⟩
  rw [← hH] at hP ⊢
  have hS : va_S A s.heap H [] := by rw [hH]; exact va_S.rf
  have hS := hS
  refine lv_aload_n hx hb (qaa qxf 0 rfl) rfl (lv_at hl 0 rfl) ?_
  refine lv_iload_n hx hb (qaa qxf 1 rfl) rfl (lv_at hl 1 rfl) ?_
  obtain ⟨hCc, hPc, hDc, hFc⟩ := qac (ws' := (qdL a0 jif jb7 jcP jlr jjY jkC jj3 jif cyB jjA)) hP hD hS hA [0, 1] (by decide +kernel) rfl
  refine va_calli (va_runV (As := [.int p1]) (rest := []) ⟨hx, hb, hml, hown, hts⟩ (qsg l dC dI cyB cyI cyJ cyP a0 jif H.size (jjY) (.int jj3) jb7 jkC jjA jcP jlr p1 hw) (cwV 1 hts gX8_needs_X8_takes rfl rfl rfl (by decide +kernel) ⟨nbq rfl, nbq rfl⟩) ⟨qab, va_recv (q := (RX8, TX8, 7)) hK hPc (ci := 8) (q0 := 0) rfl rfl, qae hPc hK hDc hNw⟩ rfl rfl hl.1 rfl (lv_room (nbq rfl)) (qaa qxf 2 rfl) ⟨nbq rfl, nbq rfl⟩) hS (fun q _ h => hFc q h) hFc (fun r3 u t H1 locs ht hvm hw hB hz1 hk1 hS => ?_)
  obtain ⟨x1, x2⟩ := u
  obtain ⟨hP1, hK1, hD1⟩ := hB
  rw [ht] at hP1
  obtain ⟨hP, hD⟩ := qah (wr := []) (w1 := (qdL a0 jif jb7 x1 x2 jjY jkC jj3 jif cyB jjA)) (wn := (qdL a0 jif jb7 x1 x2 jjY jkC jj3 jif cyB jjA)) hP hD [0, 1] [] hCc rfl (by decide +kernel) (by decide +kernel) rfl hk1 hFc hP1 hD1
  generalize H1 = H at hP hS ⊢
  refine lv_if_ne (tgt := 12) hx hb (qaa qxf 3 rfl) (by decide) (fun c4 => ?_) (fun c4 => ?_)
  · have hw := hw.1 c4
    exact ((W.vret hx hb hr (fun t ht hW => ⟨⟨(x1, x2, jkC, jj3), rfl, hw, by rw [ht]; exact hP, va_K.moved hW.alike hK, hD⟩, hS.F ht⟩) hS.2.2 (qaa qxf 6 rfl)))
  · have hw := hw.2 c4
    refine lv_aload_n hx hb (qaa qxf 4 rfl) rfl (lv_at hl 0 rfl) ?_
    obtain ⟨hCc, hPc, hDc, hFc⟩ := qac (ws' := (qdL a0 jif jb7 x1 x2 jjY jkC jj3 jif cyB jjA)) hP hD hS hA [0, 1] (by decide +kernel) rfl
    refine va_callv (va_runV (As := []) (rest := []) ⟨hx, hb, hml, hown, hts⟩ (qCs l dC dI cyB cyI cyJ cyP a0 jif H.size (.int x2) (jjY) jb7 jjA x1 jkC jj3 hw) (cwV 0 hts gX8_needs_X8_blameSign rfl rfl rfl (by decide +kernel) ⟨nbq rfl, nbq rfl⟩) ⟨qab, va_recv (q := (RX8, TX8, 7)) hK hPc (ci := 8) (q0 := 0) rfl rfl, qae hPc hK hDc hNw⟩ rfl rfl hl.1 rfl (lv_room (nbq rfl)) (qaa qxf 5 rfl) ⟨nbq rfl, nbq rfl⟩) hS (fun q _ h => hFc q h) hFc (fun u t H1 locs ht hvm hw hB hz1 hk1 hS => ?_)
    obtain ⟨x5, x6, x7⟩ := u
    obtain ⟨hP1, hK1, hD1⟩ := hB
    rw [ht] at hP1
    obtain ⟨hP, hD⟩ := qah (wr := []) (w1 := (qdL a0 jif jb7 x5 x2 jjY x6 x7 jif cyB jjA)) (wn := (qdL a0 jif jb7 x5 x2 jjY x6 x7 jif cyB jjA)) hP hD [0, 1] [] hCc rfl (by decide +kernel) (by decide +kernel) rfl hk1 hFc hP1 hD1
    generalize H1 = H at hP hS ⊢
    exact ((W.vret hx hb hr (fun t ht hW => ⟨⟨(x5, x2, x6, x7), rfl, hw, by rw [ht]; exact hP, va_K.moved hW.alike hK, hD⟩, hS.F ht⟩) hS.2.2 (qaa qxf 6 rfl)))
theorem qKb : ∀ w ∈ u_ws RX0 TX0 2, w ∈ wsX0_readLine := uiM qmq euX0 (by decide +kernel)
theorem qR0 : (.fieldLink RX0 18 "MarchHares$Book" "many" "I" : Cond) ∈ wsX0_readLine := qmq 262 (by decide +kernel)
theorem qai0 : (.fieldLink RX0 9 "MarchHares$Book" "seen" "[I" : Cond) ∈ wsX0_readLine := qmq 257 (by decide +kernel)
theorem q0u : (.initialized RX10 : Cond) ∈ wsX0_readLine := qmq 2 (by decide +kernel)
theorem qP7 : (.static yX10_within : Cond) ∈ wsX0_readLine := qmq 658 (by decide +kernel)
set_option maxHeartbeats 4000000 in
set_option maxRecDepth 100000 in
theorem qJQ {p : Program} {l : Launch} {e : Env} {s : State} {m : MethodId} {args : Array Value} {below : List Frame} {meth : Method} {c : Code} {A : Nat → Prop} (dC : Nat → ClassId) (dI : Nat → Nat → Nat) (cyB cyI cyJ cyP : ClassId) (a0 a1 jbF jjj : Nat) (jcI : Value) (jb5 : Int32) (jcq : NI) (Q : Int32 → Int32 → Int32 → Int32 → NI → Int32 → Prop) (C0 : cfx p s m args meth c cX0_readLine none wsX0_readLine RX0 5 A (dC, dI) (kT cyB cyI cyJ cyP)) : ∀ (H : Heap) (locs : List Loc) (ls : Array Slot) (jhS jcU jbM jeF : Int32) (jkG : NI) (jkY l3 : Int32), va_P (dC, dI) vwCl (qu2 a0 jjj jkY a1 jbF jb5 jhS jeF jcI jcU jbM jbF cyB jcq jjj cyI jkG) H → va_D A (qu2 a0 jjj jkY a1 jbF jb5 jhS jeF jcI jcU jbM jbF cyB jcq jjj cyI jkG) → va_S A s.heap H locs → lv_has ls 5 [(0, .ref a0), (1, .ref a1), (3, .int l3)] → qvy jb5 jcq Q jhS jcU jbM jeF jkG jkY l3 → W p l e (headSpec wsX0_readLine ({ frames := 3, cells := 0, slots := 0, locals := 63 })).room s m args below meth c H locs 0 0 (MQ below (va_Qv (fun (u : Int32 × Int32 × Int32 × Int32 × NI × Int32) => Q u.1 u.2.1 u.2.2.1 u.2.2.2.1 u.2.2.2.2.1 u.2.2.2.2.2) (cB (dC, dI) (kT cyB cyI cyJ cyP) A (fun u : Int32 × Int32 × Int32 × Int32 × NI × Int32 => ((qu2 a0 jjj u.2.2.2.2.2 a1 jbF jb5 u.1 u.2.2.2.1 jcI u.2.1 u.2.2.1 jbF cyB jcq jjj cyI u.2.2.2.2.1) : va_W))) A) args s 0 0 A) (F0 m 33 ls []) := by
  obtain ⟨hx, hb, hr, hts, hown, hlocks, hml, hA, hK, hNw⟩ := id C0
  intro H locs ls jhS jcU jbM jeF jkG jkY l3 hP hD hS hl hw
  refine lv_aload_n hx hb (qaa qdW 5 rfl) rfl (lv_at hl 1 rfl) ?_
  refine lv_iconst (v := 0) hx hb (qaa qdW 6 rfl) (by decide) ?_
  refine lv_bipush (v := 6) hx hb (qaa qdW 7 rfl) (by decide) ?_
  obtain ⟨hCc, hPc, hDc, hFc⟩ := qac (ws' := (qdL a1 jbF jb5 jhS jeF jcI jcU jbM jbF cyB jcq)) hP hD hS hA [1, 2] (by decide +kernel) rfl
  refine va_calli (va_runV (As := [.int 0, .int 6]) (rest := []) ⟨hx, hb, hml, hown, hts⟩ (qh9 l dC dI cyB cyI cyJ cyP a1 jbF H.size (jcI) jb5 jcq jhS jcU jbM jeF 0 6 hw) (cwV 2 hts gX0_readLine_X8_number rfl rfl rfl (by decide +kernel) ⟨nbq rfl, nbq rfl⟩) ⟨qab, va_recv (q := (RX8, TX8, 7)) hK hPc (ci := 8) (q0 := 0) rfl rfl, qae hPc hK hDc hNw⟩ rfl rfl hl.1 rfl (lv_room (nbq rfl)) (qaa qdW 8 rfl) ⟨nbq rfl, nbq rfl⟩) hS (fun q _ h => hFc q h) hFc (fun r16 u t H1 locs ht hvm hw hB hz1 hk1 hS => ?_)
  obtain ⟨x12, x13, x14, x15⟩ := u
  obtain ⟨hP1, hK1, hD1⟩ := hB
  rw [ht] at hP1
  obtain ⟨hP, hD⟩ := qad (wr := (qwk a0 jjj jkY jjj cyI jkG)) (w1 := (qdL a1 jbF jb5 x12 x15 jcI x13 x14 jbF cyB jcq)) (wn := (qu2 a0 jjj jkY a1 jbF jb5 x12 x15 jcI x13 x14 jbF cyB jcq jjj cyI jkG)) hP hD [1, 2] [0, 3] [0, 2, 3, 1] hCc rfl (by decide +kernel) (by decide +kernel) (by decide +kernel) rfl hk1 hFc hP1 hD1
  generalize H1 = H at hP hS ⊢
  refine lv_istore (lv' := [(4, .int r16), (0, .ref a0), (1, .ref a1), (3, .int l3)]) hx hb (qaa qdW 9 rfl) hl (by decide) rfl (fun ls hl => ?_)
  refine lv_aload_n hx hb (qaa qdW 10 rfl) rfl (lv_at hl 2 rfl) ?_
  refine lv_bipush (v := 59) hx hb (qaa qdW 11 rfl) (by decide) ?_
  obtain ⟨hCc, hPc, hDc, hFc⟩ := qac (ws' := (qdL a1 jbF jb5 x12 x15 jcI x13 x14 jbF cyB jcq)) hP hD hS hA [1, 2] (by decide +kernel) rfl
  refine va_callv (va_runV (As := [.int 59]) (rest := []) ⟨hx, hb, hml, hown, hts⟩ (qtg l dC dI cyB cyI cyJ cyP a1 jbF H.size (jcI) jb5 jcq x12 x15 x13 x14 59 hw) (cwV 1 hts gX0_readLine_X8_needs rfl rfl rfl (by decide +kernel) ⟨nbq rfl, nbq rfl⟩) ⟨qab, va_recv (q := (RX8, TX8, 7)) hK hPc (ci := 8) (q0 := 0) rfl rfl, qae hPc hK hDc hNw⟩ rfl rfl hl.1 rfl (lv_room (nbq rfl)) (qaa qdW 12 rfl) ⟨nbq rfl, nbq rfl⟩) hS (fun q _ h => hFc q h) hFc (fun u t H1 locs ht hvm hw hB hz1 hk1 hS => ?_)
  obtain ⟨x17, x18, x19, x20⟩ := u
  obtain ⟨hP1, hK1, hD1⟩ := hB
  rw [ht] at hP1
  obtain ⟨hP, hD⟩ := qad (wr := (qwk a0 jjj jkY jjj cyI jkG)) (w1 := (qdL a1 jbF jb5 x17 x18 jcI x19 x20 jbF cyB jcq)) (wn := (qu2 a0 jjj jkY a1 jbF jb5 x17 x18 jcI x19 x20 jbF cyB jcq jjj cyI jkG)) hP hD [1, 2] [0, 3] [0, 2, 3, 1] hCc rfl (by decide +kernel) (by decide +kernel) (by decide +kernel) rfl hk1 hFc hP1 hD1
  generalize H1 = H at hP hS ⊢
  refine lv_aload_n hx hb (qaa qdW 13 rfl) rfl (lv_at hl 2 rfl) ?_
  obtain ⟨hCc, hPc, hDc, hFc⟩ := qac (ws' := (qL0 a1 jbF jb5 x17 x18 jcI x19 x20)) hP hD hS hA [1] (by decide +kernel) rfl
  refine va_calli (va_runV (As := []) (rest := []) ⟨hx, hb, hml, hown, hts⟩ (qkj l dC dI cyB cyI cyJ cyP a1 H.size (.ref jbF) (.int jb5) (.int x17) (.int x18) (jcI) (.int x20) x19 hw) (cwV 0 hts gX0_readLine_X8_isFaulty rfl rfl rfl (by decide +kernel) ⟨nbq rfl, nbq rfl⟩) ⟨qab, va_recv (q := (RX8, TX8, 7)) hK hPc (ci := 8) (q0 := 0) rfl rfl, qae hPc hK hDc hNw⟩ rfl rfl hl.1 rfl (lv_room (nbq rfl)) (qaa qdW 14 rfl) ⟨nbq rfl, nbq rfl⟩) hS (fun q _ h => hFc q h) hFc (fun r21 u t H1 locs ht hvm hw hB hz1 hk1 hS => ?_)
  obtain ⟨hP1, hK1, hD1⟩ := hB
  rw [ht] at hP1
  obtain ⟨hP, hD⟩ := qad (wr := (qa3p a0 jjj jkY jbF cyB jcq jjj cyI jkG)) (w1 := (qL0 a1 jbF jb5 x17 x18 jcI x19 x20)) (wn := (qu2 a0 jjj jkY a1 jbF jb5 x17 x18 jcI x19 x20 jbF cyB jcq jjj cyI jkG)) hP hD [1] [0, 2, 3] [0, 3, 1, 2] hCc rfl (by decide +kernel) (by decide +kernel) (by decide +kernel) rfl hk1 hFc hP1 hD1
  generalize H1 = H at hP hS ⊢
  refine lv_if_ne (tgt := 73) hx hb (qaa qdW 15 rfl) (by decide) (fun c22 => ?_) (fun c22 => ?_)
  · have hw := hw.1 c22
    exact ((W.vret hx hb hr (fun t ht hW => ⟨⟨(x17, x19, x20, x18, jkG, jkY), rfl, hw, by rw [ht]; exact hP, va_K.moved hW.alike hK, hD⟩, hS.F ht⟩) hS.2.2 (qaa qif 11 rfl)))
  · have hw := hw.2 c22
    refine lv_aload_n hx hb (qaa qif 0 rfl) rfl (lv_at hl 1 rfl) ?_
    refine va_get (D := (dC, dI)) (ci := 0) (v := .ref jjj) (C := RX0) (T := TX0) (N := 2) hx hb hts qKb hown hK hP 0 rfl rfl 0 (by decide) (hts _ qai0) (fun _ h9 => h9) rfl (qaa qif 1 rfl) ?_
    refine lv_iload_n hx hb (qaa qif 2 rfl) rfl (lv_at hl 3 rfl) ?_
    refine lv_iload hx hb (qaa qif 3 rfl) (lv_at hl 0 rfl) ?_
    obtain ⟨hi9, hw⟩ := hw
    refine va_iast hx hb hK hP hD hS 3 1 rfl rfl hi9 (qaa qif 4 rfl) (fun H locs hP hD hS => ?_)
    obtain ⟨f23, ef23⟩ : ∃ y : NI, y = upd jkG l3.toNatClampNeg r16 := ⟨_, rfl⟩
    have hw := hw f23 ef23
    have hP : va_P (dC, dI) vwCl (qu2 a0 jjj jkY a1 jbF jb5 x17 x18 jcI x19 x20 jbF cyB jcq jjj cyI f23) H := by rw [ef23]; exact hP
    have hD : va_D A (qu2 a0 jjj jkY a1 jbF jb5 x17 x18 jcI x19 x20 jbF cyB jcq jjj cyI f23) := by rw [ef23]; exact hD
    refine lv_aload_n hx hb (qaa qif 5 rfl) rfl (lv_at hl 1 rfl) ?_
    refine lv_dup hx hb (qaa qif 6 rfl) rfl ?_
    refine va_get (D := (dC, dI)) (ci := 0) (v := .int jkY) (C := RX0) (T := TX0) (N := 2) hx hb hts qKb hown hK hP 0 rfl rfl 1 (by decide) (hts _ qR0) (fun _ h9 => h9) rfl (qaa qif 7 rfl) ?_
    refine lv_iconst (v := 1) hx hb (qaa qif 8 rfl) (by decide) ?_
    refine lv_iadd hx hb (qaa qif 9 rfl) ?_
    refine lv_topi (fun x24 ex24 => ?_)
    have hw := hw x24 ex24
    refine va_put (D := (dC, dI)) (ci := 0) (v := .int x24) (ty := .int) (C := RX0) (T := TX0) (N := 2) hx hb hts qKb tyX0 tyX0_ok nmX0 hown hK hP hD hS 0 rfl rfl 1 (by decide) (hts _ qR0) (fun _ h9 => h9) rfl (by decide +kernel) rfl rfl (nbq rfl) (qaa qif 10 rfl) (fun H locs hP hD hS => ?_)
    have hP : va_P (dC, dI) vwCl (qu2 a0 jjj x24 a1 jbF jb5 x17 x18 jcI x19 x20 jbF cyB jcq jjj cyI f23) H := hP
    have hD : va_D A (qu2 a0 jjj x24 a1 jbF jb5 x17 x18 jcI x19 x20 jbF cyB jcq jjj cyI f23) := hD
    exact ((W.vret hx hb hr (fun t ht hW => ⟨⟨(x17, x19, x20, x18, f23, x24), rfl, hw, by rw [ht]; exact hP, va_K.moved hW.alike hK, hD⟩, hS.F ht⟩) hS.2.2 (qaa qif 11 rfl)))
set_option maxHeartbeats 4000000 in
set_option maxRecDepth 100000 in
theorem qaHn (l : Launch) (dC : Nat → ClassId) (dI : Nat → Nat → Nat) (cyB cyI cyJ cyP : ClassId) (a0 a1 jbF jjj sz : Nat) (jcI : Value) (jb5 : Int32) (jcq : NI) (jhS jcU jbM jeF : Int32) (jkG : NI) (jkY p2 : Int32) {Q : Int32 → Int32 → Int32 → Int32 → NI → Int32 → Prop} (hw : qTT jb5 jcq jhS jcU jbM jeF jkG jkY p2 Q) : Met l yX0_readLine wsX0_readLine ({ frames := 3, cells := 0, slots := 0, locals := 63 }) (va_Pc [.ref a0, .ref a1, .int p2] (cPc (dC, dI) (kT cyB cyI cyJ cyP) (qu2 a0 jjj jkY a1 jbF jb5 jhS jeF jcI jcU jbM jbF cyB jcq jjj cyI jkG) sz)) (va_Qv (fun (u : Int32 × Int32 × Int32 × Int32 × NI × Int32) => Q u.1 u.2.1 u.2.2.1 u.2.2.2.1 u.2.2.2.2.1 u.2.2.2.2.2) (cB (dC, dI) (kT cyB cyI cyJ cyP) (va_A (qu2 a0 jjj jkY a1 jbF jb5 jhS jeF jcI jcU jbM jbF cyB jcq jjj cyI jkG) sz) (fun u : Int32 × Int32 × Int32 × Int32 × NI × Int32 => ((qu2 a0 jjj u.2.2.2.2.2 a1 jbF jb5 u.1 u.2.2.2.1 jcI u.2.1 u.2.2.1 jbF cyB jcq jjj cyI u.2.2.2.2.1) : va_W))) (va_A (qu2 a0 jjj jkY a1 jbF jb5 jhS jeF jcI jcU jbM jbF cyB jcq jjj cyI jkG) sz)) 0 0 (va_A (qu2 a0 jjj jkY a1 jbF jb5 jhS jeF jcI jcU jbM jbF cyB jcq jjj cyI jkG) sz) := by
  refine Met.ofW (cc := cX0_readLine) (maxL := 5) (ret := none) (by decide) rfl ?_
  intro p e s m args below meth c s₁ B hml hv
  obtain ⟨rfl, hsz, hP, hK, hD0, hNw⟩ := hv
  have hx := B.exec
  have hb := B.bytes
  have hr := B.returns
  have hts := atoms_spec (ws := wsX0_readLine) B.pre
  have hown : s.vm.findClass RX0 = some m.cls := findClass_of_methodNamed B.named
  have hlocks := B.notSynchronized
  subst hsz
  have hD := hD0.self (sz := s.heap.size)
  generalize hAe : va_A (qu2 a0 jjj jkY a1 jbF jb5 jhS jeF jcI jcU jbM jbF cyB jcq jjj cyI jkG) s.heap.size = A at hD ⊢
  have hA : ∀ q : Nat, s.heap.size ≤ q → A q := fun q h => by rw [← hAe]; exact Or.inr h
  have hS : va_S A s.heap s.heap [] := va_S.rf
  have hP : va_P (dC, dI) vwCl (qu2 a0 jjj jkY a1 jbF jb5 jhS jeF jcI jcU jbM jbF cyB jcq jjj cyI jkG) s.heap := hP
  have hl := lv_entry ([.ref a0, .ref a1, .int p2]) (n := 5) (nbq rfl)
  rw [lg_entry_eq]
  generalize (lg_sl ([.ref a0, .ref a1, .int p2]) ++ List.replicate (5 - (lg_sl ([.ref a0, .ref a1, .int p2])).length) Slot.unset).toArray = ls at hl ⊢
  have hl : lv_has ls 5 [(0, .ref a0), (1, .ref a1), (2, .int p2)] := hl
  have C0 : cfx p s m _ meth c cX0_readLine none wsX0_readLine RX0 5 A (dC, dI) (kT cyB cyI cyJ cyP) := ⟨hx, hb, hr, hts, hown, hlocks, hml, hA, hK, hNw⟩
  clear hAe
  obtain ⟨H, hH⟩ : ∃ H, H = s.heap := ⟨_, rfl⟩
  rw [← hH] at hP ⊢
  have hS : va_S A s.heap H [] := by rw [hH]; exact va_S.rf
  have hS := hS
  refine lv_aload_n hx hb (qaa qfS 0 rfl) rfl (lv_at hl 1 rfl) ?_
  refine lv_iconst (v := 0) hx hb (qaa qfS 1 rfl) (by decide) ?_
  refine lv_iload_n hx hb (qaa qfS 2 rfl) rfl (lv_at hl 2 rfl) ?_
  refine lv_iconst (v := 1) hx hb (qaa qfS 3 rfl) (by decide) ?_
  refine lv_isub hx hb (qaa qfS 4 rfl) ?_
  obtain ⟨hCc, hPc, hDc, hFc⟩ := qac (ws' := (qdL a1 jbF jb5 jhS jeF jcI jcU jbM jbF cyB jcq)) hP hD hS hA [1, 2] (by decide +kernel) rfl
  refine va_calli (va_runV (As := [.int 0, .int (p2 - 1)]) (rest := []) ⟨hx, hb, hml, hown, hts⟩ (qh9 l dC dI cyB cyI cyJ cyP a1 jbF H.size (jcI) jb5 jcq jhS jcU jbM jeF 0 (p2 - 1) hw) (cwV 2 hts gX0_readLine_X8_number rfl rfl rfl (by decide +kernel) ⟨nbq rfl, nbq rfl⟩) ⟨qab, va_recv (q := (RX8, TX8, 7)) hK hPc (ci := 8) (q0 := 0) rfl rfl, qae hPc hK hDc hNw⟩ rfl rfl hl.1 rfl (lv_room (nbq rfl)) (qaa qfS 5 rfl) ⟨nbq rfl, nbq rfl⟩) hS (fun q _ h => hFc q h) hFc (fun r5 u t H1 locs ht hvm hw hB hz1 hk1 hS => ?_)
  obtain ⟨x1, x2, x3, x4⟩ := u
  obtain ⟨hP1, hK1, hD1⟩ := hB
  rw [ht] at hP1
  obtain ⟨hP, hD⟩ := qad (wr := (qwk a0 jjj jkY jjj cyI jkG)) (w1 := (qdL a1 jbF jb5 x1 x4 jcI x2 x3 jbF cyB jcq)) (wn := (qu2 a0 jjj jkY a1 jbF jb5 x1 x4 jcI x2 x3 jbF cyB jcq jjj cyI jkG)) hP hD [1, 2] [0, 3] [0, 2, 3, 1] hCc rfl (by decide +kernel) (by decide +kernel) (by decide +kernel) rfl hk1 hFc hP1 hD1
  generalize H1 = H at hP hS ⊢
  refine lv_istore_n (lv' := [(3, .int r5), (0, .ref a0), (1, .ref a1), (2, .int p2)]) hx hb (qaa qfS 6 rfl) rfl hl (by decide) rfl (fun ls hl => ?_)
  refine lv_iload_n hx hb (qaa qfS 7 rfl) rfl (lv_at hl 0 rfl) ?_
  refine lv_iconst (v := 0) hx hb (qaa qfS 8 rfl) (by decide) ?_
  refine lv_iload_n hx hb (qaa qfS 9 rfl) rfl (lv_at hl 3 rfl) ?_
  refine lv_iconst (v := 1) hx hb (qaa qfS 10 rfl) (by decide) ?_
  refine lv_isub hx hb (qaa qfS 11 rfl) ?_
  obtain ⟨hCc, hPc, hDc, hFc⟩ := qac (ws' := []) hP hD hS hA [] (by decide +kernel) rfl
  refine va_calli (va_runSN (As := [.int r5, .int 0, .int (p2 - 1)]) (rest := []) ⟨hx, hb, hml, hown, hts⟩ (qzC l dC dI cyB cyI cyJ cyP H.size r5 0 (p2 - 1) hw) ⟨(va_cnB 3 hts gX0_readLine_X10_within_n39 rfl rfl rfl (nw_7 hNw) (hts _ q0u) (by decide +kernel) ⟨nbq rfl, nbq rfl⟩), (hts _ qP7), trivial⟩ ⟨qab, qae hPc hK hDc hNw⟩ rfl rfl hl.1 rfl (lv_room (nbq rfl)) (qaa qfS 12 rfl) ⟨nbq rfl, nbq rfl⟩) hS (fun q _ h => hFc q h) hFc (fun r6 u t H1 locs ht hvm hw hB hz1 hk1 hS => ?_)
  obtain ⟨hP1, hK1, hD1⟩ := hB
  rw [ht] at hP1
  obtain ⟨hP, hD⟩ := qah (wr := (qu2 a0 jjj jkY a1 jbF jb5 x1 x4 jcI x2 x3 jbF cyB jcq jjj cyI jkG)) (w1 := []) (wn := (qu2 a0 jjj jkY a1 jbF jb5 x1 x4 jcI x2 x3 jbF cyB jcq jjj cyI jkG)) hP hD [] [0, 1, 2, 3] hCc rfl (by decide +kernel) (by decide +kernel) rfl hk1 hFc hP1 hD1
  generalize H1 = H at hP hS ⊢
  refine lv_if_eq (tgt := 33) hx hb (qaa qfS 13 rfl) (by decide) (fun c7 => ?_) (fun c7 => ?_)
  · have hw := hw.1 c7
    exact qJQ dC dI cyB cyI cyJ cyP a0 a1 jbF jjj jcI jb5 jcq Q C0 _ _ _ x1 x2 x3 x4 jkG jkY r5 hP hD hS (lv_sub hl [1, 2, 0] rfl) hw
  · have hw := hw.2 c7
    refine lv_aload_n hx hb (qaa qfS 14 rfl) rfl (lv_at hl 1 rfl) ?_
    refine lv_iload_n hx hb (qaa qfS 15 rfl) rfl (lv_at hl 0 rfl) ?_
    obtain ⟨hCc, hPc, hDc, hFc⟩ := qac (ws' := (qwk a0 jjj jkY jjj cyI jkG)) hP hD hS hA [0, 3] (by decide +kernel) rfl
    refine va_calli (va_runV (As := [.int r5]) (rest := []) ⟨hx, hb, hml, hown, hts⟩ (qaDK l dC dI cyB cyI cyJ cyP a0 jjj H.size (.int jkY) jkG r5 hw) (cwV 1 hts gX0_readLine_X0_tells rfl rfl rfl (by decide +kernel) ⟨nbq rfl, nbq rfl⟩) ⟨qab, va_recv (q := (RX0, TX0, 2)) hK hPc (ci := 0) (q0 := 0) rfl rfl, qae hPc hK hDc hNw⟩ rfl rfl hl.1 rfl (lv_room (nbq rfl)) (qaa qdW 0 rfl) ⟨nbq rfl, nbq rfl⟩) hS (fun q _ h => hFc q h) hFc (fun r8 u t H1 locs ht hvm hw hB hz1 hk1 hS => ?_)
    obtain ⟨hP1, hK1, hD1⟩ := hB
    rw [ht] at hP1
    obtain ⟨hP, hD⟩ := qad (wr := (qdL a1 jbF jb5 x1 x4 jcI x2 x3 jbF cyB jcq)) (w1 := (qwk a0 jjj jkY jjj cyI jkG)) (wn := (qu2 a0 jjj jkY a1 jbF jb5 x1 x4 jcI x2 x3 jbF cyB jcq jjj cyI jkG)) hP hD [0, 3] [1, 2] [2, 0, 1, 3] hCc rfl (by decide +kernel) (by decide +kernel) (by decide +kernel) rfl hk1 hFc hP1 hD1
    generalize H1 = H at hP hS ⊢
    refine lv_if_eq (tgt := 33) hx hb (qaa qdW 1 rfl) (by decide) (fun c9 => ?_) (fun c9 => ?_)
    · have hw := hw.1 c9
      exact qJQ dC dI cyB cyI cyJ cyP a0 a1 jbF jjj jcI jb5 jcq Q C0 _ _ _ x1 x2 x3 x4 jkG jkY r5 hP hD hS (lv_sub hl [1, 2, 0] rfl) hw
    · have hw := hw.2 c9
      refine lv_aload_n hx hb (qaa qdW 2 rfl) rfl (lv_at hl 2 rfl) ?_
      refine lv_iconst (v := 2) hx hb (qaa qdW 3 rfl) (by decide) ?_
      obtain ⟨hCc, hPc, hDc, hFc⟩ := qac (ws' := (qL0 a1 jbF jb5 x1 x4 jcI x2 x3)) hP hD hS hA [1] (by decide +kernel) rfl
      refine va_callv (va_runV (As := [.int 2]) (rest := []) ⟨hx, hb, hml, hown, hts⟩ (qnW l dC dI cyB cyI cyJ cyP a1 H.size (.ref jbF) (.int jb5) (.int x1) (jcI) x4 x2 x3 2 hw) (cwV 1 hts gX0_readLine_X8_blameToken rfl rfl rfl (by decide +kernel) ⟨nbq rfl, nbq rfl⟩) ⟨qab, va_recv (q := (RX8, TX8, 7)) hK hPc (ci := 8) (q0 := 0) rfl rfl, qae hPc hK hDc hNw⟩ rfl rfl hl.1 rfl (lv_room (nbq rfl)) (qaa qdW 4 rfl) ⟨nbq rfl, nbq rfl⟩) hS (fun q _ h => hFc q h) hFc (fun u t H1 locs ht hvm hw hB hz1 hk1 hS => ?_)
      obtain ⟨x10, x11⟩ := u
      obtain ⟨hP1, hK1, hD1⟩ := hB
      rw [ht] at hP1
      obtain ⟨hP, hD⟩ := qad (wr := (qa3p a0 jjj jkY jbF cyB jcq jjj cyI jkG)) (w1 := (qL0 a1 jbF jb5 x1 x4 jcI x10 x11)) (wn := (qu2 a0 jjj jkY a1 jbF jb5 x1 x4 jcI x10 x11 jbF cyB jcq jjj cyI jkG)) hP hD [1] [0, 2, 3] [0, 3, 1, 2] hCc rfl (by decide +kernel) (by decide +kernel) (by decide +kernel) rfl hk1 hFc hP1 hD1
      generalize H1 = H at hP hS ⊢
      exact qJQ dC dI cyB cyI cyJ cyP a0 a1 jbF jjj jcI jb5 jcq Q C0 _ _ _ x1 x10 x11 x4 jkG jkY r5 hP hD hS (lv_sub hl [1, 2, 0] rfl) hw
set_option maxHeartbeats 4000000 in
set_option maxRecDepth 100000 in
theorem qarO {p : Program} {l : Launch} {e : Env} {s : State} {m : MethodId} {args : Array Value} {below : List Frame} {meth : Method} {c : Code} {A : Nat → Prop} (dC : Nat → ClassId) (dI : Nat → Nat → Nat) (cyB cyI cyJ cyP : ClassId) (a0 a1 jjj jbF : Nat) (jcI : Value) (jb5 : Int32) (jcq : NI) (Q : Int32 → NI → Int32 → Int32 → Int32 → Int32 → Prop) (C0 : cfx p s m args meth c cX0_readFrom none wsX0_readFrom RX0 4 A (dC, dI) (kT cyB cyI cyJ cyP)) : ∀ (n : Nat) (H : Heap) (locs : List Loc) (ls : Array Slot) (jkY : Int32) (jkG : NI) (jhS jcU jbM jeF l2 l3 : Int32), va_P (dC, dI) vwCl (qHs a0 jjj jkY jjj cyI jkG a1 jbF jb5 jhS jeF jcI jcU jbM jbF cyB jcq) H → va_D A (qHs a0 jjj jkY jjj cyI jkG a1 jbF jb5 jhS jeF jcI jcU jbM jbF cyB jcq) → va_S A s.heap H locs → lv_has ls 4 [(0, .ref a0), (1, .ref a1), (2, .int l2), (3, .int l3)] → qER jb5 jcq Q n jkY jkG jhS jcU jbM jeF l2 l3 → W p l e (headSpec wsX0_readFrom ({ frames := 4, cells := 0, slots := 0, locals := 87 })).room s m args below meth c H locs 0 0 (MQ below (va_Qv (fun (u : Int32 × NI × Int32 × Int32 × Int32 × Int32) => Q u.1 u.2.1 u.2.2.1 u.2.2.2.1 u.2.2.2.2.1 u.2.2.2.2.2) (cB (dC, dI) (kT cyB cyI cyJ cyP) A (fun u : Int32 × NI × Int32 × Int32 × Int32 × Int32 => ((qHs a0 jjj u.1 jjj cyI u.2.1 a1 jbF jb5 u.2.2.1 u.2.2.2.2.2 jcI u.2.2.2.1 u.2.2.2.2.1 jbF cyB jcq) : va_W))) A) args s 0 0 A) (F0 m 6 ls []) := by
  obtain ⟨hx, hb, hr, hts, hown, hlocks, hml, hA, hK, hNw⟩ := id C0
  intro n
  induction n with
  | zero => intro H locs ls jkY jkG jhS jcU jbM jeF l2 l3 hP hD hS hl hw; exact False.elim hw
  | succ n ih =>
    intro H locs ls jkY jkG jhS jcU jbM jeF l2 l3 hP hD hS hl hw
    refine lv_iload_n hx hb (qaa qfT 4 rfl) rfl (lv_at hl 3 rfl) ?_
    refine lv_bipush (v := 8) hx hb (qaa qfT 5 rfl) (by decide) ?_
    refine lv_icmp_gt (tgt := 38) hx hb (qaa qfT 6 rfl) (by decide) (fun c3 => ?_) (fun c3 => ?_)
    · have hw := hw.1 c3
      exact ((W.vret hx hb hr (fun t ht hW => ⟨⟨(jkY, jkG, jhS, jcU, jbM, jeF), rfl, hw, by rw [ht]; exact hP, va_K.moved hW.alike hK, hD⟩, hS.F ht⟩) hS.2.2 (qaa qvz 3 rfl)))
    · have hw := hw.2 c3
      refine lv_aload_n hx hb (qaa qfT 7 rfl) rfl (lv_at hl 1 rfl) ?_
      obtain ⟨hCc, hPc, hDc, hFc⟩ := qac (ws' := (qL0 a1 jbF jb5 jhS jeF jcI jcU jbM)) hP hD hS hA [2] (by decide +kernel) rfl
      refine va_calli (va_runV (As := []) (rest := []) ⟨hx, hb, hml, hown, hts⟩ (qkj l dC dI cyB cyI cyJ cyP a1 H.size (.ref jbF) (.int jb5) (.int jhS) (.int jeF) (jcI) (.int jbM) jcU hw) (cwV 0 hts gX0_readFrom_X8_isFaulty rfl rfl rfl (by decide +kernel) ⟨nbq rfl, nbq rfl⟩) ⟨qab, va_recv (q := (RX8, TX8, 7)) hK hPc (ci := 8) (q0 := 0) rfl rfl, qae hPc hK hDc hNw⟩ rfl rfl hl.1 rfl (lv_room (nbq rfl)) (qaa qfT 8 rfl) ⟨nbq rfl, nbq rfl⟩) hS (fun q _ h => hFc q h) hFc (fun r4 u t H1 locs ht hvm hw hB hz1 hk1 hS => ?_)
      obtain ⟨hP1, hK1, hD1⟩ := hB
      rw [ht] at hP1
      obtain ⟨hP, hD⟩ := qad (wr := [(a0, .inr (0, [.ref jjj, .int jkY])), (jjj, .inl (cyI, 8, .inl jkG)), (jbF, .inl (cyB, 600, .inl jcq))]) (w1 := (qL0 a1 jbF jb5 jhS jeF jcI jcU jbM)) (wn := (qHs a0 jjj jkY jjj cyI jkG a1 jbF jb5 jhS jeF jcI jcU jbM jbF cyB jcq)) hP hD [2] [0, 1, 3] [0, 1, 3, 2] hCc rfl (by decide +kernel) (by decide +kernel) (by decide +kernel) rfl hk1 hFc hP1 hD1
      generalize H1 = H at hP hS ⊢
      refine lv_if_ne (tgt := 38) hx hb (qaa qfT 9 rfl) (by decide) (fun c5 => ?_) (fun c5 => ?_)
      · have hw := hw.1 c5
        exact ((W.vret hx hb hr (fun t ht hW => ⟨⟨(jkY, jkG, jhS, jcU, jbM, jeF), rfl, hw, by rw [ht]; exact hP, va_K.moved hW.alike hK, hD⟩, hS.F ht⟩) hS.2.2 (qaa qvz 3 rfl)))
      · have hw := hw.2 c5
        refine lv_aload_n hx hb (qaa qfT 10 rfl) rfl (lv_at hl 1 rfl) ?_
        obtain ⟨hCc, hPc, hDc, hFc⟩ := qac (ws' := (qdL a1 jbF jb5 jhS jeF jcI jcU jbM jbF cyB jcq)) hP hD hS hA [2, 3] (by decide +kernel) rfl
        refine va_calli (va_runV (As := []) (rest := []) ⟨hx, hb, hml, hown, hts⟩ (qN1 l dC dI cyB cyI cyJ cyP a1 jbF H.size (.int jeF) (jcI) (.int jcU) (.int jbM) jb5 jcq jhS hw) (cwV 0 hts gX0_readFrom_X8_isEnded rfl rfl rfl (by decide +kernel) ⟨nbq rfl, nbq rfl⟩) ⟨qab, va_recv (q := (RX8, TX8, 7)) hK hPc (ci := 8) (q0 := 0) rfl rfl, qae hPc hK hDc hNw⟩ rfl rfl hl.1 rfl (lv_room (nbq rfl)) (qaa qfT 11 rfl) ⟨nbq rfl, nbq rfl⟩) hS (fun q _ h => hFc q h) hFc (fun r7 u t H1 locs ht hvm hw hB hz1 hk1 hS => ?_)
        obtain ⟨x6, rfl⟩ : ∃ z, z = u := ⟨_, rfl⟩
        obtain ⟨hP1, hK1, hD1⟩ := hB
        rw [ht] at hP1
        obtain ⟨hP, hD⟩ := qah (wr := (qwk a0 jjj jkY jjj cyI jkG)) (w1 := (qdL a1 jbF jb5 x6 jeF jcI jcU jbM jbF cyB jcq)) (wn := (qHs a0 jjj jkY jjj cyI jkG a1 jbF jb5 x6 jeF jcI jcU jbM jbF cyB jcq)) hP hD [2, 3] [0, 1] hCc rfl (by decide +kernel) (by decide +kernel) rfl hk1 hFc hP1 hD1
        generalize H1 = H at hP hS ⊢
        refine lv_if_ne (tgt := 38) hx hb (qaa qfT 12 rfl) (by decide) (fun c8 => ?_) (fun c8 => ?_)
        · have hw := hw.1 c8
          exact ((W.vret hx hb hr (fun t ht hW => ⟨⟨(jkY, jkG, x6, jcU, jbM, jeF), rfl, hw, by rw [ht]; exact hP, va_K.moved hW.alike hK, hD⟩, hS.F ht⟩) hS.2.2 (qaa qvz 3 rfl)))
        · have hw := hw.2 c8
          refine lv_aload_n hx hb (qaa qfT 13 rfl) rfl (lv_at hl 0 rfl) ?_
          refine lv_aload_n hx hb (qaa qfT 14 rfl) rfl (lv_at hl 1 rfl) ?_
          refine lv_iload_n hx hb (qaa qfT 15 rfl) rfl (lv_at hl 2 rfl) ?_
          obtain ⟨hCc, hPc, hDc, hFc⟩ := qac (ws' := (qu2 a0 jjj jkY a1 jbF jb5 x6 jeF jcI jcU jbM jbF cyB jcq jjj cyI jkG)) hP hD hS hA [0, 2, 3, 1] (by decide +kernel) rfl
          refine va_callv (va_runV (As := [.ref a1, .int l2]) (rest := []) ⟨hx, hb, hml, hown, hts⟩ (qaHn l dC dI cyB cyI cyJ cyP a0 a1 jbF jjj H.size (jcI) jb5 jcq x6 jcU jbM jeF jkG jkY l2 hw) (cwV 2 hts gX0_readFrom_X0_readLine rfl rfl rfl (by decide +kernel) ⟨nbq rfl, nbq rfl⟩) ⟨qab, va_recv (q := (RX0, TX0, 2)) hK hPc (ci := 0) (q0 := 0) rfl rfl, qae hPc hK hDc hNw⟩ rfl rfl hl.1 rfl (lv_room (nbq rfl)) (qaa qvz 0 rfl) ⟨nbq rfl, nbq rfl⟩) hS (fun q _ h => hFc q h) hFc (fun u t H1 locs ht hvm hw hB hz1 hk1 hS => ?_)
          obtain ⟨x9, x10, x11, x12, f13, x14⟩ := u
          obtain ⟨hP1, hK1, hD1⟩ := hB
          rw [ht] at hP1
          obtain ⟨hP, hD⟩ := qad (wr := []) (w1 := (qu2 a0 jjj x14 a1 jbF jb5 x9 x12 jcI x10 x11 jbF cyB jcq jjj cyI f13)) (wn := (qHs a0 jjj x14 jjj cyI f13 a1 jbF jb5 x9 x12 jcI x10 x11 jbF cyB jcq)) hP hD [0, 2, 3, 1] [] [0, 3, 1, 2] hCc rfl (by decide +kernel) (by decide +kernel) (by decide +kernel) rfl hk1 hFc hP1 hD1
          generalize H1 = H at hP hS ⊢
          obtain ⟨x15, ex15⟩ : ∃ y : Int32, y = l3 + 1 := ⟨_, rfl⟩
          have hw := hw x15 ex15
          refine lv_iinc (v := x15) (lv' := [(3, .int x15), (0, .ref a0), (1, .ref a1), (2, .int l2)]) hx hb (qaa qvz 1 rfl) hl (k := 3) rfl (by rw [ex15]; rfl) (by decide) rfl (fun ls hl => ?_)
          refine lv_goto (tgt := 6) hx hb (qaa qvz 2 rfl) (by decide) ?_
          exact ih _ _ _ x14 f13 x9 x10 x11 x12 l2 x15 hP hD hS (lv_sub hl [1, 2, 3, 0] rfl) hw
set_option maxHeartbeats 4000000 in
set_option maxRecDepth 100000 in
theorem qaHU (l : Launch) (dC : Nat → ClassId) (dI : Nat → Nat → Nat) (cyB cyI cyJ cyP : ClassId) (a0 a1 jjj jbF sz : Nat) (jcI : Value) (jb5 : Int32) (jcq : NI) (jkY : Int32) (jkG : NI) (jhS jcU jbM jeF p2 : Int32) {Q : Int32 → NI → Int32 → Int32 → Int32 → Int32 → Prop} (hw : q7w jb5 jcq jkY jkG jhS jcU jbM jeF p2 Q) : Met l yX0_readFrom wsX0_readFrom ({ frames := 4, cells := 0, slots := 0, locals := 87 }) (va_Pc [.ref a0, .ref a1, .int p2] (cPc (dC, dI) (kT cyB cyI cyJ cyP) (qHs a0 jjj jkY jjj cyI jkG a1 jbF jb5 jhS jeF jcI jcU jbM jbF cyB jcq) sz)) (va_Qv (fun (u : Int32 × NI × Int32 × Int32 × Int32 × Int32) => Q u.1 u.2.1 u.2.2.1 u.2.2.2.1 u.2.2.2.2.1 u.2.2.2.2.2) (cB (dC, dI) (kT cyB cyI cyJ cyP) (va_A (qHs a0 jjj jkY jjj cyI jkG a1 jbF jb5 jhS jeF jcI jcU jbM jbF cyB jcq) sz) (fun u : Int32 × NI × Int32 × Int32 × Int32 × Int32 => ((qHs a0 jjj u.1 jjj cyI u.2.1 a1 jbF jb5 u.2.2.1 u.2.2.2.2.2 jcI u.2.2.2.1 u.2.2.2.2.1 jbF cyB jcq) : va_W))) (va_A (qHs a0 jjj jkY jjj cyI jkG a1 jbF jb5 jhS jeF jcI jcU jbM jbF cyB jcq) sz)) 0 0 (va_A (qHs a0 jjj jkY jjj cyI jkG a1 jbF jb5 jhS jeF jcI jcU jbM jbF cyB jcq) sz) := by
  refine Met.ofW (cc := cX0_readFrom) (maxL := 4) (ret := none) (by decide) rfl ?_
  intro p e s m args below meth c s₁ B hml hv
  obtain ⟨rfl, hsz, hP, hK, hD0, hNw⟩ := hv
  have hx := B.exec
  have hb := B.bytes
  have hr := B.returns
  have hts := atoms_spec (ws := wsX0_readFrom) B.pre
  have hown : s.vm.findClass RX0 = some m.cls := findClass_of_methodNamed B.named
  have hlocks := B.notSynchronized
  subst hsz
  have hD := hD0.self (sz := s.heap.size)
  generalize hAe : va_A (qHs a0 jjj jkY jjj cyI jkG a1 jbF jb5 jhS jeF jcI jcU jbM jbF cyB jcq) s.heap.size = A at hD ⊢
  have hA : ∀ q : Nat, s.heap.size ≤ q → A q := fun q h => by rw [← hAe]; exact Or.inr h
  have hS : va_S A s.heap s.heap [] := va_S.rf
  have hP : va_P (dC, dI) vwCl (qHs a0 jjj jkY jjj cyI jkG a1 jbF jb5 jhS jeF jcI jcU jbM jbF cyB jcq) s.heap := hP
  have hl := lv_entry ([.ref a0, .ref a1, .int p2]) (n := 4) (nbq rfl)
  rw [lg_entry_eq]
  generalize (lg_sl ([.ref a0, .ref a1, .int p2]) ++ List.replicate (4 - (lg_sl ([.ref a0, .ref a1, .int p2])).length) Slot.unset).toArray = ls at hl ⊢
  have hl : lv_has ls 4 [(0, .ref a0), (1, .ref a1), (2, .int p2)] := hl
  have C0 : cfx p s m _ meth c cX0_readFrom none wsX0_readFrom RX0 4 A (dC, dI) (kT cyB cyI cyJ cyP) := ⟨hx, hb, hr, hts, hown, hlocks, hml, hA, hK, hNw⟩
  clear hAe
  obtain ⟨H, hH⟩ : ∃ H, H = s.heap := ⟨_, rfl⟩
  rw [← hH] at hP ⊢
  have hS : va_S A s.heap H [] := by rw [hH]; exact va_S.rf
  have hS := hS
  refine lv_aload_n hx hb (qaa qfT 0 rfl) rfl (lv_at hl 0 rfl) ?_
  obtain ⟨hCc, hPc, hDc, hFc⟩ := qac (ws' := (qwk a0 jjj jkY jjj cyI jkG)) hP hD hS hA [0, 1] (by decide +kernel) rfl
  refine va_callv (va_runV (As := []) (rest := []) ⟨hx, hb, hml, hown, hts⟩ (q9A l dC dI cyB cyI cyJ cyP a0 jjj H.size jkY jkG hw) (cwV 0 hts gX0_readFrom_X0_clear rfl rfl rfl (by decide +kernel) ⟨nbq rfl, nbq rfl⟩) ⟨qab, va_recv (q := (RX0, TX0, 2)) hK hPc (ci := 0) (q0 := 0) rfl rfl, qae hPc hK hDc hNw⟩ rfl rfl hl.1 rfl (lv_room (nbq rfl)) (qaa qfT 1 rfl) ⟨nbq rfl, nbq rfl⟩) hS (fun q _ h => hFc q h) hFc (fun u t H1 locs ht hvm hw hB hz1 hk1 hS => ?_)
  obtain ⟨x1, f2⟩ := u
  obtain ⟨hP1, hK1, hD1⟩ := hB
  rw [ht] at hP1
  obtain ⟨hP, hD⟩ := qad (wr := (qdL a1 jbF jb5 jhS jeF jcI jcU jbM jbF cyB jcq)) (w1 := (qwk a0 jjj x1 jjj cyI f2)) (wn := (qHs a0 jjj x1 jjj cyI f2 a1 jbF jb5 jhS jeF jcI jcU jbM jbF cyB jcq)) hP hD [0, 1] [2, 3] [2, 3, 0, 1] hCc rfl (by decide +kernel) (by decide +kernel) (by decide +kernel) rfl hk1 hFc hP1 hD1
  generalize H1 = H at hP hS ⊢
  refine lv_iconst (v := 0) hx hb (qaa qfT 2 rfl) (by decide) ?_
  refine lv_istore_n (lv' := [(3, .int 0), (0, .ref a0), (1, .ref a1), (2, .int p2)]) hx hb (qaa qfT 3 rfl) rfl hl (by decide) rfl (fun ls hl => ?_)
  obtain ⟨n9, hw⟩ := hw
  exact qarO dC dI cyB cyI cyJ cyP a0 a1 jjj jbF jcI jb5 jcq Q C0 n9 _ _ _ x1 f2 jhS jcU jbM jeF p2 0 hP hD hS (lv_sub hl [1, 2, 3, 0] rfl) hw
theorem qaKR : ∀ w ∈ u_ws RX0 TX0 2, w ∈ wsX10_book := uiM qrx euX0 (by decide +kernel)
theorem qqF : ∀ w ∈ u_ws RX10 TX10 19, w ∈ wsX10_book := uiM qrx qyN (by decide +kernel)
theorem qaI4 : ∀ w ∈ u_ws RX2 TX2 12, w ∈ wsX10_book := uiM qrx qLp (by decide +kernel)
theorem qaKD : ∀ w ∈ u_ws RX8 TX8 7, w ∈ wsX10_book := uiM qrx euX8 (by decide +kernel)
theorem qQz : (.fieldLink RX10 10 "MarchHares" "tape" "LMarchHares$Tape;" : Cond) ∈ wsX10_book := qrx 16 (by decide +kernel)
theorem qapR : (.fieldLink RX10 120 "MarchHares$Tape" "fault" "I" : Cond) ∈ wsX10_book := qrx 640 (by decide +kernel)
theorem qapy : (.fieldLink RX10 149 "MarchHares$Down" "forms" "I" : Cond) ∈ wsX10_book := qrx 1557 (by decide +kernel)
theorem qatW : (.fieldLink RX10 171 "MarchHares$Book" "many" "I" : Cond) ∈ wsX10_book := qrx 2386 (by decide +kernel)
theorem qaDJ : (.fieldLink RX10 19 "MarchHares" "ground" "LMarchHares$Down;" : Cond) ∈ wsX10_book := qrx 20 (by decide +kernel)
theorem qPQ : (.fieldLink RX10 39 "MarchHares" "lines" "LMarchHares$Book;" : Cond) ∈ wsX10_book := qrx 70 (by decide +kernel)
theorem qO4 : (.fieldLink RX10 43 "MarchHares" "spareLines" "LMarchHares$Book;" : Cond) ∈ wsX10_book := qrx 71 (by decide +kernel)
set_option maxHeartbeats 4000000 in
set_option maxRecDepth 100000 in
theorem qaWs (l : Launch) (dC : Nat → ClassId) (dI : Nat → Nat → Nat) (cyB cyI cyJ cyP : ClassId) (a0 jaW jiZ jaR jlH jf0 jg6 sz : Nat) (ja1 jcp jbc jbH ja2 jbO jaq jac jbI jbl jbn jba jaa jbA jcB jcC jbo jbp jbk jbj jbf jbq jgP jbi jcd : Value) (jbE : Int32) (ji4 : NI) (jbz jk4 jlW jll jj0 jlm jjE jnH : Int32) (jnI : NI) (p1 : Int32) {E : String → Int32 → Int32 → Int32 → Int32 → Int32 → Int32 → Int32 → Int32 → NI → Value → Value → Prop} {Q : Int32 → Int32 → Int32 → Int32 → Int32 → Int32 → Int32 → Int32 → Int32 → NI → Value → Value → Prop} (hw : qabM jg6 jiZ jbE ji4 jbz jk4 jlW jll jj0 jlm jjE jnH jnI (.ref jg6) (.ref jiZ) p1 E Q) : vx_Met l yX10_book wsX10_book ({ frames := 9, cells := 1, slots := 6, locals := 186 }) (va_Pc [.ref a0, .int p1] (cPx l (dC, dI) (kT cyB cyI cyJ cyP) (qBH a0 jaW jaR ja1 jcp jbc jg6 jiZ jbH ja2 jbO jaq jac jbI jbl jbn jba jaa jbA jbz jaW jf0 jk4 jlW jll jj0 jlm jjE jaR jcB jcC jbo jbp jbk jbj jbf jbq jbE jgP jbi jcd jiZ jlH jnH jlH cyI jnI jf0 cyB ji4) sz)) (va_Qi (fun (r : Int32) (u : Int32 × Int32 × Int32 × Int32 × Int32 × Int32 × Int32 × Int32 × NI × Value × Value) => Q r u.1 u.2.1 u.2.2.1 u.2.2.2.1 u.2.2.2.2.1 u.2.2.2.2.2.1 u.2.2.2.2.2.2.1 u.2.2.2.2.2.2.2.1 u.2.2.2.2.2.2.2.2.1 u.2.2.2.2.2.2.2.2.2.1 u.2.2.2.2.2.2.2.2.2.2) (cB (dC, dI) (kT cyB cyI cyJ cyP) (va_A (qBH a0 jaW jaR ja1 jcp jbc jg6 jiZ jbH ja2 jbO jaq jac jbI jbl jbn jba jaa jbA jbz jaW jf0 jk4 jlW jll jj0 jlm jjE jaR jcB jcC jbo jbp jbk jbj jbf jbq jbE jgP jbi jcd jiZ jlH jnH jlH cyI jnI jf0 cyB ji4) sz) (fun u : Int32 × Int32 × Int32 × Int32 × Int32 × Int32 × Int32 × Int32 × NI × Value × Value => ((qaNd a0 jaW jaR ja1 jcp jbc u.2.2.2.2.2.2.2.2.2.1 u.2.2.2.2.2.2.2.2.2.2 jbH ja2 jbO jaq jac jbI jbl jbn jba jaa jbA u.1 jaW jf0 u.2.1 u.2.2.1 u.2.2.2.1 u.2.2.2.2.1 u.2.2.2.2.2.1 u.2.2.2.2.2.2.1 jaR jcB jcC jbo jbp jbk jbj jbf jbq jbE jgP jbi jcd jiZ jlH u.2.2.2.2.2.2.2.1 jlH cyI u.2.2.2.2.2.2.2.2.1 jf0 cyB ji4) : va_W))) (va_A (qBH a0 jaW jaR ja1 jcp jbc jg6 jiZ jbH ja2 jbO jaq jac jbI jbl jbn jba jaa jbA jbz jaW jf0 jk4 jlW jll jj0 jlm jjE jaR jcB jcC jbo jbp jbk jbj jbf jbq jbE jgP jbi jcd jiZ jlH jnH jlH cyI jnI jf0 cyB ji4) sz)) (vx_X (fun _ => True) (fun (en : String) (u : Int32 × Int32 × Int32 × Int32 × Int32 × Int32 × Int32 × Int32 × NI × Value × Value) (t : State) => E en u.1 u.2.1 u.2.2.1 u.2.2.2.1 u.2.2.2.2.1 u.2.2.2.2.2.1 u.2.2.2.2.2.2.1 u.2.2.2.2.2.2.2.1 u.2.2.2.2.2.2.2.2.1 u.2.2.2.2.2.2.2.2.2.1 u.2.2.2.2.2.2.2.2.2.2 ∧ cB (dC, dI) (kT cyB cyI cyJ cyP) (va_A (qBH a0 jaW jaR ja1 jcp jbc jg6 jiZ jbH ja2 jbO jaq jac jbI jbl jbn jba jaa jbA jbz jaW jf0 jk4 jlW jll jj0 jlm jjE jaR jcB jcC jbo jbp jbk jbj jbf jbq jbE jgP jbi jcd jiZ jlH jnH jlH cyI jnI jf0 cyB ji4) sz) (fun u : Int32 × Int32 × Int32 × Int32 × Int32 × Int32 × Int32 × Int32 × NI × Value × Value => ((qaNd a0 jaW jaR ja1 jcp jbc u.2.2.2.2.2.2.2.2.2.1 u.2.2.2.2.2.2.2.2.2.2 jbH ja2 jbO jaq jac jbI jbl jbn jba jaa jbA u.1 jaW jf0 u.2.1 u.2.2.1 u.2.2.2.1 u.2.2.2.2.1 u.2.2.2.2.2.1 u.2.2.2.2.2.2.1 jaR jcB jcC jbo jbp jbk jbj jbf jbq jbE jgP jbi jcd jiZ jlH u.2.2.2.2.2.2.2.1 jlH cyI u.2.2.2.2.2.2.2.2.1 jf0 cyB ji4) : va_W)) u t) (va_A (qBH a0 jaW jaR ja1 jcp jbc jg6 jiZ jbH ja2 jbO jaq jac jbI jbl jbn jba jaa jbA jbz jaW jf0 jk4 jlW jll jj0 jlm jjE jaR jcB jcC jbo jbp jbk jbj jbf jbq jbE jgP jbi jcd jiZ jlH jnH jlH cyI jnI jf0 cyB ji4) sz)) 1 6 (va_A (qBH a0 jaW jaR ja1 jcp jbc jg6 jiZ jbH ja2 jbO jaq jac jbI jbl jbn jba jaa jbA jbz jaW jf0 jk4 jlW jll jj0 jlm jjE jaR jcB jcC jbo jbp jbk jbj jbf jbq jbE jgP jbi jcd jiZ jlH jnH jlH cyI jnI jf0 cyB ji4) sz) := by
  refine vx_ofW (cc := cX10_book) (maxL := 3) (ret := (some .int)) (by decide) rfl ?_
  intro p e s m args below meth c s₁ B hml hnt hv
  obtain ⟨rfl, hsz, hP, hK, hD0, hNw, hXl, hXu, hXn, hXt⟩ := hv
  have hx := B.exec
  have hb := B.bytes
  have hr := B.returns
  have hts := atoms_spec (ws := wsX10_book) B.pre
  have hown : s.vm.findClass RX10 = some m.cls := findClass_of_methodNamed B.named
  have hlocks := B.notSynchronized
  subst hsz
  have hD := hD0.self (sz := s.heap.size)
  generalize hAe : va_A (qBH a0 jaW jaR ja1 jcp jbc jg6 jiZ jbH ja2 jbO jaq jac jbI jbl jbn jba jaa jbA jbz jaW jf0 jk4 jlW jll jj0 jlm jjE jaR jcB jcC jbo jbp jbk jbj jbf jbq jbE jgP jbi jcd jiZ jlH jnH jlH cyI jnI jf0 cyB ji4) s.heap.size = A at hD hXu hXn ⊢
  have hA : ∀ q : Nat, s.heap.size ≤ q → A q := fun q h => by rw [← hAe]; exact Or.inr h
  have hS : va_S A s.heap s.heap [] := va_S.rf
  have hP : va_P (dC, dI) vwCl (qBH a0 jaW jaR ja1 jcp jbc jg6 jiZ jbH ja2 jbO jaq jac jbI jbl jbn jba jaa jbA jbz jaW jf0 jk4 jlW jll jj0 jlm jjE jaR jcB jcC jbo jbp jbk jbj jbf jbq jbE jgP jbi jcd jiZ jlH jnH jlH cyI jnI jf0 cyB ji4) s.heap := hP
  have hl := lv_entry ([.ref a0, .int p1]) (n := 3) (nbq rfl)
  rw [lg_entry_eq]
  generalize (lg_sl ([.ref a0, .int p1]) ++ List.replicate (3 - (lg_sl ([.ref a0, .int p1])).length) Slot.unset).toArray = ls at hl ⊢
  have hl : lv_has ls 3 [(0, .ref a0), (1, .int p1)] := hl
  have hY : cfY l s A := ⟨hXl, hXu, hXn, hXt⟩
  have hXs : cfX l s c A := ⟨hnt, hY⟩
  have C0 : cfx p s m _ meth c cX10_book (some .int) wsX10_book RX10 3 A (dC, dI) (kT cyB cyI cyJ cyP) ∧ cfX l s c A := ⟨⟨hx, hb, hr, hts, hown, hlocks, hml, hA, hK, hNw⟩, hXs⟩
  clear hAe
  obtain ⟨H, hH⟩ : ∃ H, H = s.heap := ⟨_, rfl⟩
  rw [← hH] at hP ⊢
  have hS : va_S A s.heap H [] := by rw [hH]; exact va_S.rf
  have hS := hS
  refine lv_aload_n hx hb (qaa qmH 0 rfl) rfl (lv_at hl 0 rfl) ?_
  refine lv_iload_n hx hb (qaa qmH 1 rfl) rfl (lv_at hl 1 rfl) ?_
  refine lv_bipush (v := 60) hx hb (qaa qmH 2 rfl) (by decide) ?_
  obtain ⟨hCc, hPc, hDc, hFc⟩ := qac (ws' := (qaZD a0 jaW jaR ja1 jcp jbc jg6 jiZ jbH ja2 jbO jaq jac jbI jbl jbn jba jaa jbA jbz jaW jf0 jk4 jlW jll jj0 jlm jjE)) hP hD hS hA [0, 1] (by decide +kernel) rfl
  refine vx_callv (vx_runV (As := [.int p1, .int 60]) (rest := []) ⟨hx, hb, hml, hown, hts⟩ (qHR l dC dI cyB cyI cyJ cyP a0 jaW H.size (.ref jaR) (ja1) (jcp) (jbc) (.ref jg6) (.ref jiZ) (jbH) (ja2) (jbO) (jaq) (jac) (jbI) (jbl) (jbn) (jba) (jaa) (jbA) (.ref jf0) jbz jk4 jlW jll jj0 jlm jjE p1 60 hw) (cwV 2 hts gX10_book_X10_openText rfl rfl rfl (by decide +kernel) ⟨nbq rfl, nbq rfl⟩) ⟨qav, va_recv (q := (RX10, TX10, 19)) hK hPc (ci := 10) (q0 := 0) rfl rfl, qbl hPc hK hDc hNw hY hS hFc⟩ rfl rfl hl.1 rfl (lv_room (nbq rfl)) (qaa qmH 3 rfl) ⟨nbq rfl, nbq rfl⟩) hS (fun q _ h => hFc q h) hFc (fun q _ h => hFc q h) (fun en ce q9 u t H1 locs ht hvm hpx hB hz1 hk1 hS hc9 hv9 hcl9 => ?_) (fun u t H1 locs ht hvm hw hB hz1 hk1 hS => ?_)
  · obtain ⟨x1, x2, x3, x4, x5, x6, x7⟩ := u
    obtain ⟨hw, hP1, hK1, hD1⟩ := hB
    rw [ht] at hP1
    obtain ⟨hP, hD⟩ := qad (wr := (qa47 jaR jcB jcC jbo jbp jbk jbj jbf jbq jbE jgP jbi jcd jiZ jlH jnH jlH cyI jnI jf0 cyB ji4)) (w1 := (qaZD a0 jaW jaR ja1 jcp jbc jg6 jiZ jbH ja2 jbO jaq jac jbI jbl jbn jba jaa jbA x1 jaW jf0 x2 x3 x4 x5 x6 x7)) (wn := (qBH a0 jaW jaR ja1 jcp jbc jg6 jiZ jbH ja2 jbO jaq jac jbI jbl jbn jba jaa jbA x1 jaW jf0 x2 x3 x4 x5 x6 x7 jaR jcB jcC jbo jbp jbk jbj jbf jbq jbE jgP jbi jcd jiZ jlH jnH jlH cyI jnI jf0 cyB ji4)) hP hD [0, 1] [2, 3, 4, 5] [4, 5, 0, 1, 2, 3] hCc rfl (by decide +kernel) (by decide +kernel) (by decide +kernel) rfl hk1 hFc hP1 hD1
    generalize H1 = H at hP hS hc9 ⊢
    exact vx_out (fun x hx9 => (hXs.1 x hx9).elim) hlocks hc9 hv9 hcl9 (fun t2 ht2 hal2 => ⟨(x1, x2, x3, x4, x5, x6, x7, jnH, jnI, (.ref jg6), (.ref jiZ)), trivial, ⟨hw, by rw [ht2]; exact hP, va_K.moved hal2 hK, hD⟩, hS.F ht2⟩) hS.2.2 (nbq rfl) (nbq rfl)
  obtain ⟨x1, x2, x3, x4, x5, x6, x7⟩ := u
  obtain ⟨hP1, hK1, hD1⟩ := hB
  rw [ht] at hP1
  obtain ⟨hP, hD⟩ := qad (wr := (qa47 jaR jcB jcC jbo jbp jbk jbj jbf jbq jbE jgP jbi jcd jiZ jlH jnH jlH cyI jnI jf0 cyB ji4)) (w1 := (qaZD a0 jaW jaR ja1 jcp jbc jg6 jiZ jbH ja2 jbO jaq jac jbI jbl jbn jba jaa jbA x1 jaW jf0 x2 x3 x4 x5 x6 x7)) (wn := (qBH a0 jaW jaR ja1 jcp jbc jg6 jiZ jbH ja2 jbO jaq jac jbI jbl jbn jba jaa jbA x1 jaW jf0 x2 x3 x4 x5 x6 x7 jaR jcB jcC jbo jbp jbk jbj jbf jbq jbE jgP jbi jcd jiZ jlH jnH jlH cyI jnI jf0 cyB ji4)) hP hD [0, 1] [2, 3, 4, 5] [4, 5, 0, 1, 2, 3] hCc rfl (by decide +kernel) (by decide +kernel) (by decide +kernel) rfl hk1 hFc hP1 hD1
  generalize H1 = H at hP hS ⊢
  refine lv_aload_n hx hb (qaa qmH 4 rfl) rfl (lv_at hl 0 rfl) ?_
  refine va_get (D := (dC, dI)) (ci := 10) (v := .ref jiZ) (C := RX10) (T := TX10) (N := 19) hx hb hts qqF hown hK hP 0 rfl rfl 6 (by decide) (hts _ qO4) (fun _ h9 => h9) rfl (qaa qmH 5 rfl) ?_
  refine lv_aload_n hx hb (qaa qmH 6 rfl) rfl (lv_at hl 0 rfl) ?_
  refine va_get (D := (dC, dI)) (ci := 10) (v := .ref jaW) (C := RX10) (T := TX10) (N := 19) hx hb hts qqF hown hK hP 0 rfl rfl 0 (by decide) (hts _ qQz) (fun _ h9 => h9) rfl (qaa qmH 7 rfl) ?_
  refine lv_aload_n hx hb (qaa qmH 8 rfl) rfl (lv_at hl 0 rfl) ?_
  refine va_get (D := (dC, dI)) (ci := 10) (v := .ref jaR) (C := RX10) (T := TX10) (N := 19) hx hb hts qqF hown hK hP 0 rfl rfl 1 (by decide) (hts _ qaDJ) (fun _ h9 => h9) rfl (qaa qmH 9 rfl) ?_
  refine va_get (D := (dC, dI)) (ci := 2) (v := .int jbE) (C := RX2) (T := TX2) (N := 12) hx hb hts qaI4 hown hK hP 2 rfl rfl 8 (by decide) (hts _ qapy) (fun _ h9 => h9) rfl (qaa qmH 10 rfl) ?_
  obtain ⟨hCc, hPc, hDc, hFc⟩ := qac (ws' := (qa4N jiZ jlH jnH jlH cyI jnI jaW jf0 x2 x3 x4 x5 x6 x7 jf0 cyB ji4)) hP hD hS hA [3, 4, 1, 5] (by decide +kernel) rfl
  refine va_callv (va_runV (As := [.ref jaW, .int jbE]) (rest := []) ⟨hx, hb, hml, hown, hts⟩ (qaHU l dC dI cyB cyI cyJ cyP jiZ jaW jlH jf0 H.size (.int x5) x2 ji4 jnH jnI x3 x6 x7 x4 jbE hw) (cwV 2 hts gX10_book_X0_readFrom rfl rfl rfl (by decide +kernel) ⟨nbq rfl, nbq rfl⟩) ⟨qab, va_recv (q := (RX0, TX0, 2)) hK hPc (ci := 0) (q0 := 0) rfl rfl, qae hPc hK hDc hNw⟩ rfl rfl hl.1 rfl (lv_room (nbq rfl)) (qaa qmH 11 rfl) ⟨nbq rfl, nbq rfl⟩) hS (fun q _ h => hFc q h) hFc (fun u t H1 locs ht hvm hw hB hz1 hk1 hS => ?_)
  obtain ⟨x8, f9, x10, x11, x12, x13⟩ := u
  obtain ⟨hP1, hK1, hD1⟩ := hB
  rw [ht] at hP1
  obtain ⟨hP, hD⟩ := qad (wr := [(a0, .inr (10, [.ref jaW, .ref jaR, ja1, jcp, jbc, .ref jg6, .ref jiZ, jbH, ja2, jbO, jaq, jac, jbI, jbl, jbn, jba, jaa, jbA, .int x1])), (jaR, .inr (2, [jcB, jcC, jbo, jbp, jbk, jbj, jbf, jbq, .int jbE, jgP, jbi, jcd]))]) (w1 := (qa4N jiZ jlH x8 jlH cyI f9 jaW jf0 x2 x10 x13 x5 x11 x12 jf0 cyB ji4)) (wn := (qBH a0 jaW jaR ja1 jcp jbc jg6 jiZ jbH ja2 jbO jaq jac jbI jbl jbn jba jaa jbA x1 jaW jf0 x2 x10 x13 x5 x11 x12 jaR jcB jcC jbo jbp jbk jbj jbf jbq jbE jgP jbi jcd jiZ jlH x8 jlH cyI f9 jf0 cyB ji4)) hP hD [3, 4, 1, 5] [0, 2] [0, 4, 1, 2, 3, 5] hCc rfl (by decide +kernel) (by decide +kernel) (by decide +kernel) rfl hk1 hFc hP1 hD1
  generalize H1 = H at hP hS ⊢
  refine lv_aload_n hx hb (qaa qmH 12 rfl) rfl (lv_at hl 0 rfl) ?_
  refine va_get (D := (dC, dI)) (ci := 10) (v := .ref jaW) (C := RX10) (T := TX10) (N := 19) hx hb hts qqF hown hK hP 0 rfl rfl 0 (by decide) (hts _ qQz) (fun _ h9 => h9) rfl (qaa qmH 13 rfl) ?_
  obtain ⟨hCc, hPc, hDc, hFc⟩ := qac (ws' := (qa5W jaW jf0 x2 x10 x13 x5 x11 x12)) hP hD hS hA [1] (by decide +kernel) rfl
  refine va_calli (va_runV (As := []) (rest := []) ⟨hx, hb, hml, hown, hts⟩ (qkj l dC dI cyB cyI cyJ cyP jaW H.size (.ref jf0) (.int x2) (.int x10) (.int x13) (.int x5) (.int x12) x11 hw) (cwV 0 hts gX10_book_X8_isFaulty rfl rfl rfl (by decide +kernel) ⟨nbq rfl, nbq rfl⟩) ⟨qab, va_recv (q := (RX8, TX8, 7)) hK hPc (ci := 8) (q0 := 0) rfl rfl, qae hPc hK hDc hNw⟩ rfl rfl hl.1 rfl (lv_room (nbq rfl)) (qaa qmH 14 rfl) ⟨nbq rfl, nbq rfl⟩) hS (fun q _ h => hFc q h) hFc (fun r14 u t H1 locs ht hvm hw hB hz1 hk1 hS => ?_)
  obtain ⟨hP1, hK1, hD1⟩ := hB
  rw [ht] at hP1
  obtain ⟨hP, hD⟩ := qad (wr := [(a0, .inr (10, [.ref jaW, .ref jaR, ja1, jcp, jbc, .ref jg6, .ref jiZ, jbH, ja2, jbO, jaq, jac, jbI, jbl, jbn, jba, jaa, jbA, .int x1])), (jaR, .inr (2, [jcB, jcC, jbo, jbp, jbk, jbj, jbf, jbq, .int jbE, jgP, jbi, jcd])), (jiZ, .inr (0, [.ref jlH, .int x8])), (jlH, .inl (cyI, 8, .inl f9)), (jf0, .inl (cyB, 600, .inl ji4))]) (w1 := (qa5W jaW jf0 x2 x10 x13 x5 x11 x12)) (wn := (qBH a0 jaW jaR ja1 jcp jbc jg6 jiZ jbH ja2 jbO jaq jac jbI jbl jbn jba jaa jbA x1 jaW jf0 x2 x10 x13 x5 x11 x12 jaR jcB jcC jbo jbp jbk jbj jbf jbq jbE jgP jbi jcd jiZ jlH x8 jlH cyI f9 jf0 cyB ji4)) hP hD [1] [0, 2, 3, 4, 5] [0, 5, 1, 2, 3, 4] hCc rfl (by decide +kernel) (by decide +kernel) (by decide +kernel) rfl hk1 hFc hP1 hD1
  generalize H1 = H at hP hS ⊢
  refine lv_if_eq (tgt := 46) hx hb (qaa qmH 15 rfl) (by decide) (fun c15 => ?_) (fun c15 => ?_)
  · have hw := hw.1 c15
    refine lv_aload_n hx hb (qaa qiZ 6 rfl) rfl (lv_at hl 0 rfl) ?_
    refine va_get (D := (dC, dI)) (ci := 10) (v := .ref jg6) (C := RX10) (T := TX10) (N := 19) hx hb hts qqF hown hK hP 0 rfl rfl 5 (by decide) (hts _ qPQ) (fun _ h9 => h9) rfl (qaa qiZ 7 rfl) ?_
    refine lv_astore_n (lv' := [(2, .ref jg6), (0, .ref a0), (1, .int p1)]) hx hb (qaa qiZ 8 rfl) rfl hl (by decide) rfl (fun ls hl => ?_)
    refine lv_aload_n hx hb (qaa qiZ 9 rfl) rfl (lv_at hl 1 rfl) ?_
    refine lv_aload_n hx hb (qaa qiZ 10 rfl) rfl (lv_at hl 1 rfl) ?_
    refine va_get (D := (dC, dI)) (ci := 10) (v := .ref jiZ) (C := RX10) (T := TX10) (N := 19) hx hb hts qqF hown hK hP 0 rfl rfl 6 (by decide) (hts _ qO4) (fun _ h9 => h9) rfl (qaa qiZ 11 rfl) ?_
    refine va_put (D := (dC, dI)) (ci := 10) (v := .ref jiZ) (ty := .object "MarchHares$Book") (C := RX10) (T := TX10) (N := 19) hx hb hts qqF tyX10 tyX10_ok nmX10 hown hK hP hD hS 0 rfl rfl 5 (by decide) (hts _ qPQ) (fun _ h9 => h9) rfl (by decide +kernel) rfl rfl (nbq rfl) (qaa qiZ 12 rfl) (fun H locs hP hD hS => ?_)
    have hP : va_P (dC, dI) vwCl (qBH a0 jaW jaR ja1 jcp jbc jiZ jiZ jbH ja2 jbO jaq jac jbI jbl jbn jba jaa jbA x1 jaW jf0 x2 x10 x13 x5 x11 x12 jaR jcB jcC jbo jbp jbk jbj jbf jbq jbE jgP jbi jcd jiZ jlH x8 jlH cyI f9 jf0 cyB ji4) H := hP
    have hD : va_D A (qBH a0 jaW jaR ja1 jcp jbc jiZ jiZ jbH ja2 jbO jaq jac jbI jbl jbn jba jaa jbA x1 jaW jf0 x2 x10 x13 x5 x11 x12 jaR jcB jcC jbo jbp jbk jbj jbf jbq jbE jgP jbi jcd jiZ jlH x8 jlH cyI f9 jf0 cyB ji4) := hD
    refine lv_aload_n hx hb (qaa qiZ 13 rfl) rfl (lv_at hl 1 rfl) ?_
    refine lv_aload_n hx hb (qaa qiZ 14 rfl) rfl (lv_at hl 0 rfl) ?_
    refine va_put (D := (dC, dI)) (ci := 10) (v := .ref jg6) (ty := .object "MarchHares$Book") (C := RX10) (T := TX10) (N := 19) hx hb hts qqF tyX10 tyX10_ok nmX10 hown hK hP hD hS 0 rfl rfl 6 (by decide) (hts _ qO4) (fun _ h9 => h9) rfl (by decide +kernel) rfl rfl (nbq rfl) (qaa qiZ 15 rfl) (fun H locs hP hD hS => ?_)
    have hP : va_P (dC, dI) vwCl (qBH a0 jaW jaR ja1 jcp jbc jiZ jg6 jbH ja2 jbO jaq jac jbI jbl jbn jba jaa jbA x1 jaW jf0 x2 x10 x13 x5 x11 x12 jaR jcB jcC jbo jbp jbk jbj jbf jbq jbE jgP jbi jcd jiZ jlH x8 jlH cyI f9 jf0 cyB ji4) H := hP
    have hD : va_D A (qBH a0 jaW jaR ja1 jcp jbc jiZ jg6 jbH ja2 jbO jaq jac jbI jbl jbn jba jaa jbA x1 jaW jf0 x2 x10 x13 x5 x11 x12 jaR jcB jcC jbo jbp jbk jbj jbf jbq jbE jgP jbi jcd jiZ jlH x8 jlH cyI f9 jf0 cyB ji4) := hD
    refine lv_aload_n hx hb (qaa qK4 0 rfl) rfl (lv_at hl 1 rfl) ?_
    refine va_get (D := (dC, dI)) (ci := 10) (v := .ref jiZ) (C := RX10) (T := TX10) (N := 19) hx hb hts qqF hown hK hP 0 rfl rfl 5 (by decide) (hts _ qPQ) (fun _ h9 => h9) rfl (qaa qK4 1 rfl) ?_
    refine va_get (D := (dC, dI)) (ci := 0) (v := .int x8) (C := RX0) (T := TX0) (N := 2) hx hb hts qaKR hown hK hP 3 rfl rfl 1 (by decide) (hts _ qatW) (fun _ h9 => h9) rfl (qaa qK4 2 rfl) ?_
    exact vx_ret (W.widen (k := 1) (n := 6) (nbq rfl) (nbq rfl) (W.iret (v := x8) hx hb hr (fun t ht hW => ⟨⟨x8, (x1, x2, x10, x13, x5, x11, x12, x8, f9, (.ref jiZ), (.ref jg6)), rfl, hw, by rw [ht]; exact hP, va_K.moved hW.alike hK, hD⟩, hS.F ht⟩) hS.2.2 (qaa qK4 3 rfl)))
  · have hw := hw.2 c15
    refine lv_aload_n hx hb (qaa qiZ 0 rfl) rfl (lv_at hl 0 rfl) ?_
    refine va_get (D := (dC, dI)) (ci := 10) (v := .ref jaW) (C := RX10) (T := TX10) (N := 19) hx hb hts qqF hown hK hP 0 rfl rfl 0 (by decide) (hts _ qQz) (fun _ h9 => h9) rfl (qaa qiZ 1 rfl) ?_
    refine va_get (D := (dC, dI)) (ci := 8) (v := .int x11) (C := RX8) (T := TX8) (N := 7) hx hb hts qaKD hown hK hP 1 rfl rfl 5 (by decide) (hts _ qapR) (fun _ h9 => h9) rfl (qaa qiZ 2 rfl) ?_
    refine lv_bipush (v := 10) hx hb (qaa qiZ 3 rfl) (by decide) ?_
    refine lv_isub hx hb (qaa qiZ 4 rfl) ?_
    exact vx_ret (W.widen (k := 1) (n := 6) (nbq rfl) (nbq rfl) (W.iret (v := (x11 - 10)) hx hb hr (fun t ht hW => ⟨⟨(x11 - 10), (x1, x2, x10, x13, x5, x11, x12, x8, f9, (.ref jg6), (.ref jiZ)), rfl, hw, by rw [ht]; exact hP, va_K.moved hW.alike hK, hD⟩, hS.F ht⟩) hS.2.2 (qaa qiZ 5 rfl)))
theorem qaGA : (.classLink RL 13 "java/lang/IllegalArgumentException" : Cond) ∈ wsL_book := qau1 595 (by decide +kernel)
theorem qaVV : (.codeWith yL_book cL_book 4 (some .int) [(0, 9, 12, 13)] : Cond) ∈ wsL_book := qau1 2381 (by decide +kernel)
set_option maxHeartbeats 4000000 in
set_option maxRecDepth 100000 in
theorem qa4c (l : Launch) (dC : Nat → ClassId) (dI : Nat → Nat → Nat) (cyB cyI cyJ cyP : ClassId) (a0 a2 jaW jaR jiZ jlH jf0 jg6 sz : Nat) (ja1 jcp jbc jbH ja2 jbO jaq jac jbI jbl jbn jba jaa jbA jcB jcC jbo jbp jbk jbj jbf jbq jgP jbi jcd : Value) (n2 : Nat) (jbE : Int32) (ji4 : NI) (jbz jk4 jlW jll jj0 jlm jjE jnH : Int32) (jnI : NI) (f2 : Nat → Int64) (p1 : Int32) {Q : Int32 → Int32 → Int32 → Int32 → Int32 → Int32 → Int32 → Int32 → Int32 → NI → Value → Value → (Nat → Int64) → Prop} (hw : qaVc jg6 jiZ n2 jbE ji4 jbz jk4 jlW jll jj0 jlm jjE jnH jnI (.ref jg6) (.ref jiZ) f2 p1 Q) : Met l yL_book wsL_book ({ frames := 10, cells := 1, slots := 6, locals := 208 }) (va_Pc [.ref a0, .int p1, .ref a2] (cPx l (dC, dI) (kT cyB cyI cyJ cyP) (qang a0 jaW jaR ja1 jcp jbc jg6 jiZ jbH ja2 jbO jaq jac jbI jbl jbn jba jaa jbA jbz jaW jf0 jk4 jlW jll jj0 jlm jjE jaR jcB jcC jbo jbp jbk jbj jbf jbq jbE jgP jbi jcd jiZ jlH jnH jlH cyI jnI jf0 cyB ji4 a2 cyJ n2 f2) sz)) (va_Qi (fun (r : Int32) (u : Int32 × Int32 × Int32 × Int32 × Int32 × Int32 × Int32 × Int32 × NI × Value × Value × (Nat → Int64)) => Q r u.1 u.2.1 u.2.2.1 u.2.2.2.1 u.2.2.2.2.1 u.2.2.2.2.2.1 u.2.2.2.2.2.2.1 u.2.2.2.2.2.2.2.1 u.2.2.2.2.2.2.2.2.1 u.2.2.2.2.2.2.2.2.2.1 u.2.2.2.2.2.2.2.2.2.2.1 u.2.2.2.2.2.2.2.2.2.2.2) (cB (dC, dI) (kT cyB cyI cyJ cyP) (va_A (qang a0 jaW jaR ja1 jcp jbc jg6 jiZ jbH ja2 jbO jaq jac jbI jbl jbn jba jaa jbA jbz jaW jf0 jk4 jlW jll jj0 jlm jjE jaR jcB jcC jbo jbp jbk jbj jbf jbq jbE jgP jbi jcd jiZ jlH jnH jlH cyI jnI jf0 cyB ji4 a2 cyJ n2 f2) sz) (fun u : Int32 × Int32 × Int32 × Int32 × Int32 × Int32 × Int32 × Int32 × NI × Value × Value × (Nat → Int64) => ((qakg a0 jaW jaR ja1 jcp jbc u.2.2.2.2.2.2.2.2.2.1 u.2.2.2.2.2.2.2.2.2.2.1 jbH ja2 jbO jaq jac jbI jbl jbn jba jaa jbA u.1 jaW jf0 u.2.1 u.2.2.1 u.2.2.2.1 u.2.2.2.2.1 u.2.2.2.2.2.1 u.2.2.2.2.2.2.1 jaR jcB jcC jbo jbp jbk jbj jbf jbq jbE jgP jbi jcd jiZ jlH u.2.2.2.2.2.2.2.1 jlH cyI u.2.2.2.2.2.2.2.2.1 jf0 cyB ji4 a2 cyJ n2 u.2.2.2.2.2.2.2.2.2.2.2) : va_W))) (va_A (qang a0 jaW jaR ja1 jcp jbc jg6 jiZ jbH ja2 jbO jaq jac jbI jbl jbn jba jaa jbA jbz jaW jf0 jk4 jlW jll jj0 jlm jjE jaR jcB jcC jbo jbp jbk jbj jbf jbq jbE jgP jbi jcd jiZ jlH jnH jlH cyI jnI jf0 cyB ji4 a2 cyJ n2 f2) sz)) 1 6 (va_A (qang a0 jaW jaR ja1 jcp jbc jg6 jiZ jbH ja2 jbO jaq jac jbI jbl jbn jba jaa jbA jbz jaW jf0 jk4 jlW jll jj0 jlm jjE jaR jcB jcC jbo jbp jbk jbj jbf jbq jbE jgP jbi jcd jiZ jlH jnH jlH cyI jnI jf0 cyB ji4 a2 cyJ n2 f2) sz) := by
  refine va_MetW (cc := cL_book) (maxL := 4) (ret := (some .int)) (by decide) rfl ?_
  intro p e s m args below meth c s₁ B hml hv
  obtain ⟨rfl, hsz, hP, hK, hD0, hNw, hXl, hXu, hXn, hXt⟩ := hv
  have hx := B.exec
  have hb := B.bytes
  have hr := B.returns
  have hts := atoms_spec (ws := wsL_book) B.pre
  have hown : s.vm.findClass RL = some m.cls := findClass_of_methodNamed B.named
  have hlocks := B.notSynchronized
  subst hsz
  have hD := hD0.self (sz := s.heap.size)
  generalize hAe : va_A (qang a0 jaW jaR ja1 jcp jbc jg6 jiZ jbH ja2 jbO jaq jac jbI jbl jbn jba jaa jbA jbz jaW jf0 jk4 jlW jll jj0 jlm jjE jaR jcB jcC jbo jbp jbk jbj jbf jbq jbE jgP jbi jcd jiZ jlH jnH jlH cyI jnI jf0 cyB ji4 a2 cyJ n2 f2) s.heap.size = A at hD hXu hXn ⊢
  have hA : ∀ q : Nat, s.heap.size ≤ q → A q := fun q h => by rw [← hAe]; exact Or.inr h
  have hS : va_S A s.heap s.heap [] := va_S.rf
  have hP : va_P (dC, dI) vwCl (qang a0 jaW jaR ja1 jcp jbc jg6 jiZ jbH ja2 jbO jaq jac jbI jbl jbn jba jaa jbA jbz jaW jf0 jk4 jlW jll jj0 jlm jjE jaR jcB jcC jbo jbp jbk jbj jbf jbq jbE jgP jbi jcd jiZ jlH jnH jlH cyI jnI jf0 cyB ji4 a2 cyJ n2 f2) s.heap := hP
  have hl := lv_entry ([.ref a0, .int p1, .ref a2]) (n := 4) (nbq rfl)
  rw [lg_entry_eq]
  generalize (lg_sl ([.ref a0, .int p1, .ref a2]) ++ List.replicate (4 - (lg_sl ([.ref a0, .int p1, .ref a2])).length) Slot.unset).toArray = ls at hl ⊢
  have hl : lv_has ls 4 [(0, .ref a0), (1, .int p1), (2, .ref a2)] := hl
  have hY : cfY l s A := ⟨hXl, hXu, hXn, hXt⟩
  have hTb := vx_table (x := yL_book) B (hts _ qaVV)
  clear hAe
  obtain ⟨H, hH⟩ : ∃ H, H = s.heap := ⟨_, rfl⟩
  rw [← hH] at hP ⊢
  have hS : va_S A s.heap H [] := by rw [hH]; exact va_S.rf
  have hS := hS
  refine lv_aload_n hx hb (qaa qtv 0 rfl) rfl (lv_at hl 2 rfl) ?_
  refine lv_iconst (v := 0) hx hb (qaa qtv 1 rfl) (by decide) ?_
  refine lv_aload_n hx hb (qaa qtv 2 rfl) rfl (lv_at hl 0 rfl) ?_
  refine lv_iload_n hx hb (qaa qtv 3 rfl) rfl (lv_at hl 1 rfl) ?_
  obtain ⟨hCc, hPc, hDc, hFc⟩ := qac (ws' := (qBH a0 jaW jaR ja1 jcp jbc jg6 jiZ jbH ja2 jbO jaq jac jbI jbl jbn jba jaa jbA jbz jaW jf0 jk4 jlW jll jj0 jlm jjE jaR jcB jcC jbo jbp jbk jbj jbf jbq jbE jgP jbi jcd jiZ jlH jnH jlH cyI jnI jf0 cyB ji4)) hP hD hS hA [0, 1, 2, 3, 4, 5] (by decide +kernel) rfl
  refine vx_calli (vx_runV (As := [.int p1]) (rest := [.int 0, .ref a2]) ⟨hx, hb, hml, hown, hts⟩ (qaWs l dC dI cyB cyI cyJ cyP a0 jaW jiZ jaR jlH jf0 jg6 H.size (ja1) (jcp) (jbc) (jbH) (ja2) (jbO) (jaq) (jac) (jbI) (jbl) (jbn) (jba) (jaa) (jbA) (jcB) (jcC) (jbo) (jbp) (jbk) (jbj) (jbf) (jbq) (jgP) (jbi) (jcd) jbE ji4 jbz jk4 jlW jll jj0 jlm jjE jnH jnI p1 hw) (cwV 1 hts gL_book_X10_book rfl rfl rfl (by decide +kernel) ⟨nbq rfl, nbq rfl⟩) ⟨qav, va_recv (q := (RX10, TX10, 19)) hK hPc (ci := 10) (q0 := 0) rfl rfl, qbl hPc hK hDc hNw hY hS hFc⟩ rfl rfl hl.1 rfl (lv_room (nbq rfl)) (qaa qtv 4 rfl) ⟨nbq rfl, nbq rfl⟩) hS (fun q _ h => hFc q h) hFc (fun q _ h => hFc q h) (fun en ce qx9 u t H1 locs ht hvm hpx hB hz1 hk1 hS hc9 hv9 hcl9 => ?_) (fun r12 u t H1 locs ht hvm hw hB hz1 hk1 hS => ?_)
  · obtain ⟨x1, x2, x3, x4, x5, x6, x7, x8, f9, q10, q11⟩ := u
    obtain ⟨hw, hP1, hK1, hD1⟩ := hB
    rw [ht] at hP1
    obtain ⟨hP, hD⟩ := qad (wr := [(a2, .inl (cyJ, n2, .inr (.inl f2)))]) (w1 := (qaNd a0 jaW jaR ja1 jcp jbc q10 q11 jbH ja2 jbO jaq jac jbI jbl jbn jba jaa jbA x1 jaW jf0 x2 x3 x4 x5 x6 x7 jaR jcB jcC jbo jbp jbk jbj jbf jbq jbE jgP jbi jcd jiZ jlH x8 jlH cyI f9 jf0 cyB ji4)) (wn := (qakg a0 jaW jaR ja1 jcp jbc q10 q11 jbH ja2 jbO jaq jac jbI jbl jbn jba jaa jbA x1 jaW jf0 x2 x3 x4 x5 x6 x7 jaR jcB jcC jbo jbp jbk jbj jbf jbq jbE jgP jbi jcd jiZ jlH x8 jlH cyI f9 jf0 cyB ji4 a2 cyJ n2 f2)) hP hD [0, 1, 2, 3, 4, 5] [6] [1, 2, 3, 4, 5, 6, 0] hCc rfl (by decide +kernel) (by decide +kernel) (by decide +kernel) rfl hk1 hFc hP1 hD1
    generalize H1 = H at hP hS hc9 ⊢
    obtain ⟨rfl, hw⟩ := hw
    refine vx_catch (own := RL) (name := "java/lang/IllegalArgumentException") hown [] ⟨0, 9, 12, 13⟩ [] (hTb.trans rfl) (fun z hz => nomatch hz) (by decide) (by decide) (hts _ qaGA) (va_Nw.use rfl (hY.2.2.2.1.2 _ (List.mem_of_getElem? (i := 0) rfl))) hc9 hv9 hcl9 ?_
    refine lv_astore_n (lv' := [(3, .ref qx9), (0, .ref a0), (1, .int p1), (2, .ref a2)]) hx hb (qaa qtv 8 rfl) rfl hl (by decide) rfl (fun ls hl => ?_)
    refine lv_iconst (v := 1) hx hb (qaa qtv 9 rfl) (by decide) ?_
    exact (W.widen (k := 1) (n := 6) (nbq rfl) (nbq rfl) (W.iret (v := 1) hx hb hr (fun t ht hW => ⟨⟨1, (x1, x2, x3, x4, x5, x6, x7, x8, f9, q10, q11, f2), rfl, hw, by rw [ht]; exact hP, va_K.moved hW.alike hK, hD⟩, hS.F ht⟩) hS.2.2 (qaa qtv 10 rfl)))
  obtain ⟨x1, x2, x3, x4, x5, x6, x7, x8, f9, q10, q11⟩ := u
  obtain ⟨hP1, hK1, hD1⟩ := hB
  rw [ht] at hP1
  obtain ⟨hP, hD⟩ := va_join (wr := [(a2, .inl (cyJ, n2, .inr (.inl f2)))]) (w1 := (qaNd a0 jaW jaR ja1 jcp jbc q10 q11 jbH ja2 jbO jaq jac jbI jbl jbn jba jaa jbA x1 jaW jf0 x2 x3 x4 x5 x6 x7 jaR jcB jcC jbo jbp jbk jbj jbf jbq jbE jgP jbi jcd jiZ jlH x8 jlH cyI f9 jf0 cyB ji4)) hP hD [0, 1, 2, 3, 4, 5] [6] rfl rfl (by decide) (by decide) hk1 hFc hP1 hD1
  have hP : va_P (dC, dI) vwCl (qakg a0 jaW jaR ja1 jcp jbc q10 q11 jbH ja2 jbO jaq jac jbI jbl jbn jba jaa jbA x1 jaW jf0 x2 x3 x4 x5 x6 x7 jaR jcB jcC jbo jbp jbk jbj jbf jbq jbE jgP jbi jcd jiZ jlH x8 jlH cyI f9 jf0 cyB ji4 a2 cyJ n2 f2) H1 := hP.sub [1, 2, 3, 4, 5, 6, 0] rfl
  have hD : va_D A (qakg a0 jaW jaR ja1 jcp jbc q10 q11 jbH ja2 jbO jaq jac jbI jbl jbn jba jaa jbA x1 jaW jf0 x2 x3 x4 x5 x6 x7 jaR jcB jcC jbo jbp jbk jbj jbf jbq jbE jgP jbi jcd jiZ jlH x8 jlH cyI f9 jf0 cyB ji4 a2 cyJ n2 f2) := hD.sub [1, 2, 3, 4, 5, 6, 0] (by decide) rfl
  generalize H1 = H at hP hS ⊢
  refine lv_i2l (v := r12.toInt64) hx hb (qaa qtv 5 rfl) rfl ?_
  refine lv_topl (fun x13 ex13 => ?_)
  have hw := hw x13 ex13
  obtain ⟨hi9, hw⟩ := hw
  refine va_last hx hb hK hP hD hS 6 2 rfl rfl hi9 (qaa qtv 6 rfl) (fun H locs hP hD hS => ?_)
  obtain ⟨f14, ef14⟩ : ∃ y : Nat → Int64, y = vp_updL f2 (0 : Int32).toNatClampNeg x13 := ⟨_, rfl⟩
  have hw := hw f14 ef14
  have hP : va_P (dC, dI) vwCl (qakg a0 jaW jaR ja1 jcp jbc q10 q11 jbH ja2 jbO jaq jac jbI jbl jbn jba jaa jbA x1 jaW jf0 x2 x3 x4 x5 x6 x7 jaR jcB jcC jbo jbp jbk jbj jbf jbq jbE jgP jbi jcd jiZ jlH x8 jlH cyI f9 jf0 cyB ji4 a2 cyJ n2 f14) H := by rw [ef14]; exact hP
  have hD : va_D A (qakg a0 jaW jaR ja1 jcp jbc q10 q11 jbH ja2 jbO jaq jac jbI jbl jbn jba jaa jbA x1 jaW jf0 x2 x3 x4 x5 x6 x7 jaR jcB jcC jbo jbp jbk jbj jbf jbq jbE jgP jbi jcd jiZ jlH x8 jlH cyI f9 jf0 cyB ji4 a2 cyJ n2 f14) := by rw [ef14]; exact hD
  refine lv_goto (tgt := 15) hx hb (qaa qtv 7 rfl) (by decide) ?_
  refine lv_iconst (v := 0) hx hb (qaa qtv 11 rfl) (by decide) ?_
  exact (W.widen (k := 1) (n := 6) (nbq rfl) (nbq rfl) (W.iret (v := 0) hx hb hr (fun t ht hW => ⟨⟨0, (x1, x2, x3, x4, x5, x6, x7, x8, f9, q10, q11, f14), rfl, hw, by rw [ht]; exact hP, va_K.moved hW.alike hK, hD⟩, hS.F ht⟩) hS.2.2 (qaa qtv 12 rfl)))
theorem q8Z : ∀ w ∈ (qqx RX10 268 "java/util/NoSuchElementException" 13 qxA ["java/lang/RuntimeException", "java/lang/Exception"]).filter (fun w => !goodWord w), w ∈ xB := by decide +kernel
theorem qabe : ∀ w ∈ Cond.classLink RX10 264 "java/util/NoSuchElementException" :: Cond.initialized "java/util/NoSuchElementException" :: qqx RX10 268 "java/util/NoSuchElementException" 13 qxA ["java/lang/RuntimeException", "java/lang/Exception"], vx_ot w = true := by decide +kernel
theorem qabr : ∀ w ∈ (qqx RX10 268 "java/util/NoSuchElementException" 13 qxA ["java/lang/RuntimeException", "java/lang/Exception"]).filter goodWord, w ∈ wsX10_needHare := by decide +kernel
theorem qFJ : ∀ w ∈ u_ws RX10 TX10 19, w ∈ wsX10_needHare := uiM qtD qyN (by decide +kernel)
theorem qafj : ∀ w ∈ u_ws RX2 TX2 12, w ∈ wsX10_needHare := uiM qtD qLp (by decide +kernel)
theorem q2K : (.classLink RX10 264 "java/util/NoSuchElementException" : Cond) ∈ wsX10_needHare := qtD 2690 (by decide +kernel)
theorem q5O : (.fieldLink RX10 141 "MarchHares$Down" "hares" "I" : Cond) ∈ wsX10_needHare := qtD 644 (by decide +kernel)
theorem qaaG : (.fieldLink RX10 19 "MarchHares" "ground" "LMarchHares$Down;" : Cond) ∈ wsX10_needHare := qtD 20 (by decide +kernel)
theorem qNJ : (.fieldLink RX10 261 "MarchHares" "callsNoSuch" "I" : Cond) ∈ wsX10_needHare := qtD 2692 (by decide +kernel)
theorem q0g : (.initialized "java/util/NoSuchElementException" : Cond) ∈ wsX10_needHare := qtD 2691 (by decide +kernel)
set_option maxHeartbeats 4000000 in
set_option maxRecDepth 100000 in
theorem qqu (l : Launch) (dC : Nat → ClassId) (dI : Nat → Nat → Nat) (cyB cyI cyJ cyP : ClassId) (a0 jaR sz : Nat) (jaK ja1 jcp jbc jbV ja3 jbH ja2 jbO jaq jac jbI jbl jbn jba jaa jdD jcB jcC jbo jbp jbk jbj jbf jbq jef jbi jcd : Value) (jbm jdu p1 : Int32) {E : String → Int32 → Prop} {Q : Int32 → Prop} (hw : qm3 jbm jdu p1 E Q) : vx_Met l yX10_needHare wsX10_needHare ({ frames := 6, cells := 1, slots := 6, locals := 120 }) (va_Pc [.ref a0, .int p1] (cPx l (dC, dI) (kT cyB cyI cyJ cyP) (qGK a0 jaK jaR ja1 jcp jbc jbV ja3 jbH ja2 jbO jaq jac jbI jbl jbn jba jaa jdu jdD jaR jcB jcC jbo jbp jbk jbj jbf jbq jef jbm jbi jcd) sz)) (va_Qv (fun (u : Int32) => Q u) (cB (dC, dI) (kT cyB cyI cyJ cyP) (va_A (qGK a0 jaK jaR ja1 jcp jbc jbV ja3 jbH ja2 jbO jaq jac jbI jbl jbn jba jaa jdu jdD jaR jcB jcC jbo jbp jbk jbj jbf jbq jef jbm jbi jcd) sz) (fun u : Int32 => ((qGK a0 jaK jaR ja1 jcp jbc jbV ja3 jbH ja2 jbO jaq jac jbI jbl jbn jba jaa u jdD jaR jcB jcC jbo jbp jbk jbj jbf jbq jef jbm jbi jcd) : va_W))) (va_A (qGK a0 jaK jaR ja1 jcp jbc jbV ja3 jbH ja2 jbO jaq jac jbI jbl jbn jba jaa jdu jdD jaR jcB jcC jbo jbp jbk jbj jbf jbq jef jbm jbi jcd) sz)) (vx_X (fun _ => True) (fun (en : String) (u : Int32) (t : State) => E en u ∧ cB (dC, dI) (kT cyB cyI cyJ cyP) (va_A (qGK a0 jaK jaR ja1 jcp jbc jbV ja3 jbH ja2 jbO jaq jac jbI jbl jbn jba jaa jdu jdD jaR jcB jcC jbo jbp jbk jbj jbf jbq jef jbm jbi jcd) sz) (fun u : Int32 => ((qGK a0 jaK jaR ja1 jcp jbc jbV ja3 jbH ja2 jbO jaq jac jbI jbl jbn jba jaa u jdD jaR jcB jcC jbo jbp jbk jbj jbf jbq jef jbm jbi jcd) : va_W)) u t) (va_A (qGK a0 jaK jaR ja1 jcp jbc jbV ja3 jbH ja2 jbO jaq jac jbI jbl jbn jba jaa jdu jdD jaR jcB jcC jbo jbp jbk jbj jbf jbq jef jbm jbi jcd) sz)) 1 6 (va_A (qGK a0 jaK jaR ja1 jcp jbc jbV ja3 jbH ja2 jbO jaq jac jbI jbl jbn jba jaa jdu jdD jaR jcB jcC jbo jbp jbk jbj jbf jbq jef jbm jbi jcd) sz) := by
  refine vx_ofW (cc := cX10_needHare) (maxL := 2) (ret := none) (by decide) rfl ?_
  intro p e s m args below meth c s₁ B hml hnt hv
  obtain ⟨rfl, hsz, hP, hK, hD0, hNw, hXl, hXu, hXn, hXt⟩ := hv
  have hx := B.exec
  have hb := B.bytes
  have hr := B.returns
  have hts := atoms_spec (ws := wsX10_needHare) B.pre
  have hown : s.vm.findClass RX10 = some m.cls := findClass_of_methodNamed B.named
  have hlocks := B.notSynchronized
  subst hsz
  have hD := hD0.self (sz := s.heap.size)
  generalize hAe : va_A (qGK a0 jaK jaR ja1 jcp jbc jbV ja3 jbH ja2 jbO jaq jac jbI jbl jbn jba jaa jdu jdD jaR jcB jcC jbo jbp jbk jbj jbf jbq jef jbm jbi jcd) s.heap.size = A at hD hXu hXn ⊢
  have hA : ∀ q : Nat, s.heap.size ≤ q → A q := fun q h => by rw [← hAe]; exact Or.inr h
  have hS : va_S A s.heap s.heap [] := va_S.rf
  have hP : va_P (dC, dI) vwCl (qGK a0 jaK jaR ja1 jcp jbc jbV ja3 jbH ja2 jbO jaq jac jbI jbl jbn jba jaa jdu jdD jaR jcB jcC jbo jbp jbk jbj jbf jbq jef jbm jbi jcd) s.heap := hP
  have hl := lv_entry ([.ref a0, .int p1]) (n := 2) (nbq rfl)
  rw [lg_entry_eq]
  generalize (lg_sl ([.ref a0, .int p1]) ++ List.replicate (2 - (lg_sl ([.ref a0, .int p1])).length) Slot.unset).toArray = ls at hl ⊢
  have hl : lv_has ls 2 [(0, .ref a0), (1, .int p1)] := hl
  have hY : cfY l s A := ⟨hXl, hXu, hXn, hXt⟩
  have hXs : cfX l s c A := ⟨hnt, hY⟩
  have C0 : cfx p s m _ meth c cX10_needHare none wsX10_needHare RX10 2 A (dC, dI) (kT cyB cyI cyJ cyP) ∧ cfX l s c A := ⟨⟨hx, hb, hr, hts, hown, hlocks, hml, hA, hK, hNw⟩, hXs⟩
  clear hAe
  obtain ⟨H, hH⟩ : ∃ H, H = s.heap := ⟨_, rfl⟩
  rw [← hH] at hP ⊢
  have hS : va_S A s.heap H [] := by rw [hH]; exact va_S.rf
  have hS := hS
  refine lv_iload_n hx hb (qaa qeN 0 rfl) rfl (lv_at hl 1 rfl) ?_
  refine lv_iconst (v := 0) hx hb (qaa qeN 1 rfl) (by decide) ?_
  refine lv_aload_n hx hb (qaa qeN 2 rfl) rfl (lv_at hl 0 rfl) ?_
  refine va_get (D := (dC, dI)) (ci := 10) (v := .ref jaR) (C := RX10) (T := TX10) (N := 19) hx hb hts qFJ hown hK hP 0 rfl rfl 1 (by decide) (hts _ qaaG) (fun _ h9 => h9) rfl (qaa qeN 3 rfl) ?_
  refine va_get (D := (dC, dI)) (ci := 2) (v := .int jbm) (C := RX2) (T := TX2) (N := 12) hx hb hts qafj hown hK hP 1 rfl rfl 9 (by decide) (hts _ q5O) (fun _ h9 => h9) rfl (qaa qeN 4 rfl) ?_
  refine lv_iconst (v := 1) hx hb (qaa qeN 5 rfl) (by decide) ?_
  refine lv_isub hx hb (qaa qeN 6 rfl) ?_
  obtain ⟨hCc, hPc, hDc, hFc⟩ := qac (ws' := []) hP hD hS hA [] (by decide +kernel) rfl
  refine va_calli (va_runS (As := [.int p1, .int 0, .int (jbm - 1)]) (rest := []) ⟨hx, hb, hml, hown, hts⟩ (qzC l dC dI cyB cyI cyJ cyP H.size p1 0 (jbm - 1) hw) (va_cwS 3 hts gX10_needHare_X10_within rfl rfl rfl (by decide +kernel) ⟨nbq rfl, nbq rfl⟩) ⟨qab, qae hPc hK hDc hNw⟩ rfl rfl hl.1 rfl (lv_room (nbq rfl)) (qaa qeN 7 rfl) ⟨nbq rfl, nbq rfl⟩) hS (fun q _ h => hFc q h) hFc (fun r1 u t H1 locs ht hvm hw hB hz1 hk1 hS => ?_)
  obtain ⟨hP1, hK1, hD1⟩ := hB
  rw [ht] at hP1
  obtain ⟨hP, hD⟩ := qah (wr := (qGK a0 jaK jaR ja1 jcp jbc jbV ja3 jbH ja2 jbO jaq jac jbI jbl jbn jba jaa jdu jdD jaR jcB jcC jbo jbp jbk jbj jbf jbq jef jbm jbi jcd)) (w1 := []) (wn := (qGK a0 jaK jaR ja1 jcp jbc jbV ja3 jbH ja2 jbO jaq jac jbI jbl jbn jba jaa jdu jdD jaR jcB jcC jbo jbp jbk jbj jbf jbq jef jbm jbi jcd)) hP hD [] [0, 1] hCc rfl (by decide +kernel) (by decide +kernel) rfl hk1 hFc hP1 hD1
  generalize H1 = H at hP hS ⊢
  refine lv_if_ne (tgt := 38) hx hb (qaa qeN 8 rfl) (by decide) (fun c2 => ?_) (fun c2 => ?_)
  · have hw := hw.1 c2
    exact vx_ret (W.widen (k := 1) (n := 6) (nbq rfl) (nbq rfl) (W.vret hx hb hr (fun t ht hW => ⟨⟨(jdu), rfl, hw, by rw [ht]; exact hP, va_K.moved hW.alike hK, hD⟩, hS.F ht⟩) hS.2.2 (qaa qxt 4 rfl)))
  · have hw := hw.2 c2
    refine lv_aload_n hx hb (qaa qeN 9 rfl) rfl (lv_at hl 0 rfl) ?_
    refine lv_dup hx hb (qaa qeN 10 rfl) rfl ?_
    refine va_get (D := (dC, dI)) (ci := 10) (v := .int jdu) (C := RX10) (T := TX10) (N := 19) hx hb hts qFJ hown hK hP 0 rfl rfl 17 (by decide) (hts _ qNJ) (fun _ h9 => h9) rfl (qaa qeN 11 rfl) ?_
    refine lv_iconst (v := 1) hx hb (qaa qeN 12 rfl) (by decide) ?_
    refine lv_iadd hx hb (qaa qeN 13 rfl) ?_
    refine lv_topi (fun x3 ex3 => ?_)
    have hw := hw x3 ex3
    refine va_put (D := (dC, dI)) (ci := 10) (v := .int x3) (ty := .int) (C := RX10) (T := TX10) (N := 19) hx hb hts qFJ tyX10 tyX10_ok nmX10 hown hK hP hD hS 0 rfl rfl 17 (by decide) (hts _ qNJ) (fun _ h9 => h9) rfl (by decide +kernel) rfl rfl (nbq rfl) (qaa qeN 14 rfl) (fun H locs hP hD hS => ?_)
    have hP : va_P (dC, dI) vwCl (qGK a0 jaK jaR ja1 jcp jbc jbV ja3 jbH ja2 jbO jaq jac jbI jbl jbn jba jaa x3 jdD jaR jcB jcC jbo jbp jbk jbj jbf jbq jef jbm jbi jcd) H := hP
    have hD : va_D A (qGK a0 jaK jaR ja1 jcp jbc jbV ja3 jbH ja2 jbO jaq jac jbI jbl jbn jba jaa x3 jdD jaR jcB jcC jbo jbp jbk jbj jbf jbq jef jbm jbi jcd) := hD
    obtain ⟨sa9, hsa9⟩ := hY.2.2.2.2.1 _ (List.mem_of_getElem? (i := 1) rfl)
    exact qakp hx hb hY.1 (own := RX10) (cls := "java/util/NoSuchElementException") (names := ["java/lang/RuntimeException", "java/lang/Exception"]) (ik := 264) (is := 403) (ic := 268) (rx := qxA) (by decide +kernel) (by decide +kernel) (by decide +kernel) (by decide +kernel) hown (by decide +kernel) (by decide +kernel) (hts _ q2K) (hts _ q0g) hsa9 (vx_hat (fun w hw9 => hts w (qabr w hw9)) q8Z (qa1a hY.2.2.2.1)) qabe hY.2.1 hY.2.2.1 hS (by rw [hml]; exact hl.1) (qaa qeN 15 rfl) (qaa qxt 0 rfl) (qaa qxt 1 rfl) (qaa qxt 2 rfl) (qaa qxt 3 rfl) (fun x hx9 => (hXs.1 x hx9).elim) (nbq rfl) (nbq rfl) (nbq rfl) (nbq rfl) hlocks (fun t hal hsz9 hq9 => ⟨(x3), trivial, ⟨hw, hP.kept (fun k q hk9 => hq9 _ ((hP k q hk9).lt)), va_K.moved hal hK, hD⟩, qau3 hS hsz9 hq9⟩) hS.2.2 (nbq rfl) (nbq rfl)
theorem qWc : ∀ w ∈ u_ws RX1 TX1 4, w ∈ wsX1_freeOnes := uiM qHZ qWg (by decide +kernel)
theorem qamO : ∀ w ∈ u_ws RX2 TX2 12, w ∈ wsX1_freeOnes := uiM qHZ qLp (by decide +kernel)
theorem qagv : (.fieldLink RX1 13 "MarchHares$Days" "row" "[I" : Cond) ∈ wsX1_freeOnes := qHZ 276 (by decide +kernel)
theorem qadJ : (.fieldLink RX1 24 "MarchHares$Days" "down" "LMarchHares$Down;" : Cond) ∈ wsX1_freeOnes := qHZ 322 (by decide +kernel)
theorem qaig : (.fieldLink RX1 32 "MarchHares$Down" "hares" "I" : Cond) ∈ wsX1_freeOnes := qHZ 324 (by decide +kernel)
set_option maxHeartbeats 4000000 in
set_option maxRecDepth 100000 in
theorem qaHA (l : Launch) (dC : Nat → ClassId) (dI : Nat → Nat → Nat) (cyB cyI cyJ cyP : ClassId) (a0 jfB jch sz : Nat) (jcD jhx jhr jhs jgk jgl jgm jgz jfV jgn jgO jfW jiB : Value) (jc6 : Int32) (jdE : NI) {Q : Int32 → Prop} (hw : q7u jc6 jdE Q) : Met l yX1_freeOnes wsX1_freeOnes ({ frames := 0, cells := 0, slots := 0, locals := 0 }) (va_Pc [.ref a0] (cPc (dC, dI) (kT cyB cyI cyJ cyP) (qpU a0 jch jcD jfB jhx jfB jhr jhs jgk jgl jgm jgz jfV jgn jgO jc6 jfW jiB jch cyI jdE) sz)) (va_Qi (fun (r : Int32) (_ : Unit) => Q r ) (cB (dC, dI) (kT cyB cyI cyJ cyP) (va_A (qpU a0 jch jcD jfB jhx jfB jhr jhs jgk jgl jgm jgz jfV jgn jgO jc6 jfW jiB jch cyI jdE) sz) (fun u : Unit => ((qpU a0 jch jcD jfB jhx jfB jhr jhs jgk jgl jgm jgz jfV jgn jgO jc6 jfW jiB jch cyI jdE) : va_W))) (va_A (qpU a0 jch jcD jfB jhx jfB jhr jhs jgk jgl jgm jgz jfV jgn jgO jc6 jfW jiB jch cyI jdE) sz)) 0 0 (va_A (qpU a0 jch jcD jfB jhx jfB jhr jhs jgk jgl jgm jgz jfV jgn jgO jc6 jfW jiB jch cyI jdE) sz) := by
  refine Met.ofW (cc := cX1_freeOnes) (maxL := 1) (ret := (some .int)) (by decide) rfl ?_
  intro p e s m args below meth c s₁ B hml hv
  obtain ⟨rfl, hsz, hP, hK, hD0, hNw⟩ := hv
  have hx := B.exec
  have hb := B.bytes
  have hr := B.returns
  have hts := atoms_spec (ws := wsX1_freeOnes) B.pre
  have hown : s.vm.findClass RX1 = some m.cls := findClass_of_methodNamed B.named
  have hlocks := B.notSynchronized
  subst hsz
  have hD := hD0.self (sz := s.heap.size)
  generalize hAe : va_A (qpU a0 jch jcD jfB jhx jfB jhr jhs jgk jgl jgm jgz jfV jgn jgO jc6 jfW jiB jch cyI jdE) s.heap.size = A at hD ⊢
  have hA : ∀ q : Nat, s.heap.size ≤ q → A q := fun q h => by rw [← hAe]; exact Or.inr h
  have hS : va_S A s.heap s.heap [] := va_S.rf
  have hP : va_P (dC, dI) vwCl (qpU a0 jch jcD jfB jhx jfB jhr jhs jgk jgl jgm jgz jfV jgn jgO jc6 jfW jiB jch cyI jdE) s.heap := hP
  have hl := lv_entry ([.ref a0]) (n := 1) (nbq rfl)
  rw [lg_entry_eq]
  generalize (lg_sl ([.ref a0]) ++ List.replicate (1 - (lg_sl ([.ref a0])).length) Slot.unset).toArray = ls at hl ⊢
  have hl : lv_has ls 1 [(0, .ref a0)] := hl
  have C0 : cfx p s m _ meth c cX1_freeOnes (some .int) wsX1_freeOnes RX1 1 A (dC, dI) (kT cyB cyI cyJ cyP) := ⟨hx, hb, hr, hts, hown, hlocks, hml, hA, hK, hNw⟩
  clear hAe
  obtain ⟨H, hH⟩ : ∃ H, H = s.heap := ⟨_, rfl⟩
  rw [← hH] at hP ⊢
  have hS : va_S A s.heap H [] := by rw [hH]; exact va_S.rf
  have hS := hS
  refine lv_iconst (v := 1) hx hb (qaa qgx 0 rfl) (by decide) ?_
  refine lv_aload_n hx hb (qaa qgx 1 rfl) rfl (lv_at hl 0 rfl) ?_
  refine va_get (D := (dC, dI)) (ci := 1) (v := .ref jfB) (C := RX1) (T := TX1) (N := 4) hx hb hts qWc hown hK hP 0 rfl rfl 2 (by decide) (hts _ qadJ) (fun _ h9 => h9) rfl (qaa qgx 2 rfl) ?_
  refine va_get (D := (dC, dI)) (ci := 2) (v := .int jc6) (C := RX2) (T := TX2) (N := 12) hx hb hts qamO hown hK hP 1 rfl rfl 9 (by decide) (hts _ qaig) (fun _ h9 => h9) rfl (qaa qgx 3 rfl) ?_
  refine lv_ishl hx hb (qaa qgx 4 rfl) ?_
  refine lv_iconst (v := 1) hx hb (qaa qgx 5 rfl) (by decide) ?_
  refine lv_isub hx hb (qaa qgx 6 rfl) ?_
  refine lv_aload_n hx hb (qaa qgx 7 rfl) rfl (lv_at hl 0 rfl) ?_
  refine va_get (D := (dC, dI)) (ci := 1) (v := .ref jch) (C := RX1) (T := TX1) (N := 4) hx hb hts qWc hown hK hP 0 rfl rfl 0 (by decide) (hts _ qagv) (fun _ h9 => h9) rfl (qaa qgx 8 rfl) ?_
  refine lv_iconst (v := 2) hx hb (qaa qgx 9 rfl) (by decide) ?_
  refine va_iald hx hb hK hP 2 1 rfl rfl (vin (by decide)) (qaa qgx 10 rfl) ?_
  refine lv_topi (fun x1 ex1 => ?_)
  have hw := hw x1 ex1
  refine lv_iconst (v := (-1)) hx hb (qaa qgx 11 rfl) (by decide) ?_
  refine lv_ixor hx hb (qaa qgx 12 rfl) ?_
  refine lv_iand hx hb (qaa qgx 13 rfl) ?_
  refine lv_topi (fun x2 ex2 => ?_)
  have hw := hw x2 ex2
  exact ((W.iret (v := x2) hx hb hr (fun t ht hW => ⟨⟨x2, (), rfl, hw, by rw [ht]; exact hP, va_K.moved hW.alike hK, hD⟩, hS.F ht⟩) hS.2.2 (qaa qgx 14 rfl)))
theorem qaxq : ∀ w ∈ u_ws RX1 TX1 4, w ∈ wsX1_strong := uiM qavI qWg (by decide +kernel)
theorem qasG : (.fieldLink RX1 13 "MarchHares$Days" "row" "[I" : Cond) ∈ wsX1_strong := qavI 276 (by decide +kernel)
set_option maxHeartbeats 4000000 in
set_option maxRecDepth 100000 in
theorem qsD (l : Launch) (dC : Nat → ClassId) (dI : Nat → Nat → Nat) (cyB cyI cyJ cyP : ClassId) (a0 jch sz : Nat) (jcD ji6 jhx : Value) (jdE : NI) (p1 : Int32) {Q : Int32 → Prop} (hw : qpb jdE p1 Q) : Met l yX1_strong wsX1_strong ({ frames := 0, cells := 0, slots := 0, locals := 0 }) (va_Pc [.ref a0, .int p1] (cPc (dC, dI) (kT cyB cyI cyJ cyP) (qaH a0 jch jcD ji6 jhx jch cyI jdE) sz)) (va_Qi (fun (r : Int32) (_ : Unit) => Q r ) (cB (dC, dI) (kT cyB cyI cyJ cyP) (va_A (qaH a0 jch jcD ji6 jhx jch cyI jdE) sz) (fun u : Unit => ((qaH a0 jch jcD ji6 jhx jch cyI jdE) : va_W))) (va_A (qaH a0 jch jcD ji6 jhx jch cyI jdE) sz)) 0 0 (va_A (qaH a0 jch jcD ji6 jhx jch cyI jdE) sz) := by
  refine Met.ofW (cc := cX1_strong) (maxL := 2) (ret := (some .int)) (by decide) rfl ?_
  intro p e s m args below meth c s₁ B hml hv
  obtain ⟨rfl, hsz, hP, hK, hD0, hNw⟩ := hv
  have hx := B.exec
  have hb := B.bytes
  have hr := B.returns
  have hts := atoms_spec (ws := wsX1_strong) B.pre
  have hown : s.vm.findClass RX1 = some m.cls := findClass_of_methodNamed B.named
  have hlocks := B.notSynchronized
  subst hsz
  have hD := hD0.self (sz := s.heap.size)
  generalize hAe : va_A (qaH a0 jch jcD ji6 jhx jch cyI jdE) s.heap.size = A at hD ⊢
  have hA : ∀ q : Nat, s.heap.size ≤ q → A q := fun q h => by rw [← hAe]; exact Or.inr h
  have hS : va_S A s.heap s.heap [] := va_S.rf
  have hP : va_P (dC, dI) vwCl (qaH a0 jch jcD ji6 jhx jch cyI jdE) s.heap := hP
  have hl := lv_entry ([.ref a0, .int p1]) (n := 2) (nbq rfl)
  rw [lg_entry_eq]
  generalize (lg_sl ([.ref a0, .int p1]) ++ List.replicate (2 - (lg_sl ([.ref a0, .int p1])).length) Slot.unset).toArray = ls at hl ⊢
  have hl : lv_has ls 2 [(0, .ref a0), (1, .int p1)] := hl
  have C0 : cfx p s m _ meth c cX1_strong (some .int) wsX1_strong RX1 2 A (dC, dI) (kT cyB cyI cyJ cyP) := ⟨hx, hb, hr, hts, hown, hlocks, hml, hA, hK, hNw⟩
  clear hAe
  obtain ⟨H, hH⟩ : ∃ H, H = s.heap := ⟨_, rfl⟩
  rw [← hH] at hP ⊢
  have hS : va_S A s.heap H [] := by rw [hH]; exact va_S.rf
  have hS := hS
  refine lv_aload_n hx hb (qaa qxL 0 rfl) rfl (lv_at hl 0 rfl) ?_
  refine va_get (D := (dC, dI)) (ci := 1) (v := .ref jch) (C := RX1) (T := TX1) (N := 4) hx hb hts qaxq hown hK hP 0 rfl rfl 0 (by decide) (hts _ qasG) (fun _ h9 => h9) rfl (qaa qxL 1 rfl) ?_
  refine lv_bipush (v := 10) hx hb (qaa qxL 2 rfl) (by decide) ?_
  refine lv_iload_n hx hb (qaa qxL 3 rfl) rfl (lv_at hl 1 rfl) ?_
  refine lv_iadd hx hb (qaa qxL 4 rfl) ?_
  refine lv_topi (fun x1 ex1 => ?_)
  have hw := hw x1 ex1
  obtain ⟨hi9, hw⟩ := hw
  refine va_iald hx hb hK hP 1 1 rfl rfl hi9 (qaa qxL 5 rfl) ?_
  refine lv_topi (fun x2 ex2 => ?_)
  have hw := hw x2 ex2
  exact ((W.iret (v := x2) hx hb hr (fun t ht hW => ⟨⟨x2, (), rfl, hw, by rw [ht]; exact hP, va_K.moved hW.alike hK, hD⟩, hS.F ht⟩) hS.2.2 (qaa qxL 6 rfl)))
theorem qU7 : (.initialized "java/lang/Math" : Cond) ∈ wsX10_ordersWon := qk0 651 (by decide +kernel)
theorem qVD : (.methodLink RX10 389 Lib.Math.max.name : Cond) ∈ wsX10_ordersWon := qk0 3404 (by decide +kernel)
theorem qT0 : (.code Lib.Math.max.name Lib.Math.max.code 2 (some .int) : Cond) ∈ wsX10_ordersWon := qk0 1931 (by decide +kernel)
theorem qUz : (.static Lib.Math.max.name : Cond) ∈ wsX10_ordersWon := qk0 1930 (by decide +kernel)
set_option maxHeartbeats 4000000 in
set_option maxRecDepth 100000 in
theorem qJb {p : Program} {l : Launch} {e : Env} {s : State} {m : MethodId} {args : Array Value} {below : List Frame} {meth : Method} {c : Code} {A : Nat → Prop} (dC : Nat → ClassId) (dI : Nat → Nat → Nat) (cyB cyI cyJ cyP : ClassId) (a0 jch : Nat) (jcD ji6 jhx : Value) (jdE : NI) (Q : Int32 → Prop) (K22 : Int32 → Int32 → Int32 → Int32 → Int32 → Int32 → Prop) (hK22 : ∀ (H : Heap) (locs : List Loc) (ls : Array Slot) (l1 l2 l3 l4 l5 l6 : Int32), va_P (dC, dI) vwCl (qaH a0 jch jcD ji6 jhx jch cyI jdE) H → va_D A (qaH a0 jch jcD ji6 jhx jch cyI jdE) → va_S A s.heap H locs → lv_has ls 11 [(0, .ref a0), (1, .int l1), (2, .int l2), (3, .int l3), (4, .int l4), (5, .int l5), (6, .int l6)] → K22 l1 l2 l3 l4 l5 l6 → W p l e (headSpec wsX10_ordersWon ({ frames := 1, cells := 0, slots := 0, locals := 32 })).room s m args below meth c H locs 0 0 (MQ below (va_Qi (fun (r : Int32) (_ : Unit) => Q r ) (cB (dC, dI) (kT cyB cyI cyJ cyP) A (fun u : Unit => ((qaH a0 jch jcD ji6 jhx jch cyI jdE) : va_W))) A) args s 0 0 A) (F0 m 22 ls [])) (C0 : cfx p s m args meth c cX10_ordersWon (some .int) wsX10_ordersWon RX10 11 A (dC, dI) (kT cyB cyI cyJ cyP)) : ∀ (H : Heap) (locs : List Loc) (ls : Array Slot) (l1 l2 l3 l4 l5 l6 l9 s0 s1 : Int32), va_P (dC, dI) vwCl (qaH a0 jch jcD ji6 jhx jch cyI jdE) H → va_D A (qaH a0 jch jcD ji6 jhx jch cyI jdE) → va_S A s.heap H locs → lv_has ls 11 [(0, .ref a0), (1, .int l1), (2, .int l2), (3, .int l3), (4, .int l4), (5, .int l5), (6, .int l6), (9, .int l9)] → qAR jdE Q K22 l1 l2 l3 l4 l5 l6 l9 s0 s1 → W p l e (headSpec wsX10_ordersWon ({ frames := 1, cells := 0, slots := 0, locals := 32 })).room s m args below meth c H locs 0 0 (MQ below (va_Qi (fun (r : Int32) (_ : Unit) => Q r ) (cB (dC, dI) (kT cyB cyI cyJ cyP) A (fun u : Unit => ((qaH a0 jch jcD ji6 jhx jch cyI jdE) : va_W))) A) args s 0 0 A) (F0 m 85 ls [.int s1, .int s0]) := by
  obtain ⟨hx, hb, hr, hts, hown, hlocks, hml, hA, hK, hNw⟩ := id C0
  intro H locs ls l1 l2 l3 l4 l5 l6 l9 s0 s1 hP hD hS hl hw
  refine lv_iconst (v := 1) hx hb (qaa qaP 11 rfl) (by decide) ?_
  refine lv_isub hx hb (qaa qaP 12 rfl) ?_
  refine va_mmax hx hb (by rw [hml]; exact hl.1.symm) hown (hts _ qVD) (hts _ qUz) (hts _ qU7) (hts _ qT0) (nbq rfl) (nbq rfl) (nbq rfl) (nbq rfl) (qaa qaP 13 rfl) ?_
  refine lv_topi (fun x11 ex11 => ?_)
  have hw := hw x11 ex11
  refine lv_istore (lv' := [(10, .int x11), (0, .ref a0), (1, .int l1), (2, .int l2), (3, .int l3), (4, .int l4), (5, .int l5), (6, .int l6), (9, .int l9)]) hx hb (qaa qaP 14 rfl) hl (by decide) rfl (fun ls hl => ?_)
  refine lv_iload hx hb (qaa qaP 15 rfl) (lv_at hl 6 rfl) ?_
  refine lv_aload_n hx hb (qaa qa5 0 rfl) rfl (lv_at hl 1 rfl) ?_
  refine lv_iload_n hx hb (qaa qa5 1 rfl) rfl (lv_at hl 2 rfl) ?_
  refine lv_iload hx hb (qaa qa5 2 rfl) (lv_at hl 8 rfl) ?_
  refine lv_iload hx hb (qaa qa5 3 rfl) (lv_at hl 0 rfl) ?_
  refine lv_iload hx hb (qaa qa5 4 rfl) (lv_at hl 5 rfl) ?_
  refine lv_iconst (v := 1) hx hb (qaa qa5 5 rfl) (by decide) ?_
  refine lv_iload hx hb (qaa qa5 6 rfl) (lv_at hl 7 rfl) ?_
  refine lv_ishl hx hb (qaa qa5 7 rfl) ?_
  refine lv_ixor hx hb (qaa qa5 8 rfl) ?_
  exact False.elim hw
set_option maxHeartbeats 4000000 in
set_option maxRecDepth 100000 in
theorem qJq {p : Program} {l : Launch} {e : Env} {s : State} {m : MethodId} {args : Array Value} {below : List Frame} {meth : Method} {c : Code} {A : Nat → Prop} (dC : Nat → ClassId) (dI : Nat → Nat → Nat) (cyB cyI cyJ cyP : ClassId) (a0 jch : Nat) (jcD ji6 jhx : Value) (jdE : NI) (Q : Int32 → Prop) (K22 : Int32 → Int32 → Int32 → Int32 → Int32 → Int32 → Prop) (hK22 : ∀ (H : Heap) (locs : List Loc) (ls : Array Slot) (l1 l2 l3 l4 l5 l6 : Int32), va_P (dC, dI) vwCl (qaH a0 jch jcD ji6 jhx jch cyI jdE) H → va_D A (qaH a0 jch jcD ji6 jhx jch cyI jdE) → va_S A s.heap H locs → lv_has ls 11 [(0, .ref a0), (1, .int l1), (2, .int l2), (3, .int l3), (4, .int l4), (5, .int l5), (6, .int l6)] → K22 l1 l2 l3 l4 l5 l6 → W p l e (headSpec wsX10_ordersWon ({ frames := 1, cells := 0, slots := 0, locals := 32 })).room s m args below meth c H locs 0 0 (MQ below (va_Qi (fun (r : Int32) (_ : Unit) => Q r ) (cB (dC, dI) (kT cyB cyI cyJ cyP) A (fun u : Unit => ((qaH a0 jch jcD ji6 jhx jch cyI jdE) : va_W))) A) args s 0 0 A) (F0 m 22 ls [])) (C0 : cfx p s m args meth c cX10_ordersWon (some .int) wsX10_ordersWon RX10 11 A (dC, dI) (kT cyB cyI cyJ cyP)) : ∀ (H : Heap) (locs : List Loc) (ls : Array Slot) (l1 l2 l3 l4 l5 l6 l7 l8 s0 : Int32), va_P (dC, dI) vwCl (qaH a0 jch jcD ji6 jhx jch cyI jdE) H → va_D A (qaH a0 jch jcD ji6 jhx jch cyI jdE) → va_S A s.heap H locs → lv_has ls 11 [(0, .ref a0), (1, .int l1), (2, .int l2), (3, .int l3), (4, .int l4), (5, .int l5), (6, .int l6), (7, .int l7), (8, .int l8)] → qAL jdE Q K22 l1 l2 l3 l4 l5 l6 l7 l8 s0 → W p l e (headSpec wsX10_ordersWon ({ frames := 1, cells := 0, slots := 0, locals := 32 })).room s m args below meth c H locs 0 0 (MQ below (va_Qi (fun (r : Int32) (_ : Unit) => Q r ) (cB (dC, dI) (kT cyB cyI cyJ cyP) A (fun u : Unit => ((qaH a0 jch jcD ji6 jhx jch cyI jdE) : va_W))) A) args s 0 0 A) (F0 m 71 ls [.int s0]) := by
  obtain ⟨hx, hb, hr, hts, hown, hlocks, hml, hA, hK, hNw⟩ := id C0
  intro H locs ls l1 l2 l3 l4 l5 l6 l7 l8 s0 hP hD hS hl hw
  refine lv_istore (lv' := [(9, .int s0), (0, .ref a0), (1, .int l1), (2, .int l2), (3, .int l3), (4, .int l4), (5, .int l5), (6, .int l6), (7, .int l7), (8, .int l8)]) hx hb (qaa qaP 4 rfl) hl (by decide) rfl (fun ls hl => ?_)
  refine lv_iconst (v := 0) hx hb (qaa qaP 5 rfl) (by decide) ?_
  refine lv_iload hx hb (qaa qaP 6 rfl) (lv_at hl 9 rfl) ?_
  refine lv_if_eq (tgt := 83) hx hb (qaa qaP 7 rfl) (by decide) (fun c10 => ?_) (fun c10 => ?_)
  · have hw := hw.1 c10
    refine lv_iload hx hb (qaa qaP 10 rfl) (lv_at hl 8 rfl) ?_
    exact qJb dC dI cyB cyI cyJ cyP a0 jch jcD ji6 jhx jdE Q K22 hK22 C0 _ _ _ l1 l2 l3 l4 l5 l6 s0 0 l7 hP hD hS (lv_sub hl [1, 2, 3, 4, 5, 6, 7, 0] rfl) hw
  · have hw := hw.2 c10
    refine lv_iload_n hx hb (qaa qaP 8 rfl) rfl (lv_at hl 4 rfl) ?_
    refine lv_goto (tgt := 85) hx hb (qaa qaP 9 rfl) (by decide) ?_
    exact qJb dC dI cyB cyI cyJ cyP a0 jch jcD ji6 jhx jdE Q K22 hK22 C0 _ _ _ l1 l2 l3 l4 l5 l6 s0 0 l3 hP hD hS (lv_sub hl [1, 2, 3, 4, 5, 6, 7, 0] rfl) hw
set_option maxHeartbeats 4000000 in
set_option maxRecDepth 100000 in
theorem qJn {p : Program} {l : Launch} {e : Env} {s : State} {m : MethodId} {args : Array Value} {below : List Frame} {meth : Method} {c : Code} {A : Nat → Prop} (dC : Nat → ClassId) (dI : Nat → Nat → Nat) (cyB cyI cyJ cyP : ClassId) (a0 jch : Nat) (jcD ji6 jhx : Value) (jdE : NI) (Q : Int32 → Prop) (K22 : Int32 → Int32 → Int32 → Int32 → Int32 → Int32 → Prop) (hK22 : ∀ (H : Heap) (locs : List Loc) (ls : Array Slot) (l1 l2 l3 l4 l5 l6 : Int32), va_P (dC, dI) vwCl (qaH a0 jch jcD ji6 jhx jch cyI jdE) H → va_D A (qaH a0 jch jcD ji6 jhx jch cyI jdE) → va_S A s.heap H locs → lv_has ls 11 [(0, .ref a0), (1, .int l1), (2, .int l2), (3, .int l3), (4, .int l4), (5, .int l5), (6, .int l6)] → K22 l1 l2 l3 l4 l5 l6 → W p l e (headSpec wsX10_ordersWon ({ frames := 1, cells := 0, slots := 0, locals := 32 })).room s m args below meth c H locs 0 0 (MQ below (va_Qi (fun (r : Int32) (_ : Unit) => Q r ) (cB (dC, dI) (kT cyB cyI cyJ cyP) A (fun u : Unit => ((qaH a0 jch jcD ji6 jhx jch cyI jdE) : va_W))) A) args s 0 0 A) (F0 m 22 ls [])) (C0 : cfx p s m args meth c cX10_ordersWon (some .int) wsX10_ordersWon RX10 11 A (dC, dI) (kT cyB cyI cyJ cyP)) : ∀ (H : Heap) (locs : List Loc) (ls : Array Slot) (l1 l2 l3 l4 l5 l6 l7 s0 : Int32), va_P (dC, dI) vwCl (qaH a0 jch jcD ji6 jhx jch cyI jdE) H → va_D A (qaH a0 jch jcD ji6 jhx jch cyI jdE) → va_S A s.heap H locs → lv_has ls 11 [(0, .ref a0), (1, .int l1), (2, .int l2), (3, .int l3), (4, .int l4), (5, .int l5), (6, .int l6), (7, .int l7)] → qAQ jdE Q K22 l1 l2 l3 l4 l5 l6 l7 s0 → W p l e (headSpec wsX10_ordersWon ({ frames := 1, cells := 0, slots := 0, locals := 32 })).room s m args below meth c H locs 0 0 (MQ below (va_Qi (fun (r : Int32) (_ : Unit) => Q r ) (cB (dC, dI) (kT cyB cyI cyJ cyP) A (fun u : Unit => ((qaH a0 jch jcD ji6 jhx jch cyI jdE) : va_W))) A) args s 0 0 A) (F0 m 58 ls [.int s0]) := by
  obtain ⟨hx, hb, hr, hts, hown, hlocks, hml, hA, hK, hNw⟩ := id C0
  intro H locs ls l1 l2 l3 l4 l5 l6 l7 s0 hP hD hS hl hw
  refine lv_istore (lv' := [(8, .int s0), (0, .ref a0), (1, .int l1), (2, .int l2), (3, .int l3), (4, .int l4), (5, .int l5), (6, .int l6), (7, .int l7)]) hx hb (qaa qaR 14 rfl) hl (by decide) rfl (fun ls hl => ?_)
  refine lv_iload hx hb (qaa qaR 15 rfl) (lv_at hl 0 rfl) ?_
  refine lv_if_eq (tgt := 69) hx hb (qaa qaP 0 rfl) (by decide) (fun c9 => ?_) (fun c9 => ?_)
  · have hw := hw.1 c9
    refine lv_iload hx hb (qaa qaP 3 rfl) (lv_at hl 7 rfl) ?_
    exact qJq dC dI cyB cyI cyJ cyP a0 jch jcD ji6 jhx jdE Q K22 hK22 C0 _ _ _ l1 l2 l3 l4 l5 l6 l7 s0 l6 hP hD hS (lv_sub hl [1, 2, 3, 4, 5, 6, 7, 8, 0] rfl) hw
  · have hw := hw.2 c9
    refine lv_iload_n hx hb (qaa qaP 1 rfl) rfl (lv_at hl 3 rfl) ?_
    refine lv_goto (tgt := 71) hx hb (qaa qaP 2 rfl) (by decide) ?_
    exact qJq dC dI cyB cyI cyJ cyP a0 jch jcD ji6 jhx jdE Q K22 hK22 C0 _ _ _ l1 l2 l3 l4 l5 l6 l7 s0 l2 hP hD hS (lv_sub hl [1, 2, 3, 4, 5, 6, 7, 8, 0] rfl) hw
set_option maxHeartbeats 4000000 in
set_option maxRecDepth 100000 in
theorem qWA {p : Program} {l : Launch} {e : Env} {s : State} {m : MethodId} {args : Array Value} {below : List Frame} {meth : Method} {c : Code} {A : Nat → Prop} (dC : Nat → ClassId) (dI : Nat → Nat → Nat) (cyB cyI cyJ cyP : ClassId) (a0 jch : Nat) (jcD ji6 jhx : Value) (jdE : NI) (Q : Int32 → Prop) (K22 : Int32 → Int32 → Int32 → Int32 → Int32 → Int32 → Prop) (hK22 : ∀ (H : Heap) (locs : List Loc) (ls : Array Slot) (l1 l2 l3 l4 l5 l6 : Int32), va_P (dC, dI) vwCl (qaH a0 jch jcD ji6 jhx jch cyI jdE) H → va_D A (qaH a0 jch jcD ji6 jhx jch cyI jdE) → va_S A s.heap H locs → lv_has ls 11 [(0, .ref a0), (1, .int l1), (2, .int l2), (3, .int l3), (4, .int l4), (5, .int l5), (6, .int l6)] → K22 l1 l2 l3 l4 l5 l6 → W p l e (headSpec wsX10_ordersWon ({ frames := 1, cells := 0, slots := 0, locals := 32 })).room s m args below meth c H locs 0 0 (MQ below (va_Qi (fun (r : Int32) (_ : Unit) => Q r ) (cB (dC, dI) (kT cyB cyI cyJ cyP) A (fun u : Unit => ((qaH a0 jch jcD ji6 jhx jch cyI jdE) : va_W))) A) args s 0 0 A) (F0 m 22 ls [])) (C0 : cfx p s m args meth c cX10_ordersWon (some .int) wsX10_ordersWon RX10 11 A (dC, dI) (kT cyB cyI cyJ cyP)) : ∀ (H : Heap) (locs : List Loc) (ls : Array Slot) (l1 l2 l3 l4 l5 l6 : Int32), va_P (dC, dI) vwCl (qaH a0 jch jcD ji6 jhx jch cyI jdE) H → va_D A (qaH a0 jch jcD ji6 jhx jch cyI jdE) → va_S A s.heap H locs → lv_has ls 11 [(0, .ref a0), (1, .int l1), (2, .int l2), (3, .int l3), (4, .int l4), (5, .int l5), (6, .int l6)] → qI0 jdE Q K22 l1 l2 l3 l4 l5 l6 → W p l e (headSpec wsX10_ordersWon ({ frames := 1, cells := 0, slots := 0, locals := 32 })).room s m args below meth c H locs 0 0 (MQ below (va_Qi (fun (r : Int32) (_ : Unit) => Q r ) (cB (dC, dI) (kT cyB cyI cyJ cyP) A (fun u : Unit => ((qaH a0 jch jcD ji6 jhx jch cyI jdE) : va_W))) A) args s 0 0 A) (F0 m 113 ls []) := by
  obtain ⟨hx, hb, hr, hts, hown, hlocks, hml, hA, hK, hNw⟩ := id C0
  intro H locs ls l1 l2 l3 l4 l5 l6 hP hD hS hl hw
  obtain ⟨x8, ex8⟩ : ∃ y : Int32, y = l6 + 1 := ⟨_, rfl⟩
  have hw := hw x8 ex8
  refine lv_iinc (v := x8) (lv' := [(6, .int x8), (0, .ref a0), (1, .int l1), (2, .int l2), (3, .int l3), (4, .int l4), (5, .int l5)]) hx hb (qaa qa5 12 rfl) hl (k := 6) rfl (by rw [ex8]; rfl) (by decide) rfl (fun ls hl => ?_)
  refine lv_goto (tgt := 22) hx hb (qaa qa5 13 rfl) (by decide) ?_
  exact hK22 _ _ _ l1 l2 l3 l4 l5 x8 hP hD hS (lv_sub hl [1, 2, 3, 4, 5, 6, 0] rfl) hw
set_option maxHeartbeats 4000000 in
set_option maxRecDepth 100000 in
theorem q0l {p : Program} {l : Launch} {e : Env} {s : State} {m : MethodId} {args : Array Value} {below : List Frame} {meth : Method} {c : Code} {A : Nat → Prop} (dC : Nat → ClassId) (dI : Nat → Nat → Nat) (cyB cyI cyJ cyP : ClassId) (a0 jch : Nat) (jcD ji6 jhx : Value) (jdE : NI) (Q : Int32 → Prop) (C0 : cfx p s m args meth c cX10_ordersWon (some .int) wsX10_ordersWon RX10 11 A (dC, dI) (kT cyB cyI cyJ cyP)) : ∀ (n : Nat) (H : Heap) (locs : List Loc) (ls : Array Slot) (l1 l2 l3 l4 l5 l6 : Int32), va_P (dC, dI) vwCl (qaH a0 jch jcD ji6 jhx jch cyI jdE) H → va_D A (qaH a0 jch jcD ji6 jhx jch cyI jdE) → va_S A s.heap H locs → lv_has ls 11 [(0, .ref a0), (1, .int l1), (2, .int l2), (3, .int l3), (4, .int l4), (5, .int l5), (6, .int l6)] → qll jdE Q n l1 l2 l3 l4 l5 l6 → W p l e (headSpec wsX10_ordersWon ({ frames := 1, cells := 0, slots := 0, locals := 32 })).room s m args below meth c H locs 0 0 (MQ below (va_Qi (fun (r : Int32) (_ : Unit) => Q r ) (cB (dC, dI) (kT cyB cyI cyJ cyP) A (fun u : Unit => ((qaH a0 jch jcD ji6 jhx jch cyI jdE) : va_W))) A) args s 0 0 A) (F0 m 22 ls []) := by
  obtain ⟨hx, hb, hr, hts, hown, hlocks, hml, hA, hK, hNw⟩ := id C0
  intro n
  induction n with
  | zero => intro H locs ls l1 l2 l3 l4 l5 l6 hP hD hS hl hw; exact False.elim hw
  | succ n ih =>
    intro H locs ls l1 l2 l3 l4 l5 l6 hP hD hS hl hw
    refine lv_iload hx hb (qaa qaT 13 rfl) (lv_at hl 6 rfl) ?_
    refine lv_bipush (v := 6) hx hb (qaa qaT 14 rfl) (by decide) ?_
    refine lv_icmp_ge (tgt := 119) hx hb (qaa qaT 15 rfl) (by decide) (fun c3 => ?_) (fun c3 => ?_)
    · have hw := hw.1 c3
      refine lv_iload hx hb (qaa qa5 14 rfl) (lv_at hl 5 rfl) ?_
      exact ((W.iret (v := l5) hx hb hr (fun t ht hW => ⟨⟨l5, (), rfl, hw, by rw [ht]; exact hP, va_K.moved hW.alike hK, hD⟩, hS.F ht⟩) hS.2.2 (qaa qa5 15 rfl)))
    · have hw := hw.2 c3
      refine lv_iload hx hb (qaa qaR 0 rfl) (lv_at hl 4 rfl) ?_
      refine lv_iload hx hb (qaa qaR 1 rfl) (lv_at hl 6 rfl) ?_
      obtain ⟨hCc, hPc, hDc, hFc⟩ := qac (ws' := []) hP hD hS hA [] (by decide +kernel) rfl
      refine va_calli (va_runS (As := [.int l4, .int l6]) (rest := []) ⟨hx, hb, hml, hown, hts⟩ (qnv l dC dI cyB cyI cyJ cyP H.size l4 l6 hw) (va_cwS 2 hts gX10_ordersWon_X10_holds rfl rfl rfl (by decide +kernel) ⟨nbq rfl, nbq rfl⟩) ⟨qab, qae hPc hK hDc hNw⟩ rfl rfl hl.1 rfl (lv_room (nbq rfl)) (qaa qaR 2 rfl) ⟨nbq rfl, nbq rfl⟩) hS (fun q _ h => hFc q h) hFc (fun r4 u t H1 locs ht hvm hw hB hz1 hk1 hS => ?_)
      obtain ⟨hP1, hK1, hD1⟩ := hB
      rw [ht] at hP1
      obtain ⟨hP, hD⟩ := qah (wr := (qaH a0 jch jcD ji6 jhx jch cyI jdE)) (w1 := []) (wn := (qaH a0 jch jcD ji6 jhx jch cyI jdE)) hP hD [] [0, 1] hCc rfl (by decide +kernel) (by decide +kernel) rfl hk1 hFc hP1 hD1
      generalize H1 = H at hP hS ⊢
      refine lv_if_eq (tgt := 113) hx hb (qaa qaR 3 rfl) (by decide) (fun c5 => ?_) (fun c5 => ?_)
      · have hw := hw.1 c5
        exact qWA dC dI cyB cyI cyJ cyP a0 jch jcD ji6 jhx jdE Q (qll jdE Q n) ih C0 _ _ _ l1 l2 l3 l4 l5 l6 hP hD hS (lv_sub hl [0, 1, 2, 3, 4, 5, 6] rfl) hw
      · have hw := hw.2 c5
        refine lv_aload_n hx hb (qaa qaR 4 rfl) rfl (lv_at hl 0 rfl) ?_
        refine lv_iload hx hb (qaa qaR 5 rfl) (lv_at hl 6 rfl) ?_
        obtain ⟨hCc, hPc, hDc, hFc⟩ := qac (ws' := (qaH a0 jch jcD ji6 jhx jch cyI jdE)) hP hD hS hA [0, 1] (by decide +kernel) rfl
        refine va_calli (va_runV (As := [.int l6]) (rest := []) ⟨hx, hb, hml, hown, hts⟩ (qsD l dC dI cyB cyI cyJ cyP a0 jch H.size (jcD) (ji6) (jhx) jdE l6 hw) (cwV 1 hts gX10_ordersWon_X1_strong rfl rfl rfl (by decide +kernel) ⟨nbq rfl, nbq rfl⟩) ⟨qab, va_recv (q := (RX1, TX1, 4)) hK hPc (ci := 1) (q0 := 0) rfl rfl, qae hPc hK hDc hNw⟩ rfl rfl hl.1 rfl (lv_room (nbq rfl)) (qaa qaR 6 rfl) ⟨nbq rfl, nbq rfl⟩) hS (fun q _ h => hFc q h) hFc (fun r6 u t H1 locs ht hvm hw hB hz1 hk1 hS => ?_)
        obtain ⟨hP1, hK1, hD1⟩ := hB
        rw [ht] at hP1
        obtain ⟨hP, hD⟩ := qah (wr := []) (w1 := (qaH a0 jch jcD ji6 jhx jch cyI jdE)) (wn := (qaH a0 jch jcD ji6 jhx jch cyI jdE)) hP hD [0, 1] [] hCc rfl (by decide +kernel) (by decide +kernel) rfl hk1 hFc hP1 hD1
        generalize H1 = H at hP hS ⊢
        refine lv_istore (lv' := [(7, .int r6), (0, .ref a0), (1, .int l1), (2, .int l2), (3, .int l3), (4, .int l4), (5, .int l5), (6, .int l6)]) hx hb (qaa qaR 7 rfl) hl (by decide) rfl (fun ls hl => ?_)
        refine lv_iload_n hx hb (qaa qaR 8 rfl) rfl (lv_at hl 4 rfl) ?_
        refine lv_iload hx hb (qaa qaR 9 rfl) (lv_at hl 0 rfl) ?_
        refine lv_icmp_lt (tgt := 57) hx hb (qaa qaR 10 rfl) (by decide) (fun c7 => ?_) (fun c7 => ?_)
        · have hw := hw.1 c7
          refine lv_iconst (v := 0) hx hb (qaa qaR 13 rfl) (by decide) ?_
          exact qJn dC dI cyB cyI cyJ cyP a0 jch jcD ji6 jhx jdE Q (qll jdE Q n) ih C0 _ _ _ l1 l2 l3 l4 l5 l6 r6 0 hP hD hS (lv_sub hl [1, 2, 3, 4, 5, 6, 7, 0] rfl) hw
        · have hw := hw.2 c7
          refine lv_iconst (v := 1) hx hb (qaa qaR 11 rfl) (by decide) ?_
          refine lv_goto (tgt := 58) hx hb (qaa qaR 12 rfl) (by decide) ?_
          exact qJn dC dI cyB cyI cyJ cyP a0 jch jcD ji6 jhx jdE Q (qll jdE Q n) ih C0 _ _ _ l1 l2 l3 l4 l5 l6 r6 1 hP hD hS (lv_sub hl [1, 2, 3, 4, 5, 6, 7, 0] rfl) hw
set_option maxHeartbeats 4000000 in
set_option maxRecDepth 100000 in
theorem q95 (l : Launch) (dC : Nat → ClassId) (dI : Nat → Nat → Nat) (cyB cyI cyJ cyP : ClassId) (a0 jch sz : Nat) (jcD ji6 jhx : Value) (jdE : NI) (p1 p2 p3 p4 : Int32) {Q : Int32 → Prop} (hw : qzg jdE p1 p2 p3 p4 Q) : Met l yX10_ordersWon wsX10_ordersWon ({ frames := 1, cells := 0, slots := 0, locals := 32 }) (va_Pc [.ref a0, .int p1, .int p2, .int p3, .int p4] (cPc (dC, dI) (kT cyB cyI cyJ cyP) (qaH a0 jch jcD ji6 jhx jch cyI jdE) sz)) (va_Qi (fun (r : Int32) (_ : Unit) => Q r ) (cB (dC, dI) (kT cyB cyI cyJ cyP) (va_A (qaH a0 jch jcD ji6 jhx jch cyI jdE) sz) (fun u : Unit => ((qaH a0 jch jcD ji6 jhx jch cyI jdE) : va_W))) (va_A (qaH a0 jch jcD ji6 jhx jch cyI jdE) sz)) 0 0 (va_A (qaH a0 jch jcD ji6 jhx jch cyI jdE) sz) := by
  refine Met.ofW (cc := cX10_ordersWon) (maxL := 11) (ret := (some .int)) (by decide) rfl ?_
  intro p e s m args below meth c s₁ B hml hv
  obtain ⟨rfl, hsz, hP, hK, hD0, hNw⟩ := hv
  have hx := B.exec
  have hb := B.bytes
  have hr := B.returns
  have hts := atoms_spec (ws := wsX10_ordersWon) B.pre
  have hown : s.vm.findClass RX10 = some m.cls := findClass_of_methodNamed B.named
  have hlocks := B.notSynchronized
  subst hsz
  have hD := hD0.self (sz := s.heap.size)
  generalize hAe : va_A (qaH a0 jch jcD ji6 jhx jch cyI jdE) s.heap.size = A at hD ⊢
  have hA : ∀ q : Nat, s.heap.size ≤ q → A q := fun q h => by rw [← hAe]; exact Or.inr h
  have hS : va_S A s.heap s.heap [] := va_S.rf
  have hP : va_P (dC, dI) vwCl (qaH a0 jch jcD ji6 jhx jch cyI jdE) s.heap := hP
  have hl := lv_entry ([.ref a0, .int p1, .int p2, .int p3, .int p4]) (n := 11) (nbq rfl)
  rw [lg_entry_eq]
  generalize (lg_sl ([.ref a0, .int p1, .int p2, .int p3, .int p4]) ++ List.replicate (11 - (lg_sl ([.ref a0, .int p1, .int p2, .int p3, .int p4])).length) Slot.unset).toArray = ls at hl ⊢
  have hl : lv_has ls 11 [(0, .ref a0), (1, .int p1), (2, .int p2), (3, .int p3), (4, .int p4)] := hl
  have C0 : cfx p s m _ meth c cX10_ordersWon (some .int) wsX10_ordersWon RX10 11 A (dC, dI) (kT cyB cyI cyJ cyP) := ⟨hx, hb, hr, hts, hown, hlocks, hml, hA, hK, hNw⟩
  clear hAe
  obtain ⟨H, hH⟩ : ∃ H, H = s.heap := ⟨_, rfl⟩
  rw [← hH] at hP ⊢
  have hS : va_S A s.heap H [] := by rw [hH]; exact va_S.rf
  have hS := hS
  refine lv_iload hx hb (qaa qaT 0 rfl) (lv_at hl 4 rfl) ?_
  refine lv_if_ne (tgt := 16) hx hb (qaa qaT 1 rfl) (by decide) (fun c1 => ?_) (fun c1 => ?_)
  · have hw := hw.1 c1
    refine lv_iconst (v := 0) hx hb (qaa qaT 9 rfl) (by decide) ?_
    refine lv_istore (lv' := [(5, .int 0), (0, .ref a0), (1, .int p1), (2, .int p2), (3, .int p3), (4, .int p4)]) hx hb (qaa qaT 10 rfl) hl (by decide) rfl (fun ls hl => ?_)
    refine lv_iconst (v := 0) hx hb (qaa qaT 11 rfl) (by decide) ?_
    refine lv_istore (lv' := [(6, .int 0), (5, .int 0), (0, .ref a0), (1, .int p1), (2, .int p2), (3, .int p3), (4, .int p4)]) hx hb (qaa qaT 12 rfl) hl (by decide) rfl (fun ls hl => ?_)
    obtain ⟨n9, hw⟩ := hw
    exact q0l dC dI cyB cyI cyJ cyP a0 jch jcD ji6 jhx jdE Q C0 n9 _ _ _ p1 p2 p3 p4 0 0 hP hD hS (lv_sub hl [2, 3, 4, 5, 6, 1, 0] rfl) hw
  · have hw := hw.2 c1
    refine lv_iload_n hx hb (qaa qaT 2 rfl) rfl (lv_at hl 2 rfl) ?_
    refine lv_iload_n hx hb (qaa qaT 3 rfl) rfl (lv_at hl 1 rfl) ?_
    refine lv_icmp_ne (tgt := 14) hx hb (qaa qaT 4 rfl) (by decide) (fun c2 => ?_) (fun c2 => ?_)
    · have hw := hw.1 c2
      refine lv_iconst (v := 0) hx hb (qaa qaT 7 rfl) (by decide) ?_
      exact ((W.iret (v := 0) hx hb hr (fun t ht hW => ⟨⟨0, (), rfl, hw, by rw [ht]; exact hP, va_K.moved hW.alike hK, hD⟩, hS.F ht⟩) hS.2.2 (qaa qaT 8 rfl)))
    · have hw := hw.2 c2
      refine lv_iconst (v := 1) hx hb (qaa qaT 5 rfl) (by decide) ?_
      refine lv_goto (tgt := 15) hx hb (qaa qaT 6 rfl) (by decide) ?_
      exact ((W.iret (v := 1) hx hb hr (fun t ht hW => ⟨⟨1, (), rfl, hw, by rw [ht]; exact hP, va_K.moved hW.alike hK, hD⟩, hS.F ht⟩) hS.2.2 (qaa qaT 8 rfl)))
theorem qWd : (.initialized "java/lang/Math" : Cond) ∈ wsX10_ordersWon := qk0 651 (by decide +kernel)
theorem qVl : (.methodLink RX10 389 Lib.Math.max.name : Cond) ∈ wsX10_ordersWon := qk0 3404 (by decide +kernel)
theorem qTa : (.code Lib.Math.max.name Lib.Math.max.code 2 (some .int) : Cond) ∈ wsX10_ordersWon := qk0 1931 (by decide +kernel)
theorem qUv : (.static Lib.Math.max.name : Cond) ∈ wsX10_ordersWon := qk0 1930 (by decide +kernel)
set_option maxHeartbeats 4000000 in
set_option maxRecDepth 100000 in
theorem qJp (RS : NI → Int32 → Int32 → Int32 → Int32 → (Int32 → Prop) → Prop) (fr lo : Nat) (hRw : ∀ (l : Launch) (dC : Nat → ClassId) (dI : Nat → Nat → Nat) (cyB cyI cyJ cyP : ClassId) (a0 jch sz : Nat) (jcD ji6 jhx : Value) (jdE : NI) (p1 p2 p3 p4 : Int32) {Q : Int32 → Prop} (hw : RS jdE p1 p2 p3 p4 Q), Met l yX10_ordersWon wsX10_ordersWon ({ frames := fr, cells := 0, slots := 0, locals := lo }) (va_Pc [.ref a0, .int p1, .int p2, .int p3, .int p4] (cPc (dC, dI) (kT cyB cyI cyJ cyP) (qaH a0 jch jcD ji6 jhx jch cyI jdE) sz)) (va_Qi (fun (r : Int32) (_ : Unit) => Q r ) (cB (dC, dI) (kT cyB cyI cyJ cyP) (va_A (qaH a0 jch jcD ji6 jhx jch cyI jdE) sz) (fun u : Unit => ((qaH a0 jch jcD ji6 jhx jch cyI jdE) : va_W))) (va_A (qaH a0 jch jcD ji6 jhx jch cyI jdE) sz)) 0 0 (va_A (qaH a0 jch jcD ji6 jhx jch cyI jdE) sz)) {p : Program} {l : Launch} {e : Env} {s : State} {m : MethodId} {args : Array Value} {below : List Frame} {meth : Method} {c : Code} {A : Nat → Prop} (dC : Nat → ClassId) (dI : Nat → Nat → Nat) (cyB cyI cyJ cyP : ClassId) (a0 jch : Nat) (jcD ji6 jhx : Value) (jdE : NI) (Q : Int32 → Prop) (K22 : Int32 → Int32 → Int32 → Int32 → Int32 → Int32 → Prop) (hK22 : ∀ (H : Heap) (locs : List Loc) (ls : Array Slot) (l1 l2 l3 l4 l5 l6 : Int32), va_P (dC, dI) vwCl (qaH a0 jch jcD ji6 jhx jch cyI jdE) H → va_D A (qaH a0 jch jcD ji6 jhx jch cyI jdE) → va_S A s.heap H locs → lv_has ls 11 [(0, .ref a0), (1, .int l1), (2, .int l2), (3, .int l3), (4, .int l4), (5, .int l5), (6, .int l6)] → K22 l1 l2 l3 l4 l5 l6 → W p l e (headSpec wsX10_ordersWon ({ frames := fr + 1, cells := 0, slots := 0, locals := lo + 30 })).room s m args below meth c H locs 0 0 (MQ below (va_Qi (fun (r : Int32) (_ : Unit) => Q r ) (cB (dC, dI) (kT cyB cyI cyJ cyP) A (fun u : Unit => ((qaH a0 jch jcD ji6 jhx jch cyI jdE) : va_W))) A) args s 0 0 A) (F0 m 22 ls [])) (C0 : cfx p s m args meth c cX10_ordersWon (some .int) wsX10_ordersWon RX10 11 A (dC, dI) (kT cyB cyI cyJ cyP)) : ∀ (H : Heap) (locs : List Loc) (ls : Array Slot) (l1 l2 l3 l4 l5 l6 : Int32), va_P (dC, dI) vwCl (qaH a0 jch jcD ji6 jhx jch cyI jdE) H → va_D A (qaH a0 jch jcD ji6 jhx jch cyI jdE) → va_S A s.heap H locs → lv_has ls 11 [(0, .ref a0), (1, .int l1), (2, .int l2), (3, .int l3), (4, .int l4), (5, .int l5), (6, .int l6)] → qAM RS jdE Q K22 l1 l2 l3 l4 l5 l6 → W p l e (headSpec wsX10_ordersWon ({ frames := fr + 1, cells := 0, slots := 0, locals := lo + 30 })).room s m args below meth c H locs 0 0 (MQ below (va_Qi (fun (r : Int32) (_ : Unit) => Q r ) (cB (dC, dI) (kT cyB cyI cyJ cyP) A (fun u : Unit => ((qaH a0 jch jcD ji6 jhx jch cyI jdE) : va_W))) A) args s 0 0 A) (F0 m 113 ls []) := by
  obtain ⟨hx, hb, hr, hts, hown, hlocks, hml, hA, hK, hNw⟩ := id C0
  intro H locs ls l1 l2 l3 l4 l5 l6 hP hD hS hl hw
  obtain ⟨x8, ex8⟩ : ∃ y : Int32, y = l6 + 1 := ⟨_, rfl⟩
  have hw := hw x8 ex8
  refine lv_iinc (v := x8) (lv' := [(6, .int x8), (0, .ref a0), (1, .int l1), (2, .int l2), (3, .int l3), (4, .int l4), (5, .int l5)]) hx hb (qaa qa5 12 rfl) hl (k := 6) rfl (by rw [ex8]; rfl) (by decide) rfl (fun ls hl => ?_)
  refine lv_goto (tgt := 22) hx hb (qaa qa5 13 rfl) (by decide) ?_
  exact hK22 _ _ _ l1 l2 l3 l4 l5 x8 hP hD hS (lv_sub hl [1, 2, 3, 4, 5, 6, 0] rfl) hw
set_option maxHeartbeats 4000000 in
set_option maxRecDepth 100000 in
theorem qLi (RS : NI → Int32 → Int32 → Int32 → Int32 → (Int32 → Prop) → Prop) (fr lo : Nat) (hRw : ∀ (l : Launch) (dC : Nat → ClassId) (dI : Nat → Nat → Nat) (cyB cyI cyJ cyP : ClassId) (a0 jch sz : Nat) (jcD ji6 jhx : Value) (jdE : NI) (p1 p2 p3 p4 : Int32) {Q : Int32 → Prop} (hw : RS jdE p1 p2 p3 p4 Q), Met l yX10_ordersWon wsX10_ordersWon ({ frames := fr, cells := 0, slots := 0, locals := lo }) (va_Pc [.ref a0, .int p1, .int p2, .int p3, .int p4] (cPc (dC, dI) (kT cyB cyI cyJ cyP) (qaH a0 jch jcD ji6 jhx jch cyI jdE) sz)) (va_Qi (fun (r : Int32) (_ : Unit) => Q r ) (cB (dC, dI) (kT cyB cyI cyJ cyP) (va_A (qaH a0 jch jcD ji6 jhx jch cyI jdE) sz) (fun u : Unit => ((qaH a0 jch jcD ji6 jhx jch cyI jdE) : va_W))) (va_A (qaH a0 jch jcD ji6 jhx jch cyI jdE) sz)) 0 0 (va_A (qaH a0 jch jcD ji6 jhx jch cyI jdE) sz)) {p : Program} {l : Launch} {e : Env} {s : State} {m : MethodId} {args : Array Value} {below : List Frame} {meth : Method} {c : Code} {A : Nat → Prop} (dC : Nat → ClassId) (dI : Nat → Nat → Nat) (cyB cyI cyJ cyP : ClassId) (a0 jch : Nat) (jcD ji6 jhx : Value) (jdE : NI) (Q : Int32 → Prop) (K22 : Int32 → Int32 → Int32 → Int32 → Int32 → Int32 → Prop) (hK22 : ∀ (H : Heap) (locs : List Loc) (ls : Array Slot) (l1 l2 l3 l4 l5 l6 : Int32), va_P (dC, dI) vwCl (qaH a0 jch jcD ji6 jhx jch cyI jdE) H → va_D A (qaH a0 jch jcD ji6 jhx jch cyI jdE) → va_S A s.heap H locs → lv_has ls 11 [(0, .ref a0), (1, .int l1), (2, .int l2), (3, .int l3), (4, .int l4), (5, .int l5), (6, .int l6)] → K22 l1 l2 l3 l4 l5 l6 → W p l e (headSpec wsX10_ordersWon ({ frames := fr + 1, cells := 0, slots := 0, locals := lo + 30 })).room s m args below meth c H locs 0 0 (MQ below (va_Qi (fun (r : Int32) (_ : Unit) => Q r ) (cB (dC, dI) (kT cyB cyI cyJ cyP) A (fun u : Unit => ((qaH a0 jch jcD ji6 jhx jch cyI jdE) : va_W))) A) args s 0 0 A) (F0 m 22 ls [])) (C0 : cfx p s m args meth c cX10_ordersWon (some .int) wsX10_ordersWon RX10 11 A (dC, dI) (kT cyB cyI cyJ cyP)) : ∀ (H : Heap) (locs : List Loc) (ls : Array Slot) (l1 l2 l3 l4 l5 l6 l9 s0 s1 : Int32), va_P (dC, dI) vwCl (qaH a0 jch jcD ji6 jhx jch cyI jdE) H → va_D A (qaH a0 jch jcD ji6 jhx jch cyI jdE) → va_S A s.heap H locs → lv_has ls 11 [(0, .ref a0), (1, .int l1), (2, .int l2), (3, .int l3), (4, .int l4), (5, .int l5), (6, .int l6), (9, .int l9)] → qCd RS jdE Q K22 l1 l2 l3 l4 l5 l6 l9 s0 s1 → W p l e (headSpec wsX10_ordersWon ({ frames := fr + 1, cells := 0, slots := 0, locals := lo + 30 })).room s m args below meth c H locs 0 0 (MQ below (va_Qi (fun (r : Int32) (_ : Unit) => Q r ) (cB (dC, dI) (kT cyB cyI cyJ cyP) A (fun u : Unit => ((qaH a0 jch jcD ji6 jhx jch cyI jdE) : va_W))) A) args s 0 0 A) (F0 m 85 ls [.int s1, .int s0]) := by
  obtain ⟨hx, hb, hr, hts, hown, hlocks, hml, hA, hK, hNw⟩ := id C0
  intro H locs ls l1 l2 l3 l4 l5 l6 l9 s0 s1 hP hD hS hl hw
  refine lv_iconst (v := 1) hx hb (qaa qaP 11 rfl) (by decide) ?_
  refine lv_isub hx hb (qaa qaP 12 rfl) ?_
  refine va_mmax hx hb (by rw [hml]; exact hl.1.symm) hown (hts _ qVl) (hts _ qUv) (hts _ qWd) (hts _ qTa) ((by first | exact nbq rfl | (simp only [headSpec]; omega) | omega)) ((by first | exact nbq rfl | (simp only [headSpec]; omega) | omega)) ((by first | exact nbq rfl | (simp only [headSpec]; omega) | omega)) ((by first | exact nbq rfl | (simp only [headSpec]; omega) | omega)) (qaa qaP 13 rfl) ?_
  refine lv_topi (fun x11 ex11 => ?_)
  have hw := hw x11 ex11
  refine lv_istore (lv' := [(10, .int x11), (0, .ref a0), (1, .int l1), (2, .int l2), (3, .int l3), (4, .int l4), (5, .int l5), (6, .int l6), (9, .int l9)]) hx hb (qaa qaP 14 rfl) hl (by decide) rfl (fun ls hl => ?_)
  refine lv_iload hx hb (qaa qaP 15 rfl) (lv_at hl 6 rfl) ?_
  refine lv_aload_n hx hb (qaa qa5 0 rfl) rfl (lv_at hl 1 rfl) ?_
  refine lv_iload_n hx hb (qaa qa5 1 rfl) rfl (lv_at hl 2 rfl) ?_
  refine lv_iload hx hb (qaa qa5 2 rfl) (lv_at hl 8 rfl) ?_
  refine lv_iload hx hb (qaa qa5 3 rfl) (lv_at hl 0 rfl) ?_
  refine lv_iload hx hb (qaa qa5 4 rfl) (lv_at hl 5 rfl) ?_
  refine lv_iconst (v := 1) hx hb (qaa qa5 5 rfl) (by decide) ?_
  refine lv_iload hx hb (qaa qa5 6 rfl) (lv_at hl 7 rfl) ?_
  refine lv_ishl hx hb (qaa qa5 7 rfl) ?_
  refine lv_ixor hx hb (qaa qa5 8 rfl) ?_
  obtain ⟨hCc, hPc, hDc, hFc⟩ := qac (ws' := (qaH a0 jch jcD ji6 jhx jch cyI jdE)) hP hD hS hA [0, 1] (by decide +kernel) rfl
  refine va_calli (va_runS (As := [.ref a0, .int l1, .int l9, .int x11, .int (l4 ^^^ (1 <<< (l6 &&& 31)))]) (rest := [.int l5]) ⟨hx, hb, hml, hown, hts⟩ (hRw l dC dI cyB cyI cyJ cyP a0 jch H.size (jcD) (ji6) (jhx) jdE l1 l9 x11 (l4 ^^^ (1 <<< (l6 &&& 31))) hw) (va_cwS 5 hts gX10_ordersWon_X10_ordersWon rfl rfl rfl (by decide +kernel) ⟨(by first | exact nbq rfl | (simp only [headSpec]; omega) | omega), (by first | exact nbq rfl | (simp only [headSpec]; omega) | omega)⟩) ⟨qab, qae hPc hK hDc hNw⟩ rfl rfl hl.1 rfl (lv_room (nbq rfl)) (qaa qa5 9 rfl) ⟨(by first | exact nbq rfl | (simp only [headSpec]; omega) | omega), (by first | exact nbq rfl | (simp only [headSpec]; omega) | omega)⟩) hS (fun q _ h => hFc q h) hFc (fun r12 u t H1 locs ht hvm hw hB hz1 hk1 hS => ?_)
  obtain ⟨hP1, hK1, hD1⟩ := hB
  rw [ht] at hP1
  obtain ⟨hP, hD⟩ := qah (wr := []) (w1 := (qaH a0 jch jcD ji6 jhx jch cyI jdE)) (wn := (qaH a0 jch jcD ji6 jhx jch cyI jdE)) hP hD [0, 1] [] hCc rfl (by decide +kernel) (by decide +kernel) rfl hk1 hFc hP1 hD1
  generalize H1 = H at hP hS ⊢
  refine lv_iadd hx hb (qaa qa5 10 rfl) ?_
  refine lv_topi (fun x13 ex13 => ?_)
  have hw := hw x13 ex13
  refine lv_istore (lv' := [(5, .int x13), (10, .int x11), (0, .ref a0), (1, .int l1), (2, .int l2), (3, .int l3), (4, .int l4), (6, .int l6), (9, .int l9)]) hx hb (qaa qa5 11 rfl) hl (by decide) rfl (fun ls hl => ?_)
  exact qJp RS fr lo hRw dC dI cyB cyI cyJ cyP a0 jch jcD ji6 jhx jdE Q K22 hK22 C0 _ _ _ l1 l2 l3 l4 x13 l6 hP hD hS (lv_sub hl [2, 3, 4, 5, 6, 0, 7] rfl) hw
set_option maxHeartbeats 4000000 in
set_option maxRecDepth 100000 in
theorem qLN (RS : NI → Int32 → Int32 → Int32 → Int32 → (Int32 → Prop) → Prop) (fr lo : Nat) (hRw : ∀ (l : Launch) (dC : Nat → ClassId) (dI : Nat → Nat → Nat) (cyB cyI cyJ cyP : ClassId) (a0 jch sz : Nat) (jcD ji6 jhx : Value) (jdE : NI) (p1 p2 p3 p4 : Int32) {Q : Int32 → Prop} (hw : RS jdE p1 p2 p3 p4 Q), Met l yX10_ordersWon wsX10_ordersWon ({ frames := fr, cells := 0, slots := 0, locals := lo }) (va_Pc [.ref a0, .int p1, .int p2, .int p3, .int p4] (cPc (dC, dI) (kT cyB cyI cyJ cyP) (qaH a0 jch jcD ji6 jhx jch cyI jdE) sz)) (va_Qi (fun (r : Int32) (_ : Unit) => Q r ) (cB (dC, dI) (kT cyB cyI cyJ cyP) (va_A (qaH a0 jch jcD ji6 jhx jch cyI jdE) sz) (fun u : Unit => ((qaH a0 jch jcD ji6 jhx jch cyI jdE) : va_W))) (va_A (qaH a0 jch jcD ji6 jhx jch cyI jdE) sz)) 0 0 (va_A (qaH a0 jch jcD ji6 jhx jch cyI jdE) sz)) {p : Program} {l : Launch} {e : Env} {s : State} {m : MethodId} {args : Array Value} {below : List Frame} {meth : Method} {c : Code} {A : Nat → Prop} (dC : Nat → ClassId) (dI : Nat → Nat → Nat) (cyB cyI cyJ cyP : ClassId) (a0 jch : Nat) (jcD ji6 jhx : Value) (jdE : NI) (Q : Int32 → Prop) (K22 : Int32 → Int32 → Int32 → Int32 → Int32 → Int32 → Prop) (hK22 : ∀ (H : Heap) (locs : List Loc) (ls : Array Slot) (l1 l2 l3 l4 l5 l6 : Int32), va_P (dC, dI) vwCl (qaH a0 jch jcD ji6 jhx jch cyI jdE) H → va_D A (qaH a0 jch jcD ji6 jhx jch cyI jdE) → va_S A s.heap H locs → lv_has ls 11 [(0, .ref a0), (1, .int l1), (2, .int l2), (3, .int l3), (4, .int l4), (5, .int l5), (6, .int l6)] → K22 l1 l2 l3 l4 l5 l6 → W p l e (headSpec wsX10_ordersWon ({ frames := fr + 1, cells := 0, slots := 0, locals := lo + 30 })).room s m args below meth c H locs 0 0 (MQ below (va_Qi (fun (r : Int32) (_ : Unit) => Q r ) (cB (dC, dI) (kT cyB cyI cyJ cyP) A (fun u : Unit => ((qaH a0 jch jcD ji6 jhx jch cyI jdE) : va_W))) A) args s 0 0 A) (F0 m 22 ls [])) (C0 : cfx p s m args meth c cX10_ordersWon (some .int) wsX10_ordersWon RX10 11 A (dC, dI) (kT cyB cyI cyJ cyP)) : ∀ (H : Heap) (locs : List Loc) (ls : Array Slot) (l1 l2 l3 l4 l5 l6 l7 l8 s0 : Int32), va_P (dC, dI) vwCl (qaH a0 jch jcD ji6 jhx jch cyI jdE) H → va_D A (qaH a0 jch jcD ji6 jhx jch cyI jdE) → va_S A s.heap H locs → lv_has ls 11 [(0, .ref a0), (1, .int l1), (2, .int l2), (3, .int l3), (4, .int l4), (5, .int l5), (6, .int l6), (7, .int l7), (8, .int l8)] → qCm RS jdE Q K22 l1 l2 l3 l4 l5 l6 l7 l8 s0 → W p l e (headSpec wsX10_ordersWon ({ frames := fr + 1, cells := 0, slots := 0, locals := lo + 30 })).room s m args below meth c H locs 0 0 (MQ below (va_Qi (fun (r : Int32) (_ : Unit) => Q r ) (cB (dC, dI) (kT cyB cyI cyJ cyP) A (fun u : Unit => ((qaH a0 jch jcD ji6 jhx jch cyI jdE) : va_W))) A) args s 0 0 A) (F0 m 71 ls [.int s0]) := by
  obtain ⟨hx, hb, hr, hts, hown, hlocks, hml, hA, hK, hNw⟩ := id C0
  intro H locs ls l1 l2 l3 l4 l5 l6 l7 l8 s0 hP hD hS hl hw
  refine lv_istore (lv' := [(9, .int s0), (0, .ref a0), (1, .int l1), (2, .int l2), (3, .int l3), (4, .int l4), (5, .int l5), (6, .int l6), (7, .int l7), (8, .int l8)]) hx hb (qaa qaP 4 rfl) hl (by decide) rfl (fun ls hl => ?_)
  refine lv_iconst (v := 0) hx hb (qaa qaP 5 rfl) (by decide) ?_
  refine lv_iload hx hb (qaa qaP 6 rfl) (lv_at hl 9 rfl) ?_
  refine lv_if_eq (tgt := 83) hx hb (qaa qaP 7 rfl) (by decide) (fun c10 => ?_) (fun c10 => ?_)
  · have hw := hw.1 c10
    refine lv_iload hx hb (qaa qaP 10 rfl) (lv_at hl 8 rfl) ?_
    exact qLi RS fr lo hRw dC dI cyB cyI cyJ cyP a0 jch jcD ji6 jhx jdE Q K22 hK22 C0 _ _ _ l1 l2 l3 l4 l5 l6 s0 0 l7 hP hD hS (lv_sub hl [1, 2, 3, 4, 5, 6, 7, 0] rfl) hw
  · have hw := hw.2 c10
    refine lv_iload_n hx hb (qaa qaP 8 rfl) rfl (lv_at hl 4 rfl) ?_
    refine lv_goto (tgt := 85) hx hb (qaa qaP 9 rfl) (by decide) ?_
    exact qLi RS fr lo hRw dC dI cyB cyI cyJ cyP a0 jch jcD ji6 jhx jdE Q K22 hK22 C0 _ _ _ l1 l2 l3 l4 l5 l6 s0 0 l3 hP hD hS (lv_sub hl [1, 2, 3, 4, 5, 6, 7, 0] rfl) hw
set_option maxHeartbeats 4000000 in
set_option maxRecDepth 100000 in
theorem qLP (RS : NI → Int32 → Int32 → Int32 → Int32 → (Int32 → Prop) → Prop) (fr lo : Nat) (hRw : ∀ (l : Launch) (dC : Nat → ClassId) (dI : Nat → Nat → Nat) (cyB cyI cyJ cyP : ClassId) (a0 jch sz : Nat) (jcD ji6 jhx : Value) (jdE : NI) (p1 p2 p3 p4 : Int32) {Q : Int32 → Prop} (hw : RS jdE p1 p2 p3 p4 Q), Met l yX10_ordersWon wsX10_ordersWon ({ frames := fr, cells := 0, slots := 0, locals := lo }) (va_Pc [.ref a0, .int p1, .int p2, .int p3, .int p4] (cPc (dC, dI) (kT cyB cyI cyJ cyP) (qaH a0 jch jcD ji6 jhx jch cyI jdE) sz)) (va_Qi (fun (r : Int32) (_ : Unit) => Q r ) (cB (dC, dI) (kT cyB cyI cyJ cyP) (va_A (qaH a0 jch jcD ji6 jhx jch cyI jdE) sz) (fun u : Unit => ((qaH a0 jch jcD ji6 jhx jch cyI jdE) : va_W))) (va_A (qaH a0 jch jcD ji6 jhx jch cyI jdE) sz)) 0 0 (va_A (qaH a0 jch jcD ji6 jhx jch cyI jdE) sz)) {p : Program} {l : Launch} {e : Env} {s : State} {m : MethodId} {args : Array Value} {below : List Frame} {meth : Method} {c : Code} {A : Nat → Prop} (dC : Nat → ClassId) (dI : Nat → Nat → Nat) (cyB cyI cyJ cyP : ClassId) (a0 jch : Nat) (jcD ji6 jhx : Value) (jdE : NI) (Q : Int32 → Prop) (K22 : Int32 → Int32 → Int32 → Int32 → Int32 → Int32 → Prop) (hK22 : ∀ (H : Heap) (locs : List Loc) (ls : Array Slot) (l1 l2 l3 l4 l5 l6 : Int32), va_P (dC, dI) vwCl (qaH a0 jch jcD ji6 jhx jch cyI jdE) H → va_D A (qaH a0 jch jcD ji6 jhx jch cyI jdE) → va_S A s.heap H locs → lv_has ls 11 [(0, .ref a0), (1, .int l1), (2, .int l2), (3, .int l3), (4, .int l4), (5, .int l5), (6, .int l6)] → K22 l1 l2 l3 l4 l5 l6 → W p l e (headSpec wsX10_ordersWon ({ frames := fr + 1, cells := 0, slots := 0, locals := lo + 30 })).room s m args below meth c H locs 0 0 (MQ below (va_Qi (fun (r : Int32) (_ : Unit) => Q r ) (cB (dC, dI) (kT cyB cyI cyJ cyP) A (fun u : Unit => ((qaH a0 jch jcD ji6 jhx jch cyI jdE) : va_W))) A) args s 0 0 A) (F0 m 22 ls [])) (C0 : cfx p s m args meth c cX10_ordersWon (some .int) wsX10_ordersWon RX10 11 A (dC, dI) (kT cyB cyI cyJ cyP)) : ∀ (H : Heap) (locs : List Loc) (ls : Array Slot) (l1 l2 l3 l4 l5 l6 l7 s0 : Int32), va_P (dC, dI) vwCl (qaH a0 jch jcD ji6 jhx jch cyI jdE) H → va_D A (qaH a0 jch jcD ji6 jhx jch cyI jdE) → va_S A s.heap H locs → lv_has ls 11 [(0, .ref a0), (1, .int l1), (2, .int l2), (3, .int l3), (4, .int l4), (5, .int l5), (6, .int l6), (7, .int l7)] → qCq RS jdE Q K22 l1 l2 l3 l4 l5 l6 l7 s0 → W p l e (headSpec wsX10_ordersWon ({ frames := fr + 1, cells := 0, slots := 0, locals := lo + 30 })).room s m args below meth c H locs 0 0 (MQ below (va_Qi (fun (r : Int32) (_ : Unit) => Q r ) (cB (dC, dI) (kT cyB cyI cyJ cyP) A (fun u : Unit => ((qaH a0 jch jcD ji6 jhx jch cyI jdE) : va_W))) A) args s 0 0 A) (F0 m 58 ls [.int s0]) := by
  obtain ⟨hx, hb, hr, hts, hown, hlocks, hml, hA, hK, hNw⟩ := id C0
  intro H locs ls l1 l2 l3 l4 l5 l6 l7 s0 hP hD hS hl hw
  refine lv_istore (lv' := [(8, .int s0), (0, .ref a0), (1, .int l1), (2, .int l2), (3, .int l3), (4, .int l4), (5, .int l5), (6, .int l6), (7, .int l7)]) hx hb (qaa qaR 14 rfl) hl (by decide) rfl (fun ls hl => ?_)
  refine lv_iload hx hb (qaa qaR 15 rfl) (lv_at hl 0 rfl) ?_
  refine lv_if_eq (tgt := 69) hx hb (qaa qaP 0 rfl) (by decide) (fun c9 => ?_) (fun c9 => ?_)
  · have hw := hw.1 c9
    refine lv_iload hx hb (qaa qaP 3 rfl) (lv_at hl 7 rfl) ?_
    exact qLN RS fr lo hRw dC dI cyB cyI cyJ cyP a0 jch jcD ji6 jhx jdE Q K22 hK22 C0 _ _ _ l1 l2 l3 l4 l5 l6 l7 s0 l6 hP hD hS (lv_sub hl [1, 2, 3, 4, 5, 6, 7, 8, 0] rfl) hw
  · have hw := hw.2 c9
    refine lv_iload_n hx hb (qaa qaP 1 rfl) rfl (lv_at hl 3 rfl) ?_
    refine lv_goto (tgt := 71) hx hb (qaa qaP 2 rfl) (by decide) ?_
    exact qLN RS fr lo hRw dC dI cyB cyI cyJ cyP a0 jch jcD ji6 jhx jdE Q K22 hK22 C0 _ _ _ l1 l2 l3 l4 l5 l6 l7 s0 l2 hP hD hS (lv_sub hl [1, 2, 3, 4, 5, 6, 7, 8, 0] rfl) hw
set_option maxHeartbeats 4000000 in
set_option maxRecDepth 100000 in
theorem q1K (RS : NI → Int32 → Int32 → Int32 → Int32 → (Int32 → Prop) → Prop) (fr lo : Nat) (hRw : ∀ (l : Launch) (dC : Nat → ClassId) (dI : Nat → Nat → Nat) (cyB cyI cyJ cyP : ClassId) (a0 jch sz : Nat) (jcD ji6 jhx : Value) (jdE : NI) (p1 p2 p3 p4 : Int32) {Q : Int32 → Prop} (hw : RS jdE p1 p2 p3 p4 Q), Met l yX10_ordersWon wsX10_ordersWon ({ frames := fr, cells := 0, slots := 0, locals := lo }) (va_Pc [.ref a0, .int p1, .int p2, .int p3, .int p4] (cPc (dC, dI) (kT cyB cyI cyJ cyP) (qaH a0 jch jcD ji6 jhx jch cyI jdE) sz)) (va_Qi (fun (r : Int32) (_ : Unit) => Q r ) (cB (dC, dI) (kT cyB cyI cyJ cyP) (va_A (qaH a0 jch jcD ji6 jhx jch cyI jdE) sz) (fun u : Unit => ((qaH a0 jch jcD ji6 jhx jch cyI jdE) : va_W))) (va_A (qaH a0 jch jcD ji6 jhx jch cyI jdE) sz)) 0 0 (va_A (qaH a0 jch jcD ji6 jhx jch cyI jdE) sz)) {p : Program} {l : Launch} {e : Env} {s : State} {m : MethodId} {args : Array Value} {below : List Frame} {meth : Method} {c : Code} {A : Nat → Prop} (dC : Nat → ClassId) (dI : Nat → Nat → Nat) (cyB cyI cyJ cyP : ClassId) (a0 jch : Nat) (jcD ji6 jhx : Value) (jdE : NI) (Q : Int32 → Prop) (C0 : cfx p s m args meth c cX10_ordersWon (some .int) wsX10_ordersWon RX10 11 A (dC, dI) (kT cyB cyI cyJ cyP)) : ∀ (n : Nat) (H : Heap) (locs : List Loc) (ls : Array Slot) (l1 l2 l3 l4 l5 l6 : Int32), va_P (dC, dI) vwCl (qaH a0 jch jcD ji6 jhx jch cyI jdE) H → va_D A (qaH a0 jch jcD ji6 jhx jch cyI jdE) → va_S A s.heap H locs → lv_has ls 11 [(0, .ref a0), (1, .int l1), (2, .int l2), (3, .int l3), (4, .int l4), (5, .int l5), (6, .int l6)] → qkZ RS jdE Q n l1 l2 l3 l4 l5 l6 → W p l e (headSpec wsX10_ordersWon ({ frames := fr + 1, cells := 0, slots := 0, locals := lo + 30 })).room s m args below meth c H locs 0 0 (MQ below (va_Qi (fun (r : Int32) (_ : Unit) => Q r ) (cB (dC, dI) (kT cyB cyI cyJ cyP) A (fun u : Unit => ((qaH a0 jch jcD ji6 jhx jch cyI jdE) : va_W))) A) args s 0 0 A) (F0 m 22 ls []) := by
  obtain ⟨hx, hb, hr, hts, hown, hlocks, hml, hA, hK, hNw⟩ := id C0
  intro n
  induction n with
  | zero => intro H locs ls l1 l2 l3 l4 l5 l6 hP hD hS hl hw; exact False.elim hw
  | succ n ih =>
    intro H locs ls l1 l2 l3 l4 l5 l6 hP hD hS hl hw
    refine lv_iload hx hb (qaa qaT 13 rfl) (lv_at hl 6 rfl) ?_
    refine lv_bipush (v := 6) hx hb (qaa qaT 14 rfl) (by decide) ?_
    refine lv_icmp_ge (tgt := 119) hx hb (qaa qaT 15 rfl) (by decide) (fun c3 => ?_) (fun c3 => ?_)
    · have hw := hw.1 c3
      refine lv_iload hx hb (qaa qa5 14 rfl) (lv_at hl 5 rfl) ?_
      exact ((W.iret (v := l5) hx hb hr (fun t ht hW => ⟨⟨l5, (), rfl, hw, by rw [ht]; exact hP, va_K.moved hW.alike hK, hD⟩, hS.F ht⟩) hS.2.2 (qaa qa5 15 rfl)))
    · have hw := hw.2 c3
      refine lv_iload hx hb (qaa qaR 0 rfl) (lv_at hl 4 rfl) ?_
      refine lv_iload hx hb (qaa qaR 1 rfl) (lv_at hl 6 rfl) ?_
      obtain ⟨hCc, hPc, hDc, hFc⟩ := qac (ws' := []) hP hD hS hA [] (by decide +kernel) rfl
      refine va_calli (va_runS (As := [.int l4, .int l6]) (rest := []) ⟨hx, hb, hml, hown, hts⟩ (qnv l dC dI cyB cyI cyJ cyP H.size l4 l6 hw) (va_cwS 2 hts gX10_ordersWon_X10_holds rfl rfl rfl (by decide +kernel) ⟨(by first | exact nbq rfl | (simp only [headSpec]; omega) | omega), (by first | exact nbq rfl | (simp only [headSpec]; omega) | omega)⟩) ⟨qab, qae hPc hK hDc hNw⟩ rfl rfl hl.1 rfl (lv_room (nbq rfl)) (qaa qaR 2 rfl) ⟨(by first | exact nbq rfl | (simp only [headSpec]; omega) | omega), (by first | exact nbq rfl | (simp only [headSpec]; omega) | omega)⟩) hS (fun q _ h => hFc q h) hFc (fun r4 u t H1 locs ht hvm hw hB hz1 hk1 hS => ?_)
      obtain ⟨hP1, hK1, hD1⟩ := hB
      rw [ht] at hP1
      obtain ⟨hP, hD⟩ := qah (wr := (qaH a0 jch jcD ji6 jhx jch cyI jdE)) (w1 := []) (wn := (qaH a0 jch jcD ji6 jhx jch cyI jdE)) hP hD [] [0, 1] hCc rfl (by decide +kernel) (by decide +kernel) rfl hk1 hFc hP1 hD1
      generalize H1 = H at hP hS ⊢
      refine lv_if_eq (tgt := 113) hx hb (qaa qaR 3 rfl) (by decide) (fun c5 => ?_) (fun c5 => ?_)
      · have hw := hw.1 c5
        exact qJp RS fr lo hRw dC dI cyB cyI cyJ cyP a0 jch jcD ji6 jhx jdE Q (qkZ RS jdE Q n) ih C0 _ _ _ l1 l2 l3 l4 l5 l6 hP hD hS (lv_sub hl [0, 1, 2, 3, 4, 5, 6] rfl) hw
      · have hw := hw.2 c5
        refine lv_aload_n hx hb (qaa qaR 4 rfl) rfl (lv_at hl 0 rfl) ?_
        refine lv_iload hx hb (qaa qaR 5 rfl) (lv_at hl 6 rfl) ?_
        obtain ⟨hCc, hPc, hDc, hFc⟩ := qac (ws' := (qaH a0 jch jcD ji6 jhx jch cyI jdE)) hP hD hS hA [0, 1] (by decide +kernel) rfl
        refine va_calli (va_runV (As := [.int l6]) (rest := []) ⟨hx, hb, hml, hown, hts⟩ (qsD l dC dI cyB cyI cyJ cyP a0 jch H.size (jcD) (ji6) (jhx) jdE l6 hw) (cwV 1 hts gX10_ordersWon_X1_strong rfl rfl rfl (by decide +kernel) ⟨(by first | exact nbq rfl | (simp only [headSpec]; omega) | omega), (by first | exact nbq rfl | (simp only [headSpec]; omega) | omega)⟩) ⟨qab, va_recv (q := (RX1, TX1, 4)) hK hPc (ci := 1) (q0 := 0) rfl rfl, qae hPc hK hDc hNw⟩ rfl rfl hl.1 rfl (lv_room (nbq rfl)) (qaa qaR 6 rfl) ⟨(by first | exact nbq rfl | (simp only [headSpec]; omega) | omega), (by first | exact nbq rfl | (simp only [headSpec]; omega) | omega)⟩) hS (fun q _ h => hFc q h) hFc (fun r6 u t H1 locs ht hvm hw hB hz1 hk1 hS => ?_)
        obtain ⟨hP1, hK1, hD1⟩ := hB
        rw [ht] at hP1
        obtain ⟨hP, hD⟩ := qah (wr := []) (w1 := (qaH a0 jch jcD ji6 jhx jch cyI jdE)) (wn := (qaH a0 jch jcD ji6 jhx jch cyI jdE)) hP hD [0, 1] [] hCc rfl (by decide +kernel) (by decide +kernel) rfl hk1 hFc hP1 hD1
        generalize H1 = H at hP hS ⊢
        refine lv_istore (lv' := [(7, .int r6), (0, .ref a0), (1, .int l1), (2, .int l2), (3, .int l3), (4, .int l4), (5, .int l5), (6, .int l6)]) hx hb (qaa qaR 7 rfl) hl (by decide) rfl (fun ls hl => ?_)
        refine lv_iload_n hx hb (qaa qaR 8 rfl) rfl (lv_at hl 4 rfl) ?_
        refine lv_iload hx hb (qaa qaR 9 rfl) (lv_at hl 0 rfl) ?_
        refine lv_icmp_lt (tgt := 57) hx hb (qaa qaR 10 rfl) (by decide) (fun c7 => ?_) (fun c7 => ?_)
        · have hw := hw.1 c7
          refine lv_iconst (v := 0) hx hb (qaa qaR 13 rfl) (by decide) ?_
          exact qLP RS fr lo hRw dC dI cyB cyI cyJ cyP a0 jch jcD ji6 jhx jdE Q (qkZ RS jdE Q n) ih C0 _ _ _ l1 l2 l3 l4 l5 l6 r6 0 hP hD hS (lv_sub hl [1, 2, 3, 4, 5, 6, 7, 0] rfl) hw
        · have hw := hw.2 c7
          refine lv_iconst (v := 1) hx hb (qaa qaR 11 rfl) (by decide) ?_
          refine lv_goto (tgt := 58) hx hb (qaa qaR 12 rfl) (by decide) ?_
          exact qLP RS fr lo hRw dC dI cyB cyI cyJ cyP a0 jch jcD ji6 jhx jdE Q (qkZ RS jdE Q n) ih C0 _ _ _ l1 l2 l3 l4 l5 l6 r6 1 hP hD hS (lv_sub hl [1, 2, 3, 4, 5, 6, 7, 0] rfl) hw
set_option maxHeartbeats 4000000 in
set_option maxRecDepth 100000 in
theorem qwQ (RS : NI → Int32 → Int32 → Int32 → Int32 → (Int32 → Prop) → Prop) (fr lo : Nat) (hRw : ∀ (l : Launch) (dC : Nat → ClassId) (dI : Nat → Nat → Nat) (cyB cyI cyJ cyP : ClassId) (a0 jch sz : Nat) (jcD ji6 jhx : Value) (jdE : NI) (p1 p2 p3 p4 : Int32) {Q : Int32 → Prop} (hw : RS jdE p1 p2 p3 p4 Q), Met l yX10_ordersWon wsX10_ordersWon ({ frames := fr, cells := 0, slots := 0, locals := lo }) (va_Pc [.ref a0, .int p1, .int p2, .int p3, .int p4] (cPc (dC, dI) (kT cyB cyI cyJ cyP) (qaH a0 jch jcD ji6 jhx jch cyI jdE) sz)) (va_Qi (fun (r : Int32) (_ : Unit) => Q r ) (cB (dC, dI) (kT cyB cyI cyJ cyP) (va_A (qaH a0 jch jcD ji6 jhx jch cyI jdE) sz) (fun u : Unit => ((qaH a0 jch jcD ji6 jhx jch cyI jdE) : va_W))) (va_A (qaH a0 jch jcD ji6 jhx jch cyI jdE) sz)) 0 0 (va_A (qaH a0 jch jcD ji6 jhx jch cyI jdE) sz)) (l : Launch) (dC : Nat → ClassId) (dI : Nat → Nat → Nat) (cyB cyI cyJ cyP : ClassId) (a0 jch sz : Nat) (jcD ji6 jhx : Value) (jdE : NI) (p1 p2 p3 p4 : Int32) {Q : Int32 → Prop} (hw : qsh RS jdE p1 p2 p3 p4 Q) : Met l yX10_ordersWon wsX10_ordersWon ({ frames := fr + 1, cells := 0, slots := 0, locals := lo + 30 }) (va_Pc [.ref a0, .int p1, .int p2, .int p3, .int p4] (cPc (dC, dI) (kT cyB cyI cyJ cyP) (qaH a0 jch jcD ji6 jhx jch cyI jdE) sz)) (va_Qi (fun (r : Int32) (_ : Unit) => Q r ) (cB (dC, dI) (kT cyB cyI cyJ cyP) (va_A (qaH a0 jch jcD ji6 jhx jch cyI jdE) sz) (fun u : Unit => ((qaH a0 jch jcD ji6 jhx jch cyI jdE) : va_W))) (va_A (qaH a0 jch jcD ji6 jhx jch cyI jdE) sz)) 0 0 (va_A (qaH a0 jch jcD ji6 jhx jch cyI jdE) sz) := by
  refine Met.ofW (cc := cX10_ordersWon) (maxL := 11) (ret := (some .int)) (by decide) rfl ?_
  intro p e s m args below meth c s₁ B hml hv
  obtain ⟨rfl, hsz, hP, hK, hD0, hNw⟩ := hv
  have hx := B.exec
  have hb := B.bytes
  have hr := B.returns
  have hts := atoms_spec (ws := wsX10_ordersWon) B.pre
  have hown : s.vm.findClass RX10 = some m.cls := findClass_of_methodNamed B.named
  have hlocks := B.notSynchronized
  subst hsz
  have hD := hD0.self (sz := s.heap.size)
  generalize hAe : va_A (qaH a0 jch jcD ji6 jhx jch cyI jdE) s.heap.size = A at hD ⊢
  have hA : ∀ q : Nat, s.heap.size ≤ q → A q := fun q h => by rw [← hAe]; exact Or.inr h
  have hS : va_S A s.heap s.heap [] := va_S.rf
  have hP : va_P (dC, dI) vwCl (qaH a0 jch jcD ji6 jhx jch cyI jdE) s.heap := hP
  have hl := lv_entry ([.ref a0, .int p1, .int p2, .int p3, .int p4]) (n := 11) ((by first | exact nbq rfl | (simp only [headSpec]; omega) | omega))
  rw [lg_entry_eq]
  generalize (lg_sl ([.ref a0, .int p1, .int p2, .int p3, .int p4]) ++ List.replicate (11 - (lg_sl ([.ref a0, .int p1, .int p2, .int p3, .int p4])).length) Slot.unset).toArray = ls at hl ⊢
  have hl : lv_has ls 11 [(0, .ref a0), (1, .int p1), (2, .int p2), (3, .int p3), (4, .int p4)] := hl
  have C0 : cfx p s m _ meth c cX10_ordersWon (some .int) wsX10_ordersWon RX10 11 A (dC, dI) (kT cyB cyI cyJ cyP) := ⟨hx, hb, hr, hts, hown, hlocks, hml, hA, hK, hNw⟩
  clear hAe
  obtain ⟨H, hH⟩ : ∃ H, H = s.heap := ⟨_, rfl⟩
  rw [← hH] at hP ⊢
  have hS : va_S A s.heap H [] := by rw [hH]; exact va_S.rf
  have hS := hS
  refine lv_iload hx hb (qaa qaT 0 rfl) (lv_at hl 4 rfl) ?_
  refine lv_if_ne (tgt := 16) hx hb (qaa qaT 1 rfl) (by decide) (fun c1 => ?_) (fun c1 => ?_)
  · have hw := hw.1 c1
    refine lv_iconst (v := 0) hx hb (qaa qaT 9 rfl) (by decide) ?_
    refine lv_istore (lv' := [(5, .int 0), (0, .ref a0), (1, .int p1), (2, .int p2), (3, .int p3), (4, .int p4)]) hx hb (qaa qaT 10 rfl) hl (by decide) rfl (fun ls hl => ?_)
    refine lv_iconst (v := 0) hx hb (qaa qaT 11 rfl) (by decide) ?_
    refine lv_istore (lv' := [(6, .int 0), (5, .int 0), (0, .ref a0), (1, .int p1), (2, .int p2), (3, .int p3), (4, .int p4)]) hx hb (qaa qaT 12 rfl) hl (by decide) rfl (fun ls hl => ?_)
    obtain ⟨n9, hw⟩ := hw
    exact q1K RS fr lo hRw dC dI cyB cyI cyJ cyP a0 jch jcD ji6 jhx jdE Q C0 n9 _ _ _ p1 p2 p3 p4 0 0 hP hD hS (lv_sub hl [2, 3, 4, 5, 6, 1, 0] rfl) hw
  · have hw := hw.2 c1
    refine lv_iload_n hx hb (qaa qaT 2 rfl) rfl (lv_at hl 2 rfl) ?_
    refine lv_iload_n hx hb (qaa qaT 3 rfl) rfl (lv_at hl 1 rfl) ?_
    refine lv_icmp_ne (tgt := 14) hx hb (qaa qaT 4 rfl) (by decide) (fun c2 => ?_) (fun c2 => ?_)
    · have hw := hw.1 c2
      refine lv_iconst (v := 0) hx hb (qaa qaT 7 rfl) (by decide) ?_
      exact ((W.iret (v := 0) hx hb hr (fun t ht hW => ⟨⟨0, (), rfl, hw, by rw [ht]; exact hP, va_K.moved hW.alike hK, hD⟩, hS.F ht⟩) hS.2.2 (qaa qaT 8 rfl)))
    · have hw := hw.2 c2
      refine lv_iconst (v := 1) hx hb (qaa qaT 5 rfl) (by decide) ?_
      refine lv_goto (tgt := 15) hx hb (qaa qaT 6 rfl) (by decide) ?_
      exact ((W.iret (v := 1) hx hb hr (fun t ht hW => ⟨⟨1, (), rfl, hw, by rw [ht]; exact hP, va_K.moved hW.alike hK, hD⟩, hS.F ht⟩) hS.2.2 (qaa qaT 8 rfl)))
theorem qabD (l : Launch) (dC : Nat → ClassId) (dI : Nat → Nat → Nat) (cyB cyI cyJ cyP : ClassId) (a0 jch sz : Nat) (jcD ji6 jhx : Value) (jdE : NI) (p1 p2 p3 p4 : Int32) {Q : Int32 → Prop} (hw : qzi jdE p1 p2 p3 p4 Q) : Met l yX10_ordersWon wsX10_ordersWon ({ frames := 2, cells := 0, slots := 0, locals := 62 }) (va_Pc [.ref a0, .int p1, .int p2, .int p3, .int p4] (cPc (dC, dI) (kT cyB cyI cyJ cyP) (qaH a0 jch jcD ji6 jhx jch cyI jdE) sz)) (va_Qi (fun (r : Int32) (_ : Unit) => Q r ) (cB (dC, dI) (kT cyB cyI cyJ cyP) (va_A (qaH a0 jch jcD ji6 jhx jch cyI jdE) sz) (fun u : Unit => ((qaH a0 jch jcD ji6 jhx jch cyI jdE) : va_W))) (va_A (qaH a0 jch jcD ji6 jhx jch cyI jdE) sz)) 0 0 (va_A (qaH a0 jch jcD ji6 jhx jch cyI jdE) sz) :=
  qwQ qzg 1 32 q95 l dC dI cyB cyI cyJ cyP a0 jch sz jcD ji6 jhx jdE p1 p2 p3 p4 hw
theorem qab1 (l : Launch) (dC : Nat → ClassId) (dI : Nat → Nat → Nat) (cyB cyI cyJ cyP : ClassId) (a0 jch sz : Nat) (jcD ji6 jhx : Value) (jdE : NI) (p1 p2 p3 p4 : Int32) {Q : Int32 → Prop} (hw : qzn jdE p1 p2 p3 p4 Q) : Met l yX10_ordersWon wsX10_ordersWon ({ frames := 3, cells := 0, slots := 0, locals := 92 }) (va_Pc [.ref a0, .int p1, .int p2, .int p3, .int p4] (cPc (dC, dI) (kT cyB cyI cyJ cyP) (qaH a0 jch jcD ji6 jhx jch cyI jdE) sz)) (va_Qi (fun (r : Int32) (_ : Unit) => Q r ) (cB (dC, dI) (kT cyB cyI cyJ cyP) (va_A (qaH a0 jch jcD ji6 jhx jch cyI jdE) sz) (fun u : Unit => ((qaH a0 jch jcD ji6 jhx jch cyI jdE) : va_W))) (va_A (qaH a0 jch jcD ji6 jhx jch cyI jdE) sz)) 0 0 (va_A (qaH a0 jch jcD ji6 jhx jch cyI jdE) sz) :=
  qwQ qzi 2 62 qabD l dC dI cyB cyI cyJ cyP a0 jch sz jcD ji6 jhx jdE p1 p2 p3 p4 hw
theorem qabS (l : Launch) (dC : Nat → ClassId) (dI : Nat → Nat → Nat) (cyB cyI cyJ cyP : ClassId) (a0 jch sz : Nat) (jcD ji6 jhx : Value) (jdE : NI) (p1 p2 p3 p4 : Int32) {Q : Int32 → Prop} (hw : qza jdE p1 p2 p3 p4 Q) : Met l yX10_ordersWon wsX10_ordersWon ({ frames := 4, cells := 0, slots := 0, locals := 122 }) (va_Pc [.ref a0, .int p1, .int p2, .int p3, .int p4] (cPc (dC, dI) (kT cyB cyI cyJ cyP) (qaH a0 jch jcD ji6 jhx jch cyI jdE) sz)) (va_Qi (fun (r : Int32) (_ : Unit) => Q r ) (cB (dC, dI) (kT cyB cyI cyJ cyP) (va_A (qaH a0 jch jcD ji6 jhx jch cyI jdE) sz) (fun u : Unit => ((qaH a0 jch jcD ji6 jhx jch cyI jdE) : va_W))) (va_A (qaH a0 jch jcD ji6 jhx jch cyI jdE) sz)) 0 0 (va_A (qaH a0 jch jcD ji6 jhx jch cyI jdE) sz) :=
  qwQ qzn 3 92 qab1 l dC dI cyB cyI cyJ cyP a0 jch sz jcD ji6 jhx jdE p1 p2 p3 p4 hw
theorem q8x (l : Launch) (dC : Nat → ClassId) (dI : Nat → Nat → Nat) (cyB cyI cyJ cyP : ClassId) (a0 jch sz : Nat) (jcD ji6 jhx : Value) (jdE : NI) (p1 p2 p3 p4 : Int32) {Q : Int32 → Prop} (hw : qzF jdE p1 p2 p3 p4 Q) : Met l yX10_ordersWon wsX10_ordersWon ({ frames := 5, cells := 0, slots := 0, locals := 152 }) (va_Pc [.ref a0, .int p1, .int p2, .int p3, .int p4] (cPc (dC, dI) (kT cyB cyI cyJ cyP) (qaH a0 jch jcD ji6 jhx jch cyI jdE) sz)) (va_Qi (fun (r : Int32) (_ : Unit) => Q r ) (cB (dC, dI) (kT cyB cyI cyJ cyP) (va_A (qaH a0 jch jcD ji6 jhx jch cyI jdE) sz) (fun u : Unit => ((qaH a0 jch jcD ji6 jhx jch cyI jdE) : va_W))) (va_A (qaH a0 jch jcD ji6 jhx jch cyI jdE) sz)) 0 0 (va_A (qaH a0 jch jcD ji6 jhx jch cyI jdE) sz) :=
  qwQ qza 4 122 qabS l dC dI cyB cyI cyJ cyP a0 jch sz jcD ji6 jhx jdE p1 p2 p3 p4 hw
theorem q9j (l : Launch) (dC : Nat → ClassId) (dI : Nat → Nat → Nat) (cyB cyI cyJ cyP : ClassId) (a0 jch sz : Nat) (jcD ji6 jhx : Value) (jdE : NI) (p1 p2 p3 p4 : Int32) {Q : Int32 → Prop} (hw : qFs jdE p1 p2 p3 p4 Q) : Met l yX10_ordersWon wsX10_ordersWon ({ frames := 6, cells := 0, slots := 0, locals := 182 }) (va_Pc [.ref a0, .int p1, .int p2, .int p3, .int p4] (cPc (dC, dI) (kT cyB cyI cyJ cyP) (qaH a0 jch jcD ji6 jhx jch cyI jdE) sz)) (va_Qi (fun (r : Int32) (_ : Unit) => Q r ) (cB (dC, dI) (kT cyB cyI cyJ cyP) (va_A (qaH a0 jch jcD ji6 jhx jch cyI jdE) sz) (fun u : Unit => ((qaH a0 jch jcD ji6 jhx jch cyI jdE) : va_W))) (va_A (qaH a0 jch jcD ji6 jhx jch cyI jdE) sz)) 0 0 (va_A (qaH a0 jch jcD ji6 jhx jch cyI jdE) sz) :=
  qwQ qzF 5 152 q8x l dC dI cyB cyI cyJ cyP a0 jch sz jcD ji6 jhx jdE p1 p2 p3 p4 hw
