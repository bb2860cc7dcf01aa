end C4
