theorem sd_end : True := trivial
