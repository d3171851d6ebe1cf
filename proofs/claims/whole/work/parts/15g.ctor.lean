section
def hX : HP := c331 c0
def hM : HP := c512 hX
end
