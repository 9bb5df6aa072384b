"""Programs that come near to NO ROOM: gen_room.py SEED NUMBER."""
import random, sys


def main():
    seed = int(sys.argv[1])
    n = int(sys.argv[2])
    for i in range(n):
        r = random.Random(seed * 1000003 + i)
        st = [
            "local t = {}",
            "local u = {{}}",
            "local s = ''",
            "local w = setmetatable({}, {__mode = '%s'})" % r.choice(["k", "v", "kv"]),
        ]
        acts = [
            "t[i] = i",
            "t[i] = {i}",
            "t['a' .. i] = i",
            "s = i .. 'x'",
            "s = text.rep('q', i % 300 + 1)",
            "s = text.sub(s .. i, 1, 900)",
            "w[i] = {}",
            "w[{}] = i",
            "t[i] = function() return i end",
            "list.insert(t, 1, i)",
            "list.insert(t, i)",
            "list.pack(i, i, i)",
            "u = {u[1], i, {i, i}}",
            "collect()",
            "if i % 37 == 0 then collect() end",
            "if i % 50 == 0 then t = {} end",
            "pcall(nil)",
            "pcall(error, {i})",
            "part.new(print)",
            "if i % 70 == 0 then part.new(function() end) end",
            "local o = setmetatable({i}, {__gc = function(o) s = s .. o[1] end})",
            "t[i // 2] = nil",
            "t[i] = tostring({})",
            "rawset(t, -i, i)",
            "for k, v in pairs(w) do t[k] = v break end",
            "s = list.concat(t, ',')",
            "G = i",
            "s = text.char(i % 256, i // 256 % 256)",
        ]
        k = r.randint(1, 5)
        body = " ".join(r.sample(acts, k))
        if r.random() < 0.3:
            body = (
                "print(pcall(function() " + body + " end))"
                if r.random() < 0.3
                else "pcall(function() " + body + " end)"
            )
        st.append("for i = 1, %d do %s end" % (r.choice([30, 100, 400, 900, 2100, 3100]), body))
        st.append("collect()")
        st.append(
            "for i = 1, %d do %s end" % (r.choice([30, 100, 400]), " ".join(r.sample(acts, 2)))
        )
        t = "\n".join(st).encode()
        print(t.hex(), *[r.choice([500, 1000, 3000]) for _ in range(r.randint(2, 6))])


main()
