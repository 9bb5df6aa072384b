"""Programs around parts, weak tables, last acts and gatherings: gen_gathering.py SEED NUMBER."""
import random, sys


class G:
    def __init__(s, r):
        s.r = r
        s.fn = 0
        s.budget = r.randint(100, 420)
        s.loop = 0
        s.infn = 0
        s.inpart = 0
        s.T = ["t1", "t2", "t3", "t4"]
        s.W = ["w1", "w2"]
        s.S = ["s1", "s2"]
        s.F = ["f1", "f2"]
        s.P = ["p1", "p2"]
        s.K = ["wk", "wv", "wb"]

    def pick(s, *x):
        return s.r.choice(x)

    def ch(s, p):
        return s.r.random() < p

    def w(s, d):
        s.budget -= 1
        x = s.r.random()
        if d <= 0 or x < 0.35:
            return s.pick(s.pick(*s.W), "1", "2", "3", "0", "-1", "5")
        if x < 0.6:
            return (
                s.w(d - 1)
                + " "
                + s.pick("+", "-", "*", "//", "%", "&", "|", "~", "<<", ">>")
                + " "
                + s.w(d - 1)
            )
        if x < 0.7:
            return "#" + s.t(d - 1)
        if x < 0.75:
            return "collect()"
        if x < 0.8:
            return "collect(" + s.t(d - 1) + ")"
        if x < 0.85:
            return "(" + s.w(d - 1) + ")"
        if x < 0.9:
            return "(" + s.pick("t1.w", "t2.w", "t3[1]") + " or " + s.w(d - 1) + ")"
        if x < 0.95:
            return "rawlen(" + s.t(d - 1) + ")"
        return "select('#', " + s.any(d - 1) + ", " + s.any(d - 1) + ")"

    def s_(s, d):
        x = s.r.random()
        s.budget -= 1
        if d <= 0 or x < 0.5:
            return s.pick(s.pick(*s.S), "'a'", "'bc'", "''", "'q'")
        if x < 0.7:
            return s.s_(d - 1) + " .. " + s.pick(s.s_(d - 1), s.w(d - 1))
        if x < 0.75:
            return "type(" + s.any(d - 1) + ")"
        if x < 0.8:
            return "tostring(" + s.any(d - 1) + ")"
        if x < 0.85:
            return "text.sub('hello', " + s.w(d - 1) + ", " + s.w(d - 1) + ")"
        if x < 0.9:
            return "part.state(" + s.p(d - 1) + ")"
        if x < 0.95:
            return "list.concat({" + s.w(d - 1) + ", " + s.s_(d - 1) + "}, '-')"
        return "text.rep('ab', 3)"

    def meta(s, d):
        fs = []
        for _ in range(s.r.randint(1, 3)):
            x = s.r.random()
            if x < 0.35:
                fs.append("__gc = " + s.func(d - 1, "o", gc=True))
            elif x < 0.5:
                fs.append("__mode = '" + s.pick("k", "v", "kv") + "'")
            elif x < 0.6:
                fs.append("__index = " + s.pick(s.t(d - 1), s.func(d - 1, "o, k"), "t1", "rawget"))
            elif x < 0.7:
                fs.append("__newindex = " + s.pick("t2", "rawset", s.func(d - 1, "o, k, v"), "t4"))
            elif x < 0.8:
                fs.append(
                    "__call = "
                    + s.pick(
                        s.func(d - 1, "o, ..."),
                        "f1",
                        "print",
                        "pcall",
                        "part.go",
                        "collect",
                        "part.stop",
                    )
                )
            else:
                fs.append(
                    "__"
                    + s.pick("add", "sub", "concat", "len", "eq", "lt", "le", "unm", "bnot", "mul")
                    + " = "
                    + s.pick(
                        s.func(d - 1, "o, k"),
                        s.func(d - 1, ""),
                        "f1",
                        "collect",
                        "rawequal",
                        "part.stop",
                    )
                )
        return "{" + ", ".join(fs) + "}"

    def t(s, d):
        s.budget -= 1
        x = s.r.random()
        if d <= 0 or x < 0.45:
            return s.pick(*s.T)
        if x < 0.6:
            return (
                "{"
                + ", ".join(
                    (
                        s.pick("x = ", "y = ", "", "") + s.any(d - 1)
                        for _ in range(s.r.randint(0, 3))
                    )
                )
                + "}"
            )
        if x < 0.75:
            return (
                "setmetatable("
                + s.pick("{}", s.t(d - 1))
                + ", "
                + s.pick("m1", "m2", s.meta(d - 1))
                + ")"
            )
        if x < 0.8:
            return s.pick(*s.K)
        if x < 0.88:
            return "(" + s.pick(*s.T) + "." + s.pick("x", "y", "z") + " or " + s.t(d - 1) + ")"
        if x < 0.92:
            return "list.pack(" + s.any(d - 1) + ", " + s.any(d - 1) + ")"
        if x < 0.96:
            return "(" + s.t(d - 1) + " and " + s.t(d - 1) + ")"
        return s.pick(*s.K) + "[1]"

    def func(s, d, ps=None, gc=False):
        if s.fn > 42 or s.budget < 0 or d < 0:
            return "function() end"
        s.fn += 1
        if ps is None:
            ps = s.pick("", "a", "a, b", "...", "a, ...")
        sv = (s.loop, s.infn)
        s.loop = 0
        s.infn += 1
        saveT = list(s.T)
        pre = ""
        if gc:
            x = s.r.random()
            if x < 0.2:
                pre = "G = o "
            elif x < 0.3:
                pre = "setmetatable(o, getmetatable(o)) "
            elif x < 0.4:
                pre = "t1 = o "
            elif x < 0.5:
                pre = "collect() "
            elif x < 0.6:
                pre = "print(wk[o], wv[1] == o) "
            elif x < 0.65:
                pre = "print(pcall(part.stop, 1)) "
            elif x < 0.7:
                pre = "error(o) "
            elif x < 0.75:
                pre = "wv[1] = o "
            elif x < 0.8:
                pre = "print(part.go(p1, o)) "
        if ps.startswith(("a", "o")) and s.ch(0.3):
            s.T = s.T + [ps[0]]
        b = pre + s.block(d - 1, s.r.randint(0, 2) if gc else s.r.randint(0, 4))
        if s.ch(0.6):
            b += " return " + s.pick(
                s.any(d - 1),
                s.any(d - 1) + ", " + s.any(d - 1),
                s.pick(*s.F) + "()" if s.ch(0.2) else s.w(1),
                "..." if "..." in ps else "nil",
            )
        s.T = saveT
        s.loop, s.infn = sv
        return "function(" + ps + ") " + b + " end"

    def f(s, d):
        s.budget -= 1
        if d <= 0 or s.ch(0.5):
            return s.pick(*s.F)
        return (
            s.pick(
                s.func(d - 1),
                s.func(d - 1),
                "collect",
                "print",
                "part.stop",
                "pcall",
                "next",
                "error",
                "part.running",
                "part.new",
            )
            if s.ch(0.9)
            else s.t(d - 1)
        )

    def p(s, d):
        if d <= 0 or s.ch(0.7):
            return s.pick(*s.P)
        return s.pick("part.new(" + s.f(d - 1) + ")", "part.running()", "(t1.p or p1)")

    def any(s, d):
        s.budget -= 1
        x = s.r.random()
        if x < 0.25:
            return s.t(d)
        if x < 0.4:
            return s.w(d)
        if x < 0.5:
            return s.s_(d)
        if x < 0.56:
            return s.f(d)
        if x < 0.62:
            return s.p(d)
        if x < 0.68:
            return s.pick("nil", "true", "false")
        if x < 0.74:
            return s.pick(*s.F) + "(" + s.any(d - 1) + ")" if d > 0 else "nil"
        if x < 0.8:
            return (
                s.t(d - 1)
                + s.pick(" == ", " ~= ", " < ", " <= ", " > ", " >= ", " + ", " .. ", " - ")
                + s.t(d - 1)
                if d > 0
                else "G"
            )
        if x < 0.84:
            return "next(" + s.t(d - 1) + ")"
        if x < 0.88:
            return "part.stop(" + s.any(d - 1) + ")" if d > 0 else "G"
        if x < 0.92:
            return "part.go(" + s.p(d - 1) + ", " + s.any(d - 1) + ")" if d > 0 else "G"
        if x < 0.95:
            return "pcall(" + s.f(d - 1) + ", " + s.any(d - 1) + ")" if d > 0 else "G"
        return s.pick("G", "t1.x", "t2[1]", "wv[1]", "wk[t1]", "not t1.z")

    def block(s, d, n):
        o = []
        sv = [list(x) for x in (s.T, s.W, s.F)]
        for _ in range(n):
            if s.budget < 0:
                break
            o.append(s.stat(d))
        s.T, s.W, s.F = sv
        if s.loop and s.ch(0.12):
            o.append("break")
        return s.pick(" ", "\n").join(o)

    def stat(s, d):
        s.budget -= 3
        x = s.r.random()
        if d <= 0:
            x *= 0.62
        if x < 0.07:
            return "collect()"
        if x < 0.11:
            return "print(collect())"
        if x < 0.2:
            return (
                s.pick(*s.T)
                + " = "
                + s.pick("{}", "setmetatable({}, m1)", "setmetatable({x = t1}, m2)", "nil", s.t(d))
            )
        if x < 0.25:
            return "wk[" + s.t(d - 1) + "] = " + s.any(d - 1)
        if x < 0.3:
            return "wv[" + s.pick("1", "2", "#wv + 1", "'k'", "t1") + "] = " + s.any(d - 1)
        if x < 0.33:
            return "wb[" + s.any(d - 1) + "] = " + s.any(d - 1)
        if x < 0.4:
            return (
                s.t(d - 1 if s.ch(0.3) else 0)
                + s.pick(".x", ".y", ".z", "[1]", "[2]", ".p", ".w", "[t1]")
                + " = "
                + s.any(d)
            )
        if x < 0.43:
            return s.pick(*s.W) + " = " + s.w(d)
        if x < 0.46:
            return s.pick(*s.F) + " = " + s.f(d)
        if x < 0.49:
            return s.pick(*s.P) + " = part.new(" + s.func(d) + ")"
        if x < 0.53:
            return "print(" + s.any(d) + ", " + s.any(d) + ")"
        if x < 0.56:
            return s.pick(*s.F) + "(" + s.any(d - 1) + ")"
        if x < 0.62:
            return "print(part.go(" + s.p(0) + ", " + s.any(d - 1) + "))"
        if x < 0.66:
            return "part.stop(" + s.any(d - 1) + ")"
        if x < 0.72:
            k = s.pick("t", "w", "f")
            v = {"t": s.pick("t1", "t2", "t5"), "w": "w3", "f": "f3"}[k]
            e = {"t": s.t, "w": s.w, "f": s.f}[k](d)
            L = {"t": s.T, "w": s.W, "f": s.F}[k]
            L.append(v)
            return "local " + v + " = " + e
        if x < 0.76:
            return (
                "for k, v in "
                + s.pick(
                    "pairs(wk)",
                    "pairs(wv)",
                    "pairs(" + s.t(d - 1) + ")",
                    "ipairs(wv)",
                    "part.go, p1",
                    "next, t1",
                    s.f(d - 1) + ", " + s.any(d - 1),
                )
                + " do "
                + s.lp(d)
                + " end"
            )
        if x < 0.8:
            return (
                "for i = 1, "
                + s.pick("2", "3", s.w(1) if s.ch(0.1) else "2")
                + " do "
                + s.lp(d)
                + " end"
            )
        if x < 0.83:
            return (
                "if "
                + s.any(d - 1)
                + " then "
                + s.block(d - 1, 2)
                + " else "
                + s.block(d - 1, 2)
                + " end"
            )
        if x < 0.86:
            return "do " + s.block(d - 1, 3) + " end"
        if x < 0.9:
            return "print(pcall(" + s.func(d) + ", " + s.any(d - 1) + "))"
        if x < 0.93:
            return (
                s.pick(*s.T)
                + ", "
                + s.pick(*s.T)
                + ".x, "
                + s.pick(*s.T)
                + "[collect()] = "
                + s.any(d - 1)
                + ", "
                + s.any(d - 1)
            )
        if x < 0.95:
            return (
                "return " + s.any(d)
                if False
                else "local r0 = 0 repeat local r1 = {} r0 = r0 + 1 "
                + s.lp(d)
                + " until r0 > 2 or "
                + s.any(1)
            )
        if x < 0.97:
            return "list." + s.pick(
                "insert(wv, " + s.any(d - 1) + ")",
                "remove(wv)",
                "insert(t2, 1, " + s.any(d - 1) + ")",
                "remove(t2, 1)",
            )
        return "local function f2(a) " + s.block(d - 1, 2) + " return a end"

    def lp(s, d):
        s.loop += 1
        b = s.block(d - 1, 2)
        s.loop -= 1
        return b

    def program(s):
        o = [
            'local w1, w2, s1, s2 = 1, 2, "a", "bc"',
            "local t1, t2, t3, t4 = {}, {1, 2, 3}, {x = {}}, {}",
            "local wk, wv, wb = setmetatable({}, {__mode = 'k'}), setmetatable({}, {__mode = 'v'}), setmetatable({}, {__mode = 'kv'})",
            "local f1, f2, p1, p2, m1, m2",
            "m1 = " + s.meta(2),
            "m2 = " + s.meta(2),
            "f1 = " + s.func(2),
            "f2 = " + s.func(2),
            "p1 = part.new(" + s.func(3) + ")",
            "p2 = part.new(" + s.func(3) + ")",
        ]
        while s.budget > 0 and s.fn < 46:
            st = s.stat(3)
            if s.ch(0.88) and (not st.startswith("local")):
                s.fn += 1
                st = "print(pcall(function(...) " + st + " end))"
            o.append(st)
        o.append("t1, t2, t3, t4, G = nil collect() return " + s.any(1))
        return s.pick("\n", " ").join(o)


def main():
    seed = int(sys.argv[1])
    n = int(sys.argv[2])
    for i in range(n):
        r = random.Random(seed * 1000003 + i)
        t = G(r).program().encode("latin1")
        if len(t) > 6000:
            continue
        ch = []
        for _ in range(r.randint(1, 4)):
            ch.append(r.choice([1, 2, 3, 7, 20, 50]))
        ch += [3000] * r.choice([1, 1, 2])
        print(t.hex(), *ch)


main()
