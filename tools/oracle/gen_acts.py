"""Programs of all statements and operators, many of them wrong: gen_acts.py SEED NUMBER."""
import random, sys


class G:
    def __init__(s, r):
        s.r = r
        s.fn = 0
        s.depth = 0
        s.scopes = [["a", "b", "c", "t", "u", "f", "g", "p", "m"]]
        s.loop = 0
        s.dots = True
        s.budget = r.randint(40, 260)

    def pick(s, *xs):
        return s.r.choice(xs)

    def nm(s):
        vs = [v for sc in s.scopes for v in sc]
        return s.r.choice(vs)

    def whole(s):
        return s.pick(
            "0",
            "1",
            "2",
            "3",
            "-1",
            "5",
            "10",
            "64",
            "63",
            "-64",
            "0x7fffffffffffffff",
            "0xffffffffffffffff",
            "9223372036854775807",
            "0x8000000000000000",
            "7",
            "4",
        )

    def string(s):
        return s.pick(
            "'x'",
            "'y'",
            "'__index'",
            "''",
            "'n'",
            "'k'",
            "'v'",
            "'kv'",
            "'12'",
            "'-7'",
            "'abc'",
            "'__gc'",
            "'nil'",
            "'table'",
            "'\\0\\255'",
        )

    def const(s):
        return s.pick(
            "nil", "true", "false", s.whole(), s.whole(), s.whole(), s.string(), s.string()
        )

    def key(s):
        return s.pick("1", "2", "3", "'x'", "'y'", "'n'", s.nm(), "true")

    def fld(s):
        return s.pick("x", "y", "n", "z", "__index")

    def args(s, d, mx=3):
        n = s.r.randint(0, mx)
        a = [s.e(d - 1) for _ in range(n)]
        if s.dots and s.r.random() < 0.1:
            a.append("...")
        return ", ".join(a)

    BUI = "print type tostring tonumber next pairs ipairs rawget rawset rawequal rawlen getmetatable setmetatable error pcall select collect list.insert list.remove list.concat list.pack list.unpack text.sub text.byte text.char text.rep part.new part.go part.stop part.state part.running".split()

    def table(s, d):
        n = s.r.randint(0, 3)
        fs = []
        for _ in range(n):
            x = s.r.random()
            if x < 0.4:
                fs.append(s.e(d - 1))
            elif x < 0.7:
                fs.append(s.fld() + " = " + s.e(d - 1))
            else:
                fs.append("[" + s.pick(s.key(), s.key(), s.e(d - 1)) + "] = " + s.e(d - 1))
        return "{" + s.pick(", ", "; ").join(fs) + s.pick("", "," if fs else "") + "}"

    EVS = "index newindex call add sub mul idiv mod band bor bxor shl shr unm bnot concat len eq lt le gc mode".split()

    def meta(s, d):
        fs = []
        for _ in range(s.r.randint(1, 4)):
            ev = s.pick(*s.EVS + ["index", "newindex", "call", "gc", "gc", "mode", "mode", "index"])
            if ev == "mode":
                fs.append("__mode = " + s.pick("'k'", "'v'", "'kv'", "'k'", "'v'"))
            elif ev == "gc":
                fs.append(
                    "__gc = "
                    + s.pick(s.func(d - 1), s.func(d - 1), "collect", "print", "true", "5", s.nm())
                )
            else:
                fs.append(
                    "__"
                    + ev
                    + " = "
                    + s.pick(
                        s.func(d - 1),
                        s.func(d - 1),
                        s.nm(),
                        s.pick(*s.BUI),
                        s.e(d - 1),
                        "setmetatable({}, {__call = " + s.nm() + "})",
                    )
                )
        return "{" + ", ".join(fs) + "}"

    def func(s, d):
        if s.fn > 35 or s.budget <= 0:
            return s.nm()
        s.fn += 1
        ps = [s.pick("a", "b", "c", "q", "w") for _ in range(s.r.randint(0, 3))]
        dots = s.r.random() < 0.3
        sl, sd = (s.loop, s.dots)
        s.loop = 0
        s.dots = dots
        s.scopes.append(list(ps))
        body = s.block(d - 1, s.r.randint(0, 3))
        if s.r.random() < 0.6:
            body += " return " + s.args(2, 3)
        s.scopes.pop()
        s.loop, s.dots = (sl, sd)
        return "function(" + ", ".join(ps + (["..."] if dots else [])) + ") " + body + " end"

    def call(s, d):
        x = s.r.random()
        if x < 0.5:
            b = s.pick(*s.BUI)
            good = {
                "next": "%t, %e",
                "pairs": "%t",
                "ipairs": "%t",
                "rawget": "%t, %k",
                "rawset": "%t, %k, %e",
                "rawlen": "%t",
                "getmetatable": "%t",
                "setmetatable": "%t, %M",
                "pcall": "%f, %e",
                "select": "%w, %e, %e",
                "list.insert": "%t, %e",
                "list.remove": "%t",
                "list.concat": "%t, ','",
                "list.pack": "%e, %e",
                "list.unpack": "%t",
                "text.sub": "%s, %w, %w",
                "text.byte": "%s, %w",
                "text.char": "65, 66",
                "text.rep": "%s, 3",
                "part.new": "%f",
                "part.go": "%p, %e",
                "part.stop": "%e",
                "part.state": "%p",
                "collect": "",
                "part.running": "",
                "error": "%e",
            }
            if b in good and s.r.random() < 0.8:
                t = good[b]
                o = ""
                i = 0
                while i < len(t):
                    if t[i] == "%":
                        k = t[i + 1]
                        i += 2
                        o += {
                            "t": lambda: s.pick("t", "u", s.nm(), s.table(d - 1) if d > 0 else "t"),
                            "e": lambda: s.e(d - 1),
                            "k": s.key,
                            "M": lambda: s.meta(d - 1) if s.r.random() < 0.7 and d > 0 else "m",
                            "f": lambda: s.pick(
                                "f", "g", s.func(d - 1) if d > 0 else "f", s.pick(*s.BUI)
                            ),
                            "w": s.whole,
                            "s": lambda: s.pick("'abc'", "'hello'", "a"),
                            "p": lambda: s.pick("p", "p", s.nm()),
                        }[k]()
                    else:
                        o += t[i]
                        i += 1
                return b + "(" + o + ")"
            return b + "(" + s.args(d) + ")"
        c = s.pick("f", "g", s.nm(), "t." + s.fld())
        if x < 0.8:
            return c + "(" + s.args(d) + ")"
        if x < 0.9:
            return s.pick("t", "u", s.nm()) + ":" + s.fld() + "(" + s.args(d) + ")"
        if x < 0.95:
            return c + s.table(d)
        return c + s.string()

    def e(s, d):
        s.budget -= 1
        if d <= 0 or s.budget < 0:
            return s.pick(s.nm(), s.nm(), s.const())
        x = s.r.random()
        if x < 0.2:
            return s.nm()
        if x < 0.35:
            return s.const()
        if x < 0.5:
            return s.call(d)
        if x < 0.6:
            return s.pick(s.nm(), "t", "u") + s.pick("." + s.fld(), "[" + s.key() + "]")
        if x < 0.68:
            return s.table(d)
        if x < 0.76:
            return s.func(d)
        if x < 0.8:
            return s.pick("not ", "-", "~", "#") + s.e(d - 1)
        if x < 0.84:
            return "(" + s.e(d - 1) + ")"
        if x < 0.86 and s.dots:
            return "..."
        if x < 0.9:
            return "setmetatable(" + s.table(d - 1) + ", " + s.pick("m", s.meta(d - 1)) + ")"
        op = s.pick(
            "+",
            "-",
            "*",
            "//",
            "%",
            "&",
            "|",
            "~",
            "<<",
            ">>",
            "..",
            "..",
            "==",
            "~=",
            "<",
            ">",
            "<=",
            ">=",
            "and",
            "or",
            "and",
            "or",
        )
        return s.e(d - 1) + " " + op + " " + s.e(d - 1)

    def place(s, d):
        x = s.r.random()
        if x < 0.5:
            return s.nm()
        if x < 0.6:
            return s.pick("G1", "G2")
        return s.pick(s.nm(), "t", "u") + s.pick(
            "." + s.fld(), "[" + s.key() + "]", "[" + s.e(d - 1) + "]"
        )

    def block(s, d, n):
        s.scopes.append([])
        o = []
        for _ in range(n):
            if s.budget < 0:
                break
            o.append(s.stat(d))
        if s.loop and s.r.random() < 0.1:
            o.append("break")
        s.scopes.pop()
        return s.pick(" ", "\n").join(o)

    def stat(s, d):
        s.budget -= 2
        x = s.r.random()
        if d <= 0:
            x = x * 0.5
        if x < 0.12:
            return "print(" + s.args(2) + ")"
        if x < 0.25:
            n = s.r.randint(1, 3)
            ps = ", ".join((s.place(d - 1) for _ in range(n)))
            es = ", ".join((s.e(d - 1) for _ in range(s.r.randint(1, 3))))
            return ps + " = " + es
        if x < 0.38:
            vs = [s.pick("a", "b", "c", "t", "u", "q", "w") for _ in range(s.r.randint(1, 3))]
            es = ", ".join((s.e(d - 1) for _ in range(s.r.randint(1, 3))))
            o = "local " + ", ".join(vs) + (" = " + es if s.r.random() < 0.9 else "")
            s.scopes[-1].extend(vs)
            return o + s.pick("", ";")
        if x < 0.5:
            c = s.call(d)
            return c if not c.startswith("(") else ";" + c
        if x < 0.56:
            return (
                "if "
                + s.e(d - 1)
                + " then "
                + s.block(d - 1, 2)
                + (
                    " elseif " + s.e(d - 1) + " then " + s.block(d - 1, 1)
                    if s.r.random() < 0.3
                    else ""
                )
                + (" else " + s.block(d - 1, 2) if s.r.random() < 0.5 else "")
                + " end"
            )
        if x < 0.62:
            s.loop += 1
            v = s.pick("i", "a", "b")
            s.scopes.append([v])
            b = s.block(d - 1, 2)
            s.scopes.pop()
            s.loop -= 1
            return (
                "for "
                + v
                + " = "
                + s.pick(
                    "1, 3",
                    "3, 1, -1",
                    "1, 5, 2",
                    s.whole() + ", " + s.whole() + ", " + s.whole()
                    if s.r.random() < 0.2
                    else "1, 2",
                    "9223372036854775806, 9223372036854775807",
                )
                + " do "
                + b
                + " end"
            )
        if x < 0.69:
            s.loop += 1
            vs = s.pick(["k", "v"], ["k"], ["a", "b"])
            s.scopes.append(list(vs))
            b = s.block(d - 1, 2)
            s.scopes.pop()
            s.loop -= 1
            return (
                "for "
                + ", ".join(vs)
                + " in "
                + s.pick(
                    "pairs(t)",
                    "pairs(u)",
                    "ipairs(t)",
                    "pairs(" + s.nm() + ")",
                    s.e(d - 1),
                    "part.go, p",
                    "next, t",
                )
                + " do "
                + b
                + " end"
            )
        if x < 0.73:
            s.loop += 1
            b = s.block(d - 1, 2)
            s.loop -= 1
            return "local w0 = 0 while w0 < 3 and " + s.e(1) + " do w0 = w0 + 1 " + b + " end"
        if x < 0.77:
            s.loop += 1
            s.scopes.append([])
            b = s.block(d - 1, 2)
            s.scopes.pop()
            s.loop -= 1
            return (
                "local r0 = 0 repeat local r1 = r0 r0 = r0 + 1 " + b + " until r1 > 2 or " + s.e(1)
            )
        if x < 0.8:
            return "do " + s.block(d - 1, 3) + " end"
        if x < 0.84 and s.fn < 35:
            return (
                s.pick(
                    "local function f",
                    "function f",
                    "function t.x",
                    "function t:y",
                    "function u.z",
                    "local function g",
                )
                + s.func(d)[8:]
                if s.budget > 0
                else "f = g"
            )
        if x < 0.9:
            return "print(pcall(" + s.func(d) + s.pick("", ", " + s.e(1)) + "))"
        if x < 0.94:
            return "p = part.new(" + s.pick("f", "g", s.func(d)) + ")"
        if x < 0.97:
            return (
                s.pick("a", "b", "t", "u")
                + ", "
                + s.pick("t", "u", "b", "c")
                + " = nil collect("
                + s.e(1)
                + ")"
            )
        return "print(part.go(p, " + s.e(1) + "))"

    def program(s):
        pre = [
            'local a, b, c = 1, "s", nil',
            "local t = {1, 2, x = 3}",
            "local m = " + s.meta(2),
            "local u = setmetatable({}, m)",
            "local f, g",
            "f = " + s.func(3),
            "g = " + s.func(3),
            "local p = part.new(f)",
        ]
        s.r.random()
        o = [x for x in pre if s.r.random() < 0.93]
        while s.budget > 0:
            st = s.stat(3)
            if s.r.random() < 0.5:
                s.fn += 1
                st = "print(pcall(function(...) " + st + " end))"
            o.append(st)
            if s.fn > 40:
                break
        if s.r.random() < 0.5:
            o.append("return " + s.args(2))
        return s.pick("\n", " ", "\n").join(o)


def main():
    seed = int(sys.argv[1])
    n = int(sys.argv[2])
    for i in range(n):
        r = random.Random(seed * 1000003 + i)
        t = G(r).program().encode("latin1")
        if len(t) > 6000:
            continue
        ch = []
        for _ in range(r.randint(1, 4)):
            ch.append(r.choice([1, 2, 3, 7, 20, 50]))
        ch += [3000] * r.choice([1, 1, 2])
        print(t.hex(), *ch)


main()
