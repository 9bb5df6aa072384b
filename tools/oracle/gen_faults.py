"""Texts at the limits and broken texts, for the faults: gen_faults.py SEED NUMBER."""
import os, random, sys, re

TOK = re.compile(
    "--[^\\n]*|[A-Za-z_][A-Za-z0-9_]*|0x[0-9A-Fa-f]+|\\d+|'(?:\\\\.|[^'\\\\\\n])*'|\\\"(?:\\\\.|[^\\\"\\\\\\n])*\\\"|\\.\\.\\.|\\.\\.|==|~=|<=|>=|<<|>>|//|[-+*%&|~<>=#(){}\\[\\];:,.]|\\s+"
)
PIECES = "and break do else elseif end false for function if in local nil not or repeat return then true until while a b c x 1 0x1F 'q' + - * // % & | ~ << >> .. ... == ~= <= >= < > = # ( ) { } [ ] ; : , . @ $ / ! 12a 0x 99999999999999999999 'unended".split() + [
    '"a\\x"',
    "--r\n",
    "\n",
    "\\",
    '"\\256"',
    "\x80",
]


def limits(r):
    k = r.randint(0, 17)
    n = r.randint(-1, 1)
    if k == 0:
        return "return " + r.choice(["not ", "- ", "#", "~"]) * (20 + n) + "x"
    if k == 1:
        return "return " + "(" * (20 + n) + "x" + ")" * (20 + n)
    if k == 2:
        return (
            "do " * (20 + n)
            + r.choice([";", "break", "x()", "return 1", "local a"])
            + " end" * (20 + n)
        )
    if k == 3:
        return "return " + "1 .. " * (20 + n) + "1"
    if k == 4:
        return "return " + "1 + " * 100 + "1"
    if k == 5:
        return "f(" + ", ".join(["1"] * (15 + n)) + ")"
    if k == 6:
        return (
            "return {"
            + ", ".join((r.choice(["1", "a=1", "[1]=2"]) for _ in range(30 + n)))
            + r.choice(["", ","])
            + "}"
        )
    if k == 7:
        return ", ".join(("a%d" % i for i in range(20 + n))) + " = 1"
    if k == 8:
        return " ".join(("local a%d" % i for i in range(50 + n)))
    if k == 9:
        return "function f(" + ", ".join(("a%d" % i for i in range(50 + n))) + ") end"
    if k == 10:
        return "function f:g(" + ", ".join(("a%d" % i for i in range(49 + n))) + ") end"
    if k == 11:
        return (
            " ".join(("local a%d" % i for i in range(31)))
            + " function f() return function() "
            + " ".join(("g(a%d)" % i for i in range(30 + n)))
            + " end end"
        )
    if k == 12:
        return "x=1 " * (500 + n) + r.choice([" ", "x", "@", "break", "...", "x=1"])
    if k == 13:
        return "function f() end " * (49 + n)
    if k == 14:
        return "return " + "{" * 10 + r.choice(["", "1", "a=1", "[1]=2", "{", "{}", "a"]) + "}" * 10
    if k == 15:
        return (
            "return "
            + "{{" * r.randint(4, 5)
            + "(" * r.randint(0, 3)
            + r.choice(
                [
                    "x",
                    "{x}",
                    "{a=x}",
                    "{[x]=1}",
                    "{f{x}}",
                    "f(x)",
                    "a[x]",
                    "function() end",
                    "function() x() end",
                    "function() return 1 end",
                ]
            )
        )
    if k == 16:
        return "do " * r.randint(15, 19) + r.choice(
            [
                "while x do x() end",
                "repeat x() until y",
                "for i=1,2 do x() end",
                "if a then b() elseif c then d() else e() end",
                "local function f() x() end",
                "function f() x() end",
                "a[b[c[d]]]=1",
                "local x = function() return function() return y end end",
                "f{g{h{1}}}",
                "return function() return 1 end",
            ]
        )
    return "x = " + r.choice(
        [
            "'" + "a" * (200 + n) + "'",
            '"' + "\\065" * (200 + n) + '"',
            "a" * (30 + n),
            "1" * (19 + n),
            "9" * (19 + n),
            "0x" + "f" * (16 + n),
            "9223372036854775807",
            "9223372036854775808",
            "00000000000000000001",
            "0000000000000000000",
        ]
    )


def main():
    seed = int(sys.argv[1])
    n = int(sys.argv[2])
    src = (
        open(os.path.join(os.path.dirname(os.path.abspath(__file__)), "gen_acts.py"))
        .read()
        .rsplit("main()", 1)[0]
    )
    m1 = {}
    exec(src, m1)
    for i in range(n):
        r = random.Random(seed * 1000003 + i)
        if r.random() < 0.5:
            t = limits(r)
        else:
            g = m1["G"](r)
            g.budget = r.randint(5, 60)
            t = g.program()
        for _ in range(r.choice([0, 0, 1, 1, 2, 3])):
            toks = TOK.findall(t)
            if not toks:
                break
            j = r.randrange(len(toks))
            if len(toks) > 200 and r.random() < 0.6:
                j = len(toks) - 1 - r.randrange(5)
            x = r.random()
            if x < 0.35:
                del toks[j]
            elif x < 0.7:
                toks.insert(j, r.choice(PIECES) + r.choice([" ", ""]))
            elif x < 0.9:
                toks[j] = r.choice(PIECES)
            else:
                toks = toks[:j]
            t = "".join(toks)
        t = t.encode("latin1")
        if len(t) > 6000:
            continue
        print(t.hex() or "-", 3, 200)


main()
