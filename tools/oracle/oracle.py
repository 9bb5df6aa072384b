"""The document read a second time: a walker over trees that answers what a run is due.

It shares no design with TableTongue.java: it walks trees with Python's generators, so that each
`yield "step"` is a STEP and a part is a generator of its own. Use it as fuzz.sh does; what it
answers is one reading of the document, not the document.
"""
import sys, threading

sys.setrecursionlimit(200000)
M = (1 << 64) - 1


def wrap(x):
    x &= M
    return x - (1 << 64) if x >> 63 else x


WORDS = set(
    "and break do else elseif end false for function if in local nil not or repeat return then true until while".split()
)
SIGNS = sorted(
    "+ - * // % & | ~ << >> .. ... == ~= <= >= < > = # ( ) { } [ ] ; : , .".split(),
    key=lambda s: -len(s),
)
LET = set(b"abcdefghijklmnopqrstuvwxyzABCDEFGHIJKLMNOPQRSTUVWXYZ_")
DIG = set(b"0123456789")
HEX = set(b"0123456789abcdefABCDEF")


class Fault(Exception):
    def __init__(s, n, p):
        s.n = n
        s.p = p


class Tok:
    __slots__ = ("t", "v", "p", "e", "line", "n")

    def __repr__(s):
        return "%s:%r@%d" % (s.t, s.v, s.p)


def lex(text):
    """list of tokens, a bad one ends it; then eof"""
    toks = []
    i = 0
    n = len(text)
    while True:
        while i < n:
            if text[i] in (32, 9, 13, 10):
                i += 1
            elif text[i : i + 2] == b"--":
                j = text.find(b"\n", i)
                i = n if j < 0 else j
            else:
                break
        t = Tok()
        t.p = i if i < n else n
        t.line = 1 + text[: t.p].count(b"\n")
        t.v = None
        t.n = len(toks) + 1
        toks.append(t)
        if i >= n:
            t.t = "eof"
            return toks
        c = text[i]
        if c in LET:
            j = i
            while j < n and (text[j] in LET or text[j] in DIG):
                j += 1
            w = text[i:j].decode()
            if w in WORDS:
                t.t = w
            elif len(w) > 30:
                t.t = "bad"
                return toks
            else:
                t.t = "name"
                t.v = w.encode()
            i = j
        elif c in DIG:
            ok = True
            if text[i : i + 2] == b"0x":
                j = i + 2
                while j < n and text[j] in HEX:
                    j += 1
                k = j - i - 2
                ok = 1 <= k <= 16
                if ok:
                    v = wrap(int(text[i + 2 : j], 16))
            else:
                j = i
                while j < n and text[j] in DIG:
                    j += 1
                ok = j - i <= 19
                v = int(text[i:j])
                if v > 2**63 - 1:
                    ok = False
            if j < n and (text[j] in LET or text[j] in DIG):
                ok = False
            if not ok:
                t.t = "bad"
                return toks
            t.t = "whole"
            t.v = v
            i = j
        elif c in b"\"'":
            j = i + 1
            out = bytearray()
            ok = True
            while True:
                if j >= n or text[j] == 10:
                    ok = False
                    break
                if text[j] == c:
                    j += 1
                    break
                if text[j] != 92:
                    out.append(text[j])
                    j += 1
                    continue
                j += 1
                if j >= n:
                    ok = False
                    break
                d = text[j]
                if d == 110:
                    out.append(10)
                    j += 1
                elif d == 116:
                    out.append(9)
                    j += 1
                elif d in (92, 34, 39):
                    out.append(d)
                    j += 1
                elif d in DIG:
                    k = j
                    while k < n and k < j + 3 and (text[k] in DIG):
                        k += 1
                    x = int(text[j:k])
                    if x > 255:
                        ok = False
                        break
                    out.append(x)
                    j = k
                else:
                    ok = False
                    break
            if len(out) > 200:
                ok = False
            if not ok:
                t.t = "bad"
                return toks
            t.t = "string"
            t.v = bytes(out)
            i = j
        else:
            for s in SIGNS:
                if text[i : i + len(s)] == s.encode():
                    break
            else:
                t.t = "bad"
                return toks
            t.t = s
            i += len(s)
        t.e = i


class Fn:
    def __init__(s, num, line, parent):
        s.num = num
        s.line = line
        s.parent = parent
        s.nloc = 0
        s.caps = []
        s.capn = {}
        s.dots = False
        s.params = []
        s.body = None
        s.scope = []
        s.loops = 0


class Var:
    def __init__(s, name, fn):
        s.name = name
        s.fn = fn


PRI = {
    "or": 1,
    "and": 2,
    "<": 3,
    ">": 3,
    "<=": 3,
    ">=": 3,
    "~=": 3,
    "==": 3,
    "|": 4,
    "~": 5,
    "&": 6,
    "<<": 7,
    ">>": 7,
    "..": 8,
    "+": 9,
    "-": 9,
    "*": 10,
    "//": 10,
    "%": 10,
}
ESTART = {
    "nil",
    "false",
    "true",
    "whole",
    "string",
    "...",
    "function",
    "{",
    "name",
    "(",
    "not",
    "#",
    "-",
    "~",
}
SSTART = {";", "name", "(", "do", "while", "repeat", "if", "for", "function", "local", "break"}


class Parser:
    def __init__(s, text):
        s.toks = lex(text)
        s.i = 0
        s.fns = []
        s.fn = None
        s.t = s.toks[0]

    def fault(s, n):
        p = s.t.p
        if n == 2 and s.t.t == "bad":
            n = 1
        if n == 4 and s.t.n > 1500:
            n = 3
        raise Fault(n, p)

    def next(s):
        if s.t.t != "eof" and s.t.n > 1500:
            s.fault(3)
        s.i += 1
        s.t = s.toks[s.i]

    def want(s, t):
        if s.t.t != t:
            s.fault(2)
        r = s.t
        s.next()
        return r

    def parse(s):
        f = Fn(0, 0, None)
        f.dots = True
        s.fns.append(f)
        s.fn = f
        f.body = s.block(1)
        if s.t.t != "eof":
            s.fault(2)
        return s.fns

    def block(s, d):
        """statements at depth d; opens scope, caller closes"""
        out = []
        while s.t.t in SSTART:
            if d > 20:
                s.fault(3)
            if s.t.t == ";":
                s.next()
                continue
            out.append(s.stat(d))
        if s.t.t == "return":
            line = s.t.line
            s.next()
            row = s.row(d) if s.t.t in ESTART else []
            if s.t.t == ";":
                s.next()
            out.append(("return", row, line))
        return out

    def cblock(s, d):
        n = len(s.fn.scope)
        b = s.block(d)
        del s.fn.scope[n:]
        return b

    def newname(s):
        if s.t.t != "name":
            s.fault(2)
        if s.fn.nloc >= 50:
            s.fault(3)
        s.fn.nloc += 1
        v = Var(s.t.v, s.fn)
        s.next()
        return v

    def stat(s, d):
        k = s.t.t
        line = s.t.line
        if k == "do":
            s.next()
            b = s.cblock(d + 1)
            s.want("end")
            return ("do", b)
        if k == "while":
            s.next()
            e = s.expr(d + 1)
            s.want("do")
            s.fn.loops += 1
            b = s.cblock(d + 1)
            s.fn.loops -= 1
            s.want("end")
            return ("while", e, b)
        if k == "repeat":
            s.next()
            n = len(s.fn.scope)
            s.fn.loops += 1
            b = s.block(d + 1)
            s.fn.loops -= 1
            s.want("until")
            e = s.expr(d + 1)
            del s.fn.scope[n:]
            return ("repeat", b, e)
        if k == "if":
            s.next()
            arms = []
            e = s.expr(d + 1)
            s.want("then")
            arms.append((e, s.cblock(d + 1)))
            while s.t.t == "elseif":
                s.next()
                e = s.expr(d + 1)
                s.want("then")
                arms.append((e, s.cblock(d + 1)))
            els = None
            if s.t.t == "else":
                s.next()
                els = s.cblock(d + 1)
            s.want("end")
            return ("if", arms, els)
        if k == "for":
            s.next()
            v = s.newname()
            if s.t.t == "=":
                s.next()
                a = s.expr(d + 1)
                s.want(",")
                b = s.expr(d + 1)
                c = None
                if s.t.t == ",":
                    s.next()
                    c = s.expr(d + 1)
                s.want("do")
                n = len(s.fn.scope)
                s.fn.scope.append(v)
                s.fn.loops += 1
                bl = s.cblock(d + 1)
                s.fn.loops -= 1
                del s.fn.scope[n:]
                s.want("end")
                return ("fornum", v, a, b, c, bl, line)
            vs = [v]
            while s.t.t == ",":
                s.next()
                vs.append(s.newname())
            il = s.t.line
            s.want("in")
            row = s.row(d + 1)
            s.want("do")
            n = len(s.fn.scope)
            s.fn.scope.extend(vs)
            s.fn.loops += 1
            bl = s.cblock(d + 1)
            s.fn.loops -= 1
            del s.fn.scope[n:]
            s.want("end")
            return ("forin", vs, row, bl, il)
        if k == "function":
            s.next()
            if s.t.t != "name":
                s.fault(2)
            e = s.name()
            pl = e
            while s.t.t == ".":
                l = s.t.line
                s.next()
                nm = s.want("name").v
                pl = ("index", pl, ("const", nm), l)
            meth = False
            if s.t.t == ":":
                l = s.t.line
                s.next()
                nm = s.want("name").v
                pl = ("index", pl, ("const", nm), l)
                meth = True
            f = s.body(d, meth)
            return ("assign", [pl], [f], line)
        if k == "local":
            s.next()
            if s.t.t == "function":
                s.next()
                v = s.newname()
                s.fn.scope.append(v)
                f = s.body(d, False)
                return ("localfn", v, f)
            vs = [s.newname()]
            while s.t.t == ",":
                s.next()
                vs.append(s.newname())
            row = None
            l = s.t.line
            if s.t.t == "=":
                s.next()
                row = s.row(d + 1)
            s.fn.scope.extend(vs)
            return ("local", vs, row, l)
        if k == "break":
            if s.fn.loops == 0:
                s.fault(4)
            s.next()
            return ("break",)
        c = s.chain(d)
        if c[0] in ("call", "method"):
            return ("call", c)
        pls = [c]
        if s.t.t not in ("=", ",") or c[0] == "paren":
            s.fault(2)
        while s.t.t == ",":
            s.next()
            if s.t.t not in ("name", "("):
                s.fault(2)
            if len(pls) == 20:
                s.fault(3)
            c = s.chain(d)
            if c[0] in ("call", "method", "paren") or s.t.t not in ("=", ","):
                s.fault(2)
            pls.append(c)
        l = s.t.line
        s.want("=")
        return ("assign", pls, s.row(d + 1), l)

    def row(s, d):
        out = [s.expr(d)]
        while s.t.t == ",":
            s.next()
            if s.t.t in ESTART and len(out) == 15:
                s.fault(3)
            out.append(s.expr(d))
        return out

    def name(s):
        nm = s.t.v
        f = s.fn
        chain = []
        while f:
            for v in reversed(f.scope):
                if v.name == nm:
                    break
            else:
                chain.append(f)
                f = f.parent
                continue
            break
        if not f:
            s.next()
            return ("global", nm)
        for g in reversed(chain):
            if v not in g.caps:
                if len(g.caps) == 30:
                    s.fault(3)
                g.caps.append(v)
        s.next()
        return ("local", v)

    def chain(s, d):
        if s.t.t == "(":
            s.next()
            e = s.expr(d + 1)
            s.want(")")
            c = ("paren", e)
        elif s.t.t == "name":
            c = s.name()
        else:
            s.fault(2)
        while True:
            l = s.t.line
            k = s.t.t
            if k == ".":
                s.next()
                c = ("index", c, ("const", s.want("name").v), l)
            elif k == "[":
                s.next()
                e = s.expr(d + 1)
                s.want("]")
                c = ("index", c, e, l)
            elif k == ":":
                s.next()
                nm = s.want("name").v
                gl = s.t.line
                a = s.given(d)
                c = ("method", c, nm, a, l, gl)
            elif k in ("(", "{", "string"):
                a = s.given(d)
                c = ("call", c, a, l)
            else:
                return c

    def given(s, d):
        if s.t.t == "string":
            v = s.t.v
            s.next()
            return [("const", v)]
        if s.t.t == "{":
            return [s.table(d)]
        s.want("(")
        r = [] if s.t.t == ")" else s.row(d + 1)
        s.want(")")
        return r

    def table(s, d):
        s.want("{")
        fs = []
        while s.t.t != "}":
            if s.t.t != "[" and s.t.t not in ESTART:
                s.fault(2)
            if len(fs) == 30 or d + 1 > 20:
                s.fault(3)
            l = s.t.line
            if s.t.t == "[":
                s.next()
                k = s.expr(d + 2)
                s.want("]")
                s.want("=")
                fs.append(("kv", k, s.expr(d + 2), l))
            elif s.t.t == "name" and s.i + 1 < len(s.toks) and (s.toks[s.i + 1].t == "="):
                k = s.t.v
                s.next()
                s.next()
                fs.append(("kv", ("const", k), s.expr(d + 2), l))
            else:
                fs.append(("item", s.expr(d + 2)))
            if s.t.t in (",", ";"):
                s.next()
            elif s.t.t != "}":
                s.fault(2)
        s.next()
        return ("table", fs)

    def body(s, d, meth):
        if s.t.t != "(":
            s.fault(2)
        if len(s.fns) == 50:
            s.fault(3)
        f = Fn(len(s.fns), s.t.line, s.fn)
        s.fns.append(f)
        s.fn = f
        ps = []
        if meth:
            f.nloc += 1
            ps.append(Var(b"self", f))
        s.next()
        if s.t.t == "...":
            f.dots = True
            s.next()
        elif s.t.t == "name":
            ps.append(s.newname())
            while s.t.t == ",":
                s.next()
                if s.t.t == "...":
                    f.dots = True
                    s.next()
                    break
                ps.append(s.newname())
        s.want(")")
        f.params = ps
        f.scope = list(ps)
        f.body = s.block(d + 1)
        s.want("end")
        s.fn = f.parent
        return ("function", f)

    def expr(s, d, lim=0):
        if s.t.t not in ESTART:
            s.fault(2)
        if d > 20:
            s.fault(3)
        k = s.t.t
        l = s.t.line
        if k in ("not", "-", "#", "~"):
            s.next()
            e = ("un", k, s.expr(d + 1, 11), l)
        elif k in ("nil", "true", "false"):
            s.next()
            e = ("const", {"nil": None, "true": True, "false": False}[k])
        elif k in ("whole", "string"):
            e = ("const", s.t.v)
            s.next()
        elif k == "...":
            if not s.fn.dots:
                s.fault(4)
            s.next()
            e = ("dots",)
        elif k == "function":
            s.next()
            e = s.body(d, False)
        elif k == "{":
            e = s.table(d)
        else:
            e = s.chain(d)
        while PRI.get(s.t.t, 0) > lim:
            k = s.t.t
            l = s.t.line
            s.next()
            p = PRI[k]
            r = s.expr(d + 1, p - 1 if k == ".." else p)
            e = ("bin", k, e, r, l)
        return e


class Table:
    def __init__(s, num):
        s.num = num
        s.d = {}
        s.order = []
        s.meta = None
        s.marked = False
        s.gone = False


class Func:
    def __init__(s, num, fn, env):
        s.num = num
        s.fn = fn
        s.env = env
        s.gone = False


class Builtin:
    def __init__(s, id, name):
        s.id = id
        s.name = name


class Cell:
    __slots__ = ("v",)

    def __init__(s, v):
        s.v = v


class Frame:
    def __init__(s, kind):
        s.kind = kind
        s.func = None
        s.env = {}
        s.known = []
        s.dots = []
        s.temps = []
        s.acts = []


class Part:
    def __init__(s, num, f):
        s.num = num
        s.f = f
        s.state = 0
        s.frames = []
        s.gen = None
        s.gone = False
        s.trans = []


class LErr(Exception):
    def __init__(s, v):
        s.v = v


class NoRoom(Exception):
    pass


class Break(Exception):
    pass


class Ret(Exception):
    def __init__(s, v):
        s.v = v


def kind(v):
    if v is None:
        return 0
    if v is True or v is False:
        return 1
    if isinstance(v, int):
        return 2
    if isinstance(v, bytes):
        return 3
    if isinstance(v, Table):
        return 4
    if isinstance(v, (Func, Builtin)):
        return 5
    return 6


TN = ["nil", "boolean", "number", "string", "table", "function", "thread"]


def tn(v):
    return TN[kind(v)]


def same(a, b):
    k = kind(a)
    if k != kind(b):
        return False
    return a == b if k < 4 else a is b


def key(v):
    k = kind(v)
    return (k, v) if k < 4 else (k, id(v))


def true(v):
    return not (v is None or v is False)


def trunc(s):
    return s


EV = {
    "+": "add",
    "-": "sub",
    "*": "mul",
    "//": "idiv",
    "%": "mod",
    "&": "band",
    "|": "bor",
    "~": "bxor",
    "<<": "shl",
    ">>": "shr",
}


def shl(a, n):
    if n >= 64 or n <= -64:
        return 0
    if n >= 0:
        return wrap((a & M) << n)
    return wrap((a & M) >> -n)


class Run:
    def __init__(s, fns, textstrings):
        s.fns = fns
        s.text = set(textstrings)
        s.objs = []
        s.parts = 0
        s.places = 0
        s.made = {}
        s.mbytes = 0
        s.out = bytearray()
        s.outn = 0
        s.lastacts = 0
        s.marked = []
        s.gone = 0
        s.globals = Table(0)
        s.free = set()
        names = "print type tostring tonumber next pairs ipairs rawget rawset rawequal rawlen getmetatable setmetatable error pcall select collect".split()
        s.shelves = [s.newtable() for _ in range(3)]

        def put(t, k, v):
            s.free.add(k.encode())
            s.rawput(t, k.encode(), v)

        for n in names:
            put(s.globals, n, Builtin(n, n))
        for t, (sh, ns) in zip(
            s.shelves,
            [
                ("list", "insert remove concat pack unpack"),
                ("text", "sub byte char rep"),
                ("part", "new go stop state running"),
            ],
        ):
            put(s.globals, sh, t)
            for n in ns.split():
                put(t, n, Builtin(sh + "." + n, sh + "." + n))
        s.nextb = s.get(s.globals, b"next")
        s.ipairsb = Builtin("ipairs2", "ipairs")
        s.free.add(b"n")
        s.p0 = Part(0, None)
        s.p0.state = 2
        s.chainp = [s.p0]
        s.steps = 0
        s.status = 2
        s.results = []
        s.gen = s.top()
        s.pendstep = False

    def newobj(s, o):
        if len(s.objs) >= 2000:
            raise NoRoom()
        s.objs.append(o)
        o.num = len(s.objs)
        return o

    def newtable(s):
        if len(s.objs) >= 2000:
            raise NoRoom()
        return s.newobj(Table(0))

    def get(s, t, k):
        e = t.d.get(key(k)) if k is not None else None
        return e[1] if e else None

    def rawput(s, t, k, v):
        e = t.d.get(key(k))
        if e:
            e[1] = v
        elif v is not None:
            if s.places >= 3000:
                raise NoRoom()
            s.places += 1
            e = [k, v]
            t.d[key(k)] = e
            t.order.append(e)

    def length(s, t):
        n = 0
        while s.get(t, n + 1) is not None:
            n += 1
        return n

    def mk(s, b):
        if b in s.text or b in s.free or b in s.made:
            return b
        if len(s.made) >= 800 or s.mbytes + len(b) > 24000:
            raise NoRoom()
        s.made[b] = 1
        s.mbytes += len(b)
        return b

    def err(s, line, words):
        raise LErr(s.mk(b"%d: %s" % (line, words.encode() if isinstance(words, str) else words)))

    def event(s, v, e):
        if isinstance(v, Table) and v.meta is not None:
            return s.get(v.meta, b"__" + e.encode())
        return None

    def part(s):
        return s.chainp[-1]

    def fr(s):
        return s.part().frames[-1]

    def top(s):
        try:
            f = Func(0, s.fns[0], {})
            r = yield from s.entertext(f, [], 0)
            s.results = r
            s.status = 0
        except LErr as e:
            s.results = [e.v]
            s.status = 1
        except NoRoom:
            s.status = 3

    def run(s, n):
        if s.status != 2:
            return s.status
        left = n
        while True:
            if not s.pendstep:
                try:
                    next(s.gen)
                except StopIteration:
                    return s.status
                s.pendstep = True
            if left == 0:
                return 2
            left -= 1
            s.steps += 1
            s.pendstep = False

    def call(s, f, args, line):
        """generator: CALL f"""
        for i in range(20):
            if kind(f) == 5:
                return (yield from s.invoke(f, args, line))
            h = s.event(f, "call")
            if h is None:
                s.err(line, "call of " + tn(f))
            args = [f] + args
            f = h
        s.err(line, "loop")

    def depthcheck(s, line):
        if len(s.part().frames) >= 20:
            s.err(line, "stack overflow")

    def invoke(s, f, args, line):
        if isinstance(f, Func):
            s.depthcheck(line)
            return (yield from s.entertext(f, args, line))
        n = f.id
        if n == "pcall":
            s.depthcheck(line)
            p = s.part()
            d = len(p.frames)
            p.frames.append(Frame("pcall"))
            a = args if args else [None]
            args = None
            try:
                f0 = a[0]
                rest = a[1:]
                a = None
                r = yield from s.call(f0, rest, line)
                r = [True] + r
            except LErr as e:
                r = [False, e.v]
            del p.frames[d:]
            return r
        if n == "collect":
            s.depthcheck(line)
            args = None
            return (yield from s.collect(line))
        if n == "part.go":
            return (yield from s.go(args, line))
        if n == "part.stop":
            p = s.part()
            if p is s.p0 or any((x.kind == "collect" for x in p.frames)):
                s.err(line, "stop outside a part")
            return (yield ("stop", args))
        return s.builtin(n, f.name, args, line)

    def entertext(s, f, args, line):
        p = s.part()
        fr = Frame("text")
        fr.func = f
        d = len(p.frames)
        p.frames.append(fr)
        fn = f.fn
        fr.env = dict(f.env)
        for i, v in enumerate(fn.params):
            fr.env[v] = Cell(args[i] if i < len(args) else None)
            fr.known.append(v)
        if fn.dots:
            fr.dots = args[len(fn.params) :]
        args = None
        yield "step"
        try:
            yield from s.block(fn.body, fr)
            r = []
        except Ret as e:
            r = e.v
        del p.frames[d:]
        return r

    def go(s, args, line):
        p = args[0] if args else None
        if kind(p) != 6:
            s.err(line, "argument 1 of part.go")
        if p.state not in (0, 1):
            return [False, s.mk(b"dead part" if p.state == 4 else b"busy part")]
        if len(s.chainp) - 1 >= 10:
            s.err(line, "stack overflow")
        c = s.part()
        vals = args[1:]
        args = None
        new = p.state == 0
        c.state = 3
        p.state = 2
        s.chainp.append(p)
        if new:
            p.gen = s.call(p.f, vals, line)
            send = None
        else:
            send = vals
        while True:
            try:
                ev = p.gen.send(send)
                send = None
                if ev == "step":
                    yield "step"
                else:
                    r = [True] + ev[1]
                    p.state = 1
                    break
            except StopIteration as e:
                r = [True] + e.value
                p.state = 4
                break
            except LErr as e:
                r = [False, e.v]
                p.state = 4
                break
        s.chainp.pop()
        c.state = 2
        if p.state == 4:
            p.frames = []
        return r

    def block(s, b, fr):
        n = len(fr.known)
        for st in b:
            yield from s.stat(st, fr)
        del fr.known[n:]

    def declare(s, fr, v, val):
        fr.env[v] = Cell(val)
        fr.known.append(v)

    def stat(s, st, fr):
        k = st[0]
        yield "step"
        if k == "do":
            yield from s.block(st[1], fr)
        elif k == "while":
            n = len(fr.known)
            try:
                while True:
                    yield "step"
                    c = yield from s.ev(st[1], fr)
                    if not true(c):
                        break
                    c = None
                    yield from s.block(st[2], fr)
            except Break:
                del fr.known[n:]
        elif k == "repeat":
            n = len(fr.known)
            try:
                while True:
                    for x in st[1]:
                        yield from s.stat(x, fr)
                    yield "step"
                    c = yield from s.ev(st[2], fr)
                    del fr.known[n:]
                    if true(c):
                        break
            except Break:
                del fr.known[n:]
        elif k == "if":
            for e, b in st[1]:
                c = yield from s.ev(e, fr)
                if true(c):
                    c = None
                    yield from s.block(b, fr)
                    return
            if st[2] is not None:
                yield from s.block(st[2], fr)
        elif k == "fornum":
            _, v, a, b, c, bl, line = st
            a = yield from s.ev(a, fr)
            fr.temps.append(a)
            b = yield from s.ev(b, fr)
            fr.temps.append(b)
            c = (yield from s.ev(c, fr)) if c is not None else 1
            del fr.temps[-2:]
            if not all((kind(x) == 2 for x in (a, b, c))):
                s.err(line, "for")
            if c == 0:
                s.err(line, "for is zero")
            n = len(fr.known)
            try:
                while True:
                    yield "step"
                    if a > b if c > 0 else a < b:
                        break
                    s.declare(fr, v, a)
                    yield from s.block(bl, fr)
                    del fr.known[n:]
                    a += c
                    if a != wrap(a):
                        break
            except Break:
                del fr.known[n:]
        elif k == "forin":
            _, vs, row, bl, line = st
            r = yield from s.row(row, fr)
            if len(r) > 30:
                s.err(line, "too many values")
            r = (r + [None] * 3)[:3]
            n = len(fr.known)
            tl = len(fr.temps)
            fr.temps.extend(r)
            try:
                while True:
                    yield "step"
                    res = yield from s.call(
                        fr.temps[tl], [fr.temps[tl + 1], fr.temps[tl + 2]], line
                    )
                    res = (res + [None] * len(vs))[: len(vs)]
                    if res[0] is None:
                        break
                    fr.temps[tl + 2] = res[0]
                    for v, x in zip(vs, res):
                        s.declare(fr, v, x)
                    res = None
                    yield from s.block(bl, fr)
                    del fr.known[n:]
            except Break:
                del fr.known[n:]
            del fr.temps[tl:]
        elif k == "local":
            _, vs, row, line = st
            vals = []
            if row is not None:
                vals = yield from s.row(row, fr)
                if len(vals) > 30:
                    s.err(line, "too many values")
            for i, v in enumerate(vs):
                s.declare(fr, v, vals[i] if i < len(vals) else None)
        elif k == "localfn":
            s.declare(fr, st[1], None)
            f = yield from s.ev(st[2], fr)
            fr.env[st[1]].v = f
        elif k == "break":
            raise Break()
        elif k == "return":
            r = yield from s.row(st[1], fr)
            if len(r) > 30:
                s.err(st[2], "too many values")
            raise Ret(r)
        elif k == "call":
            yield from s.multi(st[1], fr)
        elif k == "assign":
            _, pls, row, line = st
            tl = len(fr.temps)
            for p in pls:
                if p[0] == "index":
                    t = yield from s.ev(p[1], fr)
                    fr.temps.append(t)
                    kk = yield from s.ev(p[2], fr)
                    fr.temps.append(kk)
                else:
                    fr.temps.extend([None, None])
            vals = yield from s.row(row, fr)
            if len(vals) > 30:
                s.err(line, "too many values")
            vals = (vals + [None] * len(pls))[: len(pls)]
            vl = len(fr.temps)
            fr.temps.extend(vals)
            vals = None
            for i in range(len(pls) - 1, -1, -1):
                p = pls[i]
                x = fr.temps.pop()
                if p[0] == "local":
                    fr.env[p[1]].v = x
                elif p[0] == "global":
                    s.rawput(s.globals, p[1], x)
                else:
                    t = fr.temps[tl + 2 * i]
                    kk = fr.temps[tl + 2 * i + 1]
                    fr.temps[tl + 2 * i] = fr.temps[tl + 2 * i + 1] = None
                    yield from s.write(t, kk, x, p[3])
            del fr.temps[tl:]
        else:
            assert 0, k

    def row(s, es, fr):
        tl = len(fr.temps)
        for i, e in enumerate(es):
            if i == len(es) - 1 and e[0] in ("call", "method", "dots"):
                r = yield from s.multi(e, fr)
                fr.temps.extend(r)
            else:
                v = yield from s.ev(e, fr)
                fr.temps.append(v)
        r = fr.temps[tl:]
        del fr.temps[tl:]
        return r

    def multi(s, e, fr):
        if e[0] == "dots":
            return list(fr.dots)
        if e[0] == "call":
            f = yield from s.ev(e[1], fr)
            fr.temps.append(f)
            a = yield from s.row(e[2], fr)
            fr.temps.pop()
            if len(a) > 30:
                s.err(e[3], "too many values")
            return (yield from s.call(f, a, e[3]))
        _, c, nm, args, l, gl = e
        v = yield from s.ev(c, fr)
        fr.temps.append(v)
        f = yield from s.read(v, nm, l)
        fr.temps.append(f)
        a = yield from s.row(args, fr)
        del fr.temps[-2:]
        a = [v] + a
        if len(a) > 30:
            s.err(gl, "too many values")
        return (yield from s.call(f, a, gl))

    def ev(s, e, fr):
        k = e[0]
        if k == "const":
            return e[1]
        if k == "local":
            return fr.env[e[1]].v
        if k == "global":
            return s.get(s.globals, e[1])
        if k == "paren":
            return (yield from s.ev(e[1], fr))
        if k == "dots":
            return fr.dots[0] if fr.dots else None
        if k in ("call", "method"):
            r = yield from s.multi(e, fr)
            return r[0] if r else None
        if k == "index":
            v = yield from s.ev(e[1], fr)
            fr.temps.append(v)
            kk = yield from s.ev(e[2], fr)
            fr.temps.pop()
            return (yield from s.read(v, kk, e[3]))
        if k == "function":
            f = e[1]
            if len(s.objs) >= 2000:
                raise NoRoom()
            return s.newobj(Func(0, f, {v: fr.env[v] for v in f.caps}))
        if k == "table":
            t = s.newtable()
            fr.temps.append(t)
            n = 0
            for i, f in enumerate(e[1]):
                if f[0] == "kv":
                    kk = yield from s.ev(f[1], fr)
                    fr.temps.append(kk)
                    v = yield from s.ev(f[2], fr)
                    fr.temps.pop()
                    if kk is None:
                        s.err(f[3], "index is nil")
                    s.rawput(t, kk, v)
                elif i == len(e[1]) - 1 and f[1][0] in ("call", "method", "dots"):
                    for v in (yield from s.multi(f[1], fr)):
                        n += 1
                        s.rawput(t, n, v)
                else:
                    v = yield from s.ev(f[1], fr)
                    n += 1
                    s.rawput(t, n, v)
            fr.temps.pop()
            return t
        if k == "un":
            v = yield from s.ev(e[2], fr)
            op = e[1]
            if op == "not":
                return not true(v)
            if op == "#":
                if kind(v) == 3:
                    return len(v)
                h = s.event(v, "len")
                if h is not None:
                    return s.one((yield from s.call(h, [v], e[3])))
                if kind(v) == 4:
                    return s.length(v)
                s.err(e[3], "length of " + tn(v))
            if kind(v) == 2:
                return wrap(-v if op == "-" else ~v)
            h = s.event(v, "unm" if op == "-" else "bnot")
            if h is None:
                s.err(e[3], "arithmetic on " + tn(v))
            return s.one((yield from s.call(h, [v, v], e[3])))
        _, op, l, r, line = e
        a = yield from s.ev(l, fr)
        if op == "and":
            if not true(a):
                return a
            a = None
            return (yield from s.ev(r, fr))
        if op == "or":
            if true(a):
                return a
            return (yield from s.ev(r, fr))
        fr.temps.append(a)
        b = yield from s.ev(r, fr)
        fr.temps.pop()
        return (yield from s.binary(op, a, b, line))

    def one(s, r):
        return r[0] if r else None

    def binary(s, op, a, b, line):
        if op in EV:
            if kind(a) == 2 and kind(b) == 2:
                if op in ("//", "%") and b == 0:
                    s.err(line, "division by zero")
                return wrap(
                    {
                        "+": lambda: a + b,
                        "-": lambda: a - b,
                        "*": lambda: a * b,
                        "//": lambda: a // b,
                        "%": lambda: a % b,
                        "&": lambda: a & b,
                        "|": lambda: a | b,
                        "~": lambda: a ^ b,
                        "<<": lambda: shl(a, b),
                        ">>": lambda: shl(a, -b),
                    }[op]()
                )
            h = s.event(a, EV[op])
            if h is None:
                h = s.event(b, EV[op])
            if h is None:
                s.err(line, "arithmetic on " + tn(a if kind(a) != 2 else b))
            return s.one((yield from s.call(h, [a, b], line)))
        if op == "..":
            if kind(a) in (2, 3) and kind(b) in (2, 3):
                r = s.tx(a) + s.tx(b)
                if len(r) > 1000:
                    s.err(line, "too long")
                return s.mk(r)
            h = s.event(a, "concat")
            if h is None:
                h = s.event(b, "concat")
            if h is None:
                s.err(line, "concatenation of " + tn(a if kind(a) not in (2, 3) else b))
            return s.one((yield from s.call(h, [a, b], line)))
        if op in ("==", "~="):
            r = same(a, b)
            if not r and kind(a) == 4 and (kind(b) == 4):
                h = s.event(a, "eq")
                if h is None:
                    h = s.event(b, "eq")
                if h is not None:
                    r = true(s.one((yield from s.call(h, [a, b], line))))
            return r if op == "==" else not r
        if op in (">", ">="):
            a, b = (b, a)
            op = {">": "<", ">=": "<="}[op]
        if kind(a) == kind(b) and kind(a) in (2, 3):
            return a < b if op == "<" else a <= b
        ev = "lt" if op == "<" else "le"
        h = s.event(a, ev)
        if h is None:
            h = s.event(b, ev)
        if h is None:
            s.err(line, "comparison of %s with %s" % (tn(a), tn(b)))
        return true(s.one((yield from s.call(h, [a, b], line))))

    def read(s, v, k, line):
        for i in range(20):
            if kind(v) == 4:
                x = s.get(v, k)
                if x is not None:
                    return x
            h = s.event(v, "index")
            if h is None:
                if kind(v) == 4:
                    return None
                s.err(line, "index of " + tn(v))
            if kind(h) == 5:
                return s.one((yield from s.call(h, [v, k], line)))
            v = h
        s.err(line, "loop")

    def write(s, v, k, x, line):
        for i in range(20):
            h = s.event(v, "newindex")
            if kind(v) == 4 and (h is None or s.get(v, k) is not None):
                if k is None:
                    s.err(line, "index is nil")
                s.rawput(v, k, x)
                return
            if h is None:
                s.err(line, "index of " + tn(v))
            if kind(h) == 5:
                yield from s.call(h, [v, k, x], line)
                return
            v = h
        s.err(line, "loop")

    def tx(s, v):
        k = kind(v)
        if k == 0:
            return b"nil"
        if k == 1:
            return b"true" if v else b"false"
        if k == 2:
            return b"%d" % v
        if k == 3:
            return v
        return (
            TN[k].encode() + b": " + (v.name.encode() if isinstance(v, Builtin) else b"%d" % v.num)
        )

    def builtin(s, n, name, a, line):
        def A(i):
            return a[i - 1] if i <= len(a) else None

        def bad(i):
            s.err(line, "argument %d of %s" % (i, name))

        if n == "print":
            b = b" ".join((s.tx(v) for v in a)) + b"\n"
            s.outn += len(b)
            s.out += b
            return []
        if n == "type":
            return [s.mk(tn(A(1)).encode())]
        if n == "tostring":
            return [A(1) if kind(A(1)) == 3 else s.mk(s.tx(A(1)))]
        if n == "tonumber":
            v = A(1)
            if kind(v) == 2:
                return [v]
            if kind(v) == 3:
                d = v[1:] if v[:1] == b"-" else v
                if 1 <= len(d) <= 18 and all((c in DIG for c in d)):
                    return [int(v)]
            return [None]
        if n == "next":
            if kind(A(1)) != 4:
                bad(1)
            t = A(1)
            i = 0
            if A(2) is not None:
                e = t.d.get(key(A(2)))
                if e is None:
                    bad(2)
                i = [id(x) for x in t.order].index(id(e)) + 1
            for e in t.order[i:]:
                if e[1] is not None:
                    return [e[0], e[1]]
            return [None]
        if n == "pairs":
            if kind(A(1)) != 4:
                bad(1)
            return [s.nextb, A(1), None]
        if n == "ipairs":
            if kind(A(1)) != 4:
                bad(1)
            return [s.ipairsb, A(1), 0]
        if n == "ipairs2":
            if kind(A(1)) != 4:
                bad(1)
            if kind(A(2)) != 2:
                bad(2)
            i = wrap(A(2) + 1)
            v = s.get(A(1), i)
            return [i, v] if v is not None else [None]
        if n == "rawget":
            if kind(A(1)) != 4:
                bad(1)
            return [s.get(A(1), A(2))]
        if n == "rawset":
            if kind(A(1)) != 4:
                bad(1)
            if A(2) is None:
                bad(2)
            s.rawput(A(1), A(2), A(3))
            return [A(1)]
        if n == "rawequal":
            return [same(A(1), A(2))]
        if n == "rawlen":
            if kind(A(1)) == 3:
                return [len(A(1))]
            if kind(A(1)) != 4:
                bad(1)
            return [s.length(A(1))]
        if n == "getmetatable":
            return [A(1).meta if kind(A(1)) == 4 else None]
        if n == "setmetatable":
            if kind(A(1)) != 4:
                bad(1)
            if kind(A(2)) not in (0, 4):
                bad(2)
            t = A(1)
            t.meta = A(2)
            if t.meta is not None and s.get(t.meta, b"__gc") is not None and (not t.marked):
                t.marked = True
                s.marked.append(t)
            return [t]
        if n == "error":
            raise LErr(A(1))
        if n == "select":
            v = A(1)
            if v == b"#":
                return [len(a) - 1]
            if kind(v) != 2 or v == 0:
                bad(1)
            if v > 0:
                return a[v:]
            if -v > len(a) - 1:
                bad(1)
            return a[len(a) + v :]
        if n.startswith("list.") and n != "list.pack" and (kind(A(1)) != 4):
            bad(1)
        if n == "list.insert":
            t = A(1)
            L = s.length(t)
            if len(a) == 2:
                s.rawput(t, L + 1, A(2))
                return []
            if len(a) != 3 or kind(A(2)) != 2 or (not 1 <= A(2) <= L + 1):
                bad(2)
            for j in range(L, A(2) - 1, -1):
                s.rawput(t, j + 1, s.get(t, j))
            s.rawput(t, A(2), A(3))
            return []
        if n == "list.remove":
            t = A(1)
            L = s.length(t)
            i = A(2)
            if i is None:
                if L == 0:
                    return [None]
                i = L
            elif kind(i) != 2 or not 1 <= i <= L:
                bad(2)
            v = s.get(t, i)
            for j in range(i, L):
                s.rawput(t, j, s.get(t, j + 1))
            s.rawput(t, L, None)
            return [v]
        if n == "list.concat":
            t = A(1)
            L = s.length(t)
            vs = [s.get(t, i + 1) for i in range(L)]
            if any((kind(v) not in (2, 3) for v in vs)):
                bad(1)
            if kind(A(2)) not in (0, 3):
                bad(2)
            r = (A(2) or b"").join((s.tx(v) for v in vs))
            if len(r) > 1000:
                s.err(line, "too long")
            return [s.mk(r)]
        if n == "list.pack":
            t = s.newtable()
            for i, v in enumerate(a):
                s.rawput(t, i + 1, v)
            s.rawput(t, b"n", len(a))
            return [t]
        if n == "list.unpack":
            L = s.length(A(1))
            if L > 30:
                s.err(line, "too many values")
            return [s.get(A(1), i + 1) for i in range(L)]
        if n == "text.sub":
            if kind(A(1)) != 3:
                bad(1)
            if kind(A(2)) != 2:
                bad(2)
            if kind(A(3)) not in (0, 2):
                bad(3)
            b = A(1)
            L = len(b)
            i = A(2)
            j = -1 if A(3) is None else A(3)
            if i < 0:
                i += L + 1
            if j < 0:
                j += L + 1
            return [s.mk(bytes((b[q - 1] for q in range(max(i, 1), min(j, L) + 1))))]
        if n == "text.byte":
            if kind(A(1)) != 3:
                bad(1)
            if kind(A(2)) not in (0, 2):
                bad(2)
            i = 1 if A(2) is None else A(2)
            if i < 0:
                i += len(A(1)) + 1
            return [A(1)[i - 1]] if 1 <= i <= len(A(1)) else []
        if n == "text.char":
            for i, v in enumerate(a):
                if kind(v) != 2 or not 0 <= v <= 255:
                    bad(i + 1)
            return [s.mk(bytes(a))]
        if n == "text.rep":
            if kind(A(1)) != 3:
                bad(1)
            if kind(A(2)) != 2:
                bad(2)
            if len(A(1)) * max(A(2), 0) > 1000:
                s.err(line, "too long")
            return [s.mk(A(1) * A(2) if A(1) else b"")]
        if n == "part.new":
            if kind(A(1)) != 5:
                bad(1)
            if s.parts >= 25 or len(s.objs) >= 2000:
                raise NoRoom()
            s.parts += 1
            return [s.newobj(Part(0, A(1)))]
        if n == "part.state":
            if kind(A(1)) != 6:
                bad(1)
            return [s.mk(["new", "stopped", "running", "normal", "dead"][A(1).state].encode())]
        if n == "part.running":
            return [s.part()]
        assert 0, n

    def isobj(s, v):
        return isinstance(v, (Table, Func)) or (isinstance(v, Part) and v is not s.p0)

    def mode(s, t):
        m = s.get(t.meta, b"__mode") if t.meta else None
        return (b"k" in m, b"v" in m) if kind(m) == 3 else (False, False)

    def mark(s, roots, reached):
        work = list(roots)
        while True:
            while work:
                v = work.pop()
                if v is s.p0 or v is s.globals:
                    pass
                elif not s.isobj(v):
                    continue
                if id(v) in reached:
                    continue
                reached[id(v)] = v
                if isinstance(v, Table):
                    work.append(v.meta)
                    k, w = s.mode(v)
                    for e in v.order:
                        if e[1] is None:
                            continue
                        if not k:
                            work.append(e[0])
                        if not k and (not w):
                            work.append(e[1])
                elif isinstance(v, Func):
                    work.extend((c.v for c in v.env.values()))
                else:
                    if v.state == 4:
                        continue
                    if v.state == 0:
                        work.append(v.f)
                    for f in v.frames:
                        work.append(f.func)
                        work.extend((f.env[x].v for x in f.known))
                        work.extend(f.dots)
                        work.extend(f.temps)
                        work.extend(f.acts)
            more = False
            for v in list(reached.values()):
                if isinstance(v, Table):
                    k, w = s.mode(v)
                    if k and (not w):
                        for e in v.order:
                            if (
                                e[1] is not None
                                and (not s.isobj(e[0]) or id(e[0]) in reached)
                                and s.isobj(e[1])
                                and (id(e[1]) not in reached)
                            ):
                                work.append(e[1])
                                more = True
            if not more:
                break

    def collect(s, line):
        reached = {}
        s.mark([s.globals] + s.shelves + [p for p in s.chainp], reached)
        lost = lambda v: s.isobj(v) and id(v) not in reached
        for t in s.objs:
            if isinstance(t, Table) and (not t.gone) and s.mode(t)[1]:
                for e in t.order:
                    if e[1] is not None and lost(e[1]):
                        e[1] = None
        acts = [t for t in reversed(s.marked) if lost(t)]
        for t in acts:
            t.marked = False
        s.marked = [t for t in s.marked if t.marked]
        s.mark(acts, reached)
        for t in s.objs:
            if isinstance(t, Table) and (not t.gone):
                k, v = s.mode(t)
                for e in t.order:
                    if e[1] is not None and (k and lost(e[0]) or (v and lost(e[1]))):
                        e[1] = None
        n = 0
        for o in s.objs:
            if not o.gone and id(o) not in reached:
                o.gone = True
                n += 1
                s.gone += 1
                if isinstance(o, Table):
                    s.places -= len(o.order)
        for t in [s.globals] + s.objs:
            if isinstance(t, Table) and (not t.gone):
                keep = [e for e in t.order if e[1] is not None]
                s.places -= len(t.order) - len(keep)
                t.order = keep
                t.d = {key(e[0]): e for e in keep}
        p = s.part()
        fr = Frame("collect")
        d = len(p.frames)
        p.frames.append(fr)
        fr.acts = acts
        while fr.acts:
            t = fr.acts.pop(0)
            h = s.event(t, "gc")
            if kind(h) == 5:
                s.lastacts += 1
                a = [t]
                t = None
                try:
                    yield from s.call(h, a, line)
                except LErr:
                    pass
                del p.frames[d + 1 :]
        del p.frames[d:]
        return [n]

    def told(s, v):
        k = kind(v)
        if k == 0:
            return 0
        if k == 1:
            return int(v)
        if k == 2:
            return v
        if k == 3:
            return len(v)
        return -1 if isinstance(v, Builtin) else v.num

    def dump(s):
        o = [
            "run %d" % s.status,
            "steps %d" % s.steps,
            "out %d %s" % (s.outn, bytes(s.out[:3000]).hex()),
            "count %d %d %d %d %d %d"
            % (len(s.objs), len(s.objs) - s.gone, s.places, len(s.made), s.lastacts, len(s.marked)),
        ]
        rs = s.results if s.status in (0, 1) else []
        o.append(
            "results %d" % len(rs)
            + "".join(
                (
                    " %d:%d%s" % (kind(v), s.told(v), ":" + v.hex() if kind(v) == 3 else "")
                    for v in rs
                )
            )
        )
        for x in s.objs:
            if x.gone:
                o.append("o %d 0 0" % x.num)
                continue
            if isinstance(x, Table):
                o.append(
                    "o %d 4 %d" % (x.num, s.length(x))
                    + "".join(
                        (
                            " %d:%d=%d:%d"
                            % (
                                (kind(e[0]), s.told(e[0]), kind(e[1]), s.told(e[1]))
                                if e[1] is not None
                                else (0, 0, 0, 0)
                            )
                            for e in x.order
                        )
                    )
                )
            elif isinstance(x, Func):
                o.append("o %d 5 %d" % (x.num, x.fn.num))
            else:
                o.append("o %d 6 %d" % (x.num, x.state))
        return o


def case(text, chunks):
    try:
        p = Parser(text)
        fns = p.parse()
    except Fault as f:
        return ["compile %d fault %d %d" % (-f.n, f.p, 1 + text[: f.p].count(b"\n"))]
    out = ["compile %d fault -1 -1" % len(fns)]
    for f in fns:
        out.append("f %d %d %d %d" % (f.nloc, len(f.caps), int(f.dots), f.line))
    ts = [t.v for t in p.toks if t.t in ("name", "string")]
    r = Run(fns, ts)
    for c in chunks:
        r.run(c)
        out += r.dump()
    return out


if __name__ == "__main__":

    def main():
        for line in open(sys.argv[1]):
            a = line.split()
            text = bytes.fromhex(a[0]) if a[0] != "-" else b""
            print("CASE")
            for l in case(text, [int(x) for x in a[1:]]):
                print(l)

    threading.stack_size(1 << 29)
    t = threading.Thread(target=main)
    t.start()
    t.join()
