import java.math.BigInteger;
import java.util.ArrayList;
import java.util.Arrays;
import java.util.HashMap;
import java.util.HashSet;
import java.util.List;
import java.util.Map;
import java.util.Set;

/**
 * The document once more, in another way: recursion, exceptions, the machine's doubles, texts as
 * Strings, no limits of LANGUAGE.md. AgainstModel compares it with PensionHouse call by call.
 */
final class Model {
    static final int NONE = -1, UNKNOWN = -2, OUTSIDE = -3, STATE = -4, ROOM = -5;
    static final Set<String> WORDS = new HashSet<>(Arrays.asList(("best born ceil day else floor from if join last"
            + " len max min near of real root rule sum then to try whole with zeros").split(" ")));
    static final Map<String, Integer> ARITY = new HashMap<>();

    static {
        for (String s : "born ceil floor len near real root whole zeros".split(" ")) ARITY.put(s, 1);
        for (String s : "best join last max min".split(" ")) ARITY.put(s, 2);
        ARITY.put("with", 3);
    }

    // ---- values: Long, Double, Row, Pers

    record Pers(int number) { }

    record Row(int sort, List<Object> items) { }

    static int sortOf(Object v) {
        if (v instanceof Long) return 0;
        if (v instanceof Double) return 1;
        if (v instanceof Pers) return 8;
        return ((Row) v).sort;
    }

    static boolean alike(Object a, Object b) {
        return a.equals(b); // Double.equals is by canonical bits; records by components
    }

    record Fact(int member, String name, int from, int to, Object value, int told, int[] voided) { }

    record Token(String kind, String text, int place) { } // kind: name word number sign bad end

    static final class Fault extends Exception {
        final int kind;
        final int place;

        Fault(int kind, int place) {
            super(null, null, false, false);
            this.kind = kind;
            this.place = place;
        }
    }

    static final class Failure extends Exception {
        final int kind;
        final int line;

        Failure(int kind, int line) {
            super(null, null, false, false);
            this.kind = kind;
            this.line = line;
        }
    }

    static final class Node {
        String op;
        Object value;
        Node target;
        int number;
        List<Node> inner = new ArrayList<>();
    }

    static final class Text {
        List<String> names = new ArrayList<>();
        List<Node> roots = new ArrayList<>();
    }

    // ---- tokens, all at once

    static List<Token> tokens(String s) {
        List<Token> list = new ArrayList<>();
        int i = 0;
        while (true) {
            while (i < s.length() && (s.charAt(i) == 32 || s.charAt(i) == 10)) i++;
            if (i == s.length()) {
                list.add(new Token("end", "", i));
                return list;
            }
            String rest = s.substring(i);
            java.util.regex.Matcher m = java.util.regex.Pattern
                    .compile("^(?:([a-z][a-z0-9]*)|([0-9]+(?:\\.[0-9]+)?)|(<=|!=|[;=<+\\-*/%()\\[\\],]))").matcher(rest);
            if (!m.find()) {
                list.add(new Token("bad", "", i));
                return list;
            }
            String t = m.group();
            String kind;
            if (m.group(1) != null) kind = WORDS.contains(t) ? "word" : t.length() <= 8 ? "name" : "bad";
            else if (m.group(2) != null) kind = t.matches("[0-9]{1,15}|[0-9]{1,9}\\.[0-9]{1,6}") ? "number" : "bad";
            else kind = "sign";
            list.add(new Token(kind, t, i));
            if (kind.equals("bad")) return list;
            i += t.length();
        }
    }

    static String loneName(String s) {
        List<Token> list = tokens(s);
        return list.size() == 2 && list.get(0).kind.equals("name") && list.get(1).kind.equals("end") ? list.get(0).text : null;
    }

    // ---- the parser

    static final class Reader {
        final List<Token> list;
        int at = 0;
        int parts = 0;
        final Text text = new Text();
        final List<Map.Entry<String, Node>> scopes = new ArrayList<>();

        Reader(String s) {
            list = tokens(s);
        }

        Token now() {
            return list.get(at);
        }

        boolean is(String t) {
            return (now().kind.equals("sign") || now().kind.equals("word")) && now().text.equals(t);
        }

        Fault wrong() {
            return new Fault(now().kind.equals("bad") ? 1 : 2, now().place);
        }

        void take(String t) throws Fault {
            if (!is(t)) throw wrong();
            at++;
        }

        void countPart() throws Fault {
            if (++parts > 300) throw new Fault(4, now().place);
        }

        Text read() throws Fault {
            while (!now().kind.equals("end")) {
                if (!is("rule")) throw wrong();
                if (text.names.size() == 24) throw new Fault(4, now().place);
                at++;
                if (!now().kind.equals("name")) throw wrong();
                String name = now().text;
                if (text.names.contains(name)) throw new Fault(3, now().place);
                at++;
                take("=");
                Node root = e(1);
                take(";");
                text.names.add(name);
                text.roots.add(root);
            }
            return text;
        }

        boolean startsU() {
            Token t = now();
            return t.kind.equals("name") || t.kind.equals("number") || is("(") || is("-") || is("day") || is("sum")
                    || t.kind.equals("word") && ARITY.containsKey(t.text);
        }

        Node e(int level) throws Fault { // level: the E or U itself counted
            if (!startsU() && !is("if") && !is("try")) throw wrong();
            if (level > 20) throw new Fault(4, now().place);
            Node n = new Node();
            if (is("if")) {
                countPart();
                at++;
                n.op = "if";
                n.inner.add(e(level + 1));
                take("then");
                n.inner.add(e(level + 1));
                take("else");
                n.inner.add(e(level + 1));
                return n;
            }
            if (is("try")) {
                countPart();
                at++;
                n.op = "try";
                n.inner.add(e(level + 1));
                take("else");
                n.inner.add(e(level + 1));
                return n;
            }
            Node left = a(level);
            if (is("<") || is("<=") || is("=") || is("!=")) {
                countPart();
                n.op = now().text;
                at++;
                n.inner.add(left);
                n.inner.add(a(level));
                return n;
            }
            return left;
        }

        Node a(int level) throws Fault {
            Node left = m(level);
            while (is("+") || is("-")) {
                countPart();
                Node n = new Node();
                n.op = now().text;
                at++;
                n.inner.add(left);
                n.inner.add(m(level));
                left = n;
            }
            return left;
        }

        Node m(int level) throws Fault {
            Node left = u(level + 1);
            while (is("*") || is("/") || is("%")) {
                countPart();
                Node n = new Node();
                n.op = now().text;
                at++;
                n.inner.add(left);
                n.inner.add(u(level + 1));
                left = n;
            }
            return left;
        }

        Node u(int level) throws Fault {
            if (!startsU()) throw wrong();
            if (level > 20) throw new Fault(4, now().place);
            if (is("-")) {
                countPart();
                at++;
                Node n = new Node();
                n.op = "neg";
                n.inner.add(u(level + 1));
                return n;
            }
            Node left = p(level);
            while (is("[")) {
                countPart();
                at++;
                Node n = new Node();
                n.op = "[";
                n.inner.add(left);
                n.inner.add(e(level + 1));
                take("]");
                left = n;
            }
            return left;
        }

        Node p(int level) throws Fault {
            Token t = now();
            if (is("(")) {
                at++;
                Node n = e(level + 1);
                take(")");
                return n;
            }
            countPart();
            at++;
            Node n = new Node();
            if (t.kind.equals("number")) {
                n.op = "number";
                n.value = t.text.contains(".") ? (Object) Double.valueOf(t.text) : (Object) Long.valueOf(t.text);
            } else if (t.kind.equals("name")) {
                for (int i = scopes.size() - 1; i >= 0; i--) {
                    if (scopes.get(i).getKey().equals(t.text)) {
                        n.op = "counter";
                        n.target = scopes.get(i).getValue();
                        return n;
                    }
                }
                n.op = text.names.contains(t.text) ? "rule" : "fact";
                n.number = text.names.indexOf(t.text);
                n.value = t.text;
            } else if (t.text.equals("day")) {
                n.op = "day";
            } else if (t.text.equals("sum")) {
                n.op = "sum";
                if (!now().kind.equals("name")) throw wrong();
                String name = now().text;
                at++;
                take("from");
                n.inner.add(e(level + 1));
                take("to");
                n.inner.add(e(level + 1));
                take("of");
                scopes.add(Map.entry(name, n));
                n.inner.add(u(level + 1));
                scopes.remove(scopes.size() - 1);
            } else {
                n.op = t.text;
                take("(");
                for (int i = 0; i < ARITY.get(t.text); i++) {
                    if (i > 0) take(",");
                    n.inner.add(e(level + 1));
                }
                take(")");
            }
            return n;
        }
    }

    // ---- cases

    final class Case {
        Text text;
        int member;
        int day;
        int asOf;
        int work = 0;
        int asked = 0;
        int tried = 0;
        int kind = 0;
        int line = NONE;
        Object value;
        final Map<Integer, Object> done = new HashMap<>();
        final List<Integer> steps = new ArrayList<>();
        final Map<Node, Long> counters = new HashMap<>();

        Case(Text text, int member, int day, int asOf, String rule) {
            this.text = text;
            this.member = member;
            this.day = day;
            this.asOf = asOf;
            if (text == null || !text.names.contains(rule)) {
                kind = 1;
                return;
            }
            try {
                value = rule(text.names.indexOf(rule));
            } catch (Failure f) {
                kind = f.kind;
                line = f.line;
            }
        }

        Object rule(int r) throws Failure {
            if (!done.containsKey(r)) {
                Object result;
                try {
                    result = work(text.roots.get(r), r);
                } catch (Failure f) {
                    result = f;
                }
                done.put(r, result);
                steps.add(r);
            }
            if (done.get(r) instanceof Failure) throw (Failure) done.get(r);
            return done.get(r);
        }

        void pay(int w, int line) throws Failure {
            if (work + w > 400) throw new Failure(7, line);
            work += w;
        }

        Object work(Node n, int line) throws Failure {
            switch (n.op) {
                case "try": pay(150, line); break;
                case "zeros": case "last": case "join": case "with": pay(25, line); break;
                default: pay(1, line);
            }
            switch (n.op) {
                case "number": return n.value;
                case "day": return (long) day;
                case "counter": return counters.get(n.target);
                case "rule": return rule(n.number);
                case "fact": {
                    asked++;
                    int f = latest(member, (String) n.value, day, asOf);
                    if (f == NONE) throw new Failure(1, line);
                    return facts.get(f).value;
                }
                case "if": {
                    Object c = work(n.inner.get(0), line);
                    if (!(c instanceof Long)) throw new Failure(2, line);
                    return work(n.inner.get((Long) c != 0 ? 1 : 2), line);
                }
                case "try":
                    try {
                        return work(n.inner.get(0), line);
                    } catch (Failure f) {
                        if (f.kind == 7) throw f;
                        tried++;
                        return work(n.inner.get(1), line);
                    }
                case "sum": {
                    Object a = work(n.inner.get(0), line);
                    Object b = work(n.inner.get(1), line);
                    if (!(a instanceof Long) || !(b instanceof Long)) throw new Failure(2, line);
                    Object sum = 0L;
                    for (BigInteger i = BigInteger.valueOf((Long) a); i.compareTo(BigInteger.valueOf((Long) b)) <= 0;
                            i = i.add(BigInteger.ONE)) {
                        pay(1, line);
                        counters.put(n, i.longValueExact());
                        sum = binary("+", sum, work(n.inner.get(2), line), line);
                    }
                    return sum;
                }
                default: {
                    Object[] v = new Object[n.inner.size()];
                    for (int i = 0; i < v.length; i++) v[i] = work(n.inner.get(i), line);
                    return apply(n.op, v, line);
                }
            }
        }

        boolean num(Object o) {
            return o instanceof Long || o instanceof Double;
        }

        double dbl(Object o) {
            return o instanceof Long ? (double) (Long) o : (Double) o;
        }

        Object whole(BigInteger i, int line) throws Failure {
            if (i.bitLength() > 63) throw new Failure(6, line);
            return i.longValueExact();
        }

        Object binary(String op, Object x, Object y, int line) throws Failure {
            if (!num(x) || !num(y)) throw new Failure(2, line);
            if (x instanceof Long && y instanceof Long) {
                long a = (Long) x;
                long b = (Long) y;
                BigInteger p = BigInteger.valueOf(a);
                BigInteger q = BigInteger.valueOf(b);
                switch (op) {
                    case "+": return whole(p.add(q), line);
                    case "-": return whole(p.subtract(q), line);
                    case "*": return whole(p.multiply(q), line);
                    case "/": if (b == 0) throw new Failure(6, line); return a / b;
                    case "%": if (b == 0) throw new Failure(6, line); return a % b;
                    case "<": return a < b ? 1L : 0L;
                    case "<=": return a <= b ? 1L : 0L;
                    case "=": return a == b ? 1L : 0L;
                    case "!=": return a != b ? 1L : 0L;
                    case "min": return Math.min(a, b);
                    default: return Math.max(a, b);
                }
            }
            double a = dbl(x);
            double b = dbl(y);
            switch (op) {
                case "+": return a + b;
                case "-": return a - b;
                case "*": return a * b;
                case "/": return a / b;
                case "%": return a % b;
                case "<": return a < b ? 1L : 0L;
                case "<=": return a <= b ? 1L : 0L;
                case "=": return a == b ? 1L : 0L;
                case "!=": return a != b ? 1L : 0L;
                case "min": return Math.min(a, b);
                default: return Math.max(a, b);
            }
        }

        void need(boolean ok, int kind, int line) throws Failure {
            if (!ok) throw new Failure(kind, line);
        }

        Object apply(String op, Object[] v, int line) throws Failure {
            Row r = v[0] instanceof Row ? (Row) v[0] : null;
            switch (op) {
                case "neg":
                    need(num(v[0]), 2, line);
                    return v[0] instanceof Long ? whole(BigInteger.valueOf((Long) v[0]).negate(), line) : (Object) (-(Double) v[0]);
                case "[": {
                    need(r != null && v[1] instanceof Long, 2, line);
                    long i = (Long) v[1];
                    need(i >= 0 && i < r.items.size(), 3, line);
                    Object o = r.items.get((int) i);
                    need(o != null, 1, line);
                    return o;
                }
                case "born":
                    need(v[0] instanceof Pers, 2, line);
                    return (long) births.get(((Pers) v[0]).number);
                case "len":
                    need(r != null, 2, line);
                    return (long) r.items.size();
                case "whole":
                    need(num(v[0]), 2, line);
                    return v[0] instanceof Long ? v[0] : (Object) (long) (double) (Double) v[0];
                case "real": need(num(v[0]), 2, line); return dbl(v[0]);
                case "floor": need(num(v[0]), 2, line); return Math.floor(dbl(v[0]));
                case "ceil": need(num(v[0]), 2, line); return Math.ceil(dbl(v[0]));
                case "near": need(num(v[0]), 2, line); return Math.rint(dbl(v[0]));
                case "root": need(num(v[0]), 2, line); return Math.sqrt(dbl(v[0]));
                case "zeros": {
                    need(v[0] instanceof Long, 2, line);
                    long n = (Long) v[0];
                    need(n >= 0 && n <= 12, 4, line);
                    List<Object> items = new ArrayList<>();
                    for (int i = 0; i < n; i++) items.add(0L);
                    return new Row(2, items);
                }
                case "last": {
                    need(r != null && v[1] instanceof Long, 2, line);
                    long n = (Long) v[1];
                    need(n >= 0, 4, line);
                    need(n <= r.items.size(), 3, line);
                    return new Row(r.sort, new ArrayList<>(r.items.subList(r.items.size() - (int) n, r.items.size())));
                }
                case "join": {
                    need(r != null && v[1] instanceof Row, 2, line);
                    Row t = (Row) v[1];
                    need(r.items.size() + t.items.size() <= 12, 4, line);
                    need(r.sort == t.sort || r.sort >= 5 && t.sort >= 5, 5, line);
                    List<Object> items = new ArrayList<>(r.items);
                    for (Object o : t.items) {
                        need(r.sort < 5 || belongs(r.sort, o), 5, line);
                        items.add(o);
                    }
                    return new Row(r.sort, items);
                }
                case "with": {
                    need(r != null && v[1] instanceof Long, 2, line);
                    need(r.sort >= 5 ? v[2] instanceof Pers : r.sort == 4 ? num(v[2]) : v[2] instanceof Long, 2, line);
                    long i = (Long) v[1];
                    need(i >= 0 && i < r.items.size(), 3, line);
                    need(r.sort < 5 || belongs(r.sort, v[2]), 5, line);
                    List<Object> items = new ArrayList<>(r.items);
                    items.set((int) i, r.sort == 2 ? (Object) (long) (int) (long) (Long) v[2] : r.sort == 4 ? (Object) dbl(v[2]) : v[2]);
                    return new Row(r.sort, items);
                }
                case "best": {
                    need(r != null && r.sort <= 4 && v[1] instanceof Long, 2, line);
                    long n = (Long) v[1];
                    need(n >= 0, 4, line);
                    need(n <= r.items.size(), 3, line);
                    Object sum = r.sort == 4 ? (Object) 0.0 : (Object) 0L;
                    if (r.sort == 4) {
                        double[] d = new double[r.items.size()];
                        for (int i = 0; i < d.length; i++) d[i] = (Double) r.items.get(i);
                        Arrays.sort(d);
                        for (int i = 0; i < n; i++) sum = (Double) sum + d[d.length - 1 - i];
                    } else {
                        long[] d = new long[r.items.size()];
                        for (int i = 0; i < d.length; i++) d[i] = (Long) r.items.get(i);
                        Arrays.sort(d);
                        for (int i = 0; i < n; i++) sum = binary("+", sum, d[d.length - 1 - i], line);
                    }
                    return sum;
                }
                default:
                    return binary(op, v[0], v[1], line);
            }
        }
    }

    boolean belongs(int sort, Object p) {
        return p == null || sort == 5 || children.get(((Pers) p).number) == (sort == 6);
    }

    // ---- the house

    static final class Award {
        int member;
        int scheme;
        int first;
        List<int[]> deductions = new ArrayList<>();
    }

    static final class Payment {
        int award;
        int month;
        long due;
        long behind;
        long gross;
        long net;
        boolean back;
        boolean unclear;
        long[] taken = new long[6];
    }

    StringBuilder tape = new StringBuilder();
    int now = 0;
    List<Boolean> children = new ArrayList<>();
    List<Integer> births = new ArrayList<>();
    Object desk = 0L;
    List<Fact> facts = new ArrayList<>();
    List<java.util.TreeMap<Integer, Text>> schemes = new ArrayList<>();
    int fault = 0;
    Case shown = null;
    List<Award> awards = new ArrayList<>();
    List<Payment> payments = new ArrayList<>();
    int share = 50;
    int lastRun = -1;
    List<Integer> toCome = new ArrayList<>();

    Model() {
        for (int i = 0; i < 4; i++) schemes.add(new java.util.TreeMap<>());
    }

    int feed(long w, int n) {
        if (n < 1 || n > 8) return OUTSIDE;
        if (tape.length() + n > 1600) return ROOM;
        for (int i = n - 1; i >= 0; i--) tape.append((char) (w >>> 8 * i & 255));
        return tape.length();
    }

    int cut(int n) {
        if (n < 0 || n > tape.length()) return OUTSIDE;
        int gone = tape.length() - n;
        tape.setLength(n);
        return gone;
    }

    int clock(int day) {
        if (day < now || day > 389) return OUTSIDE;
        now = day;
        return 1;
    }

    int person(boolean child, int birth) {
        if (birth < -40000 || birth > 389) return OUTSIDE;
        if (births.size() == 16) return ROOM;
        children.add(child);
        births.add(birth);
        return births.size() - 1;
    }

    int desk(int sort, int n) {
        if (sort < 0 || sort > 7 || n < 0 || n > (sort < 2 ? 0 : 12)) return OUTSIDE;
        if (sort == 0) desk = 0L;
        else if (sort == 1) desk = 0.0;
        else {
            List<Object> items = new ArrayList<>();
            for (int i = 0; i < n; i++) items.add(sort >= 5 ? null : sort == 4 ? (Object) 0.0 : (Object) 0L);
            desk = new Row(sort, items);
        }
        return n;
    }

    int write(int i, long bits) {
        int sort = sortOf(desk);
        if (i == NONE) {
            if (sort > 1) return STATE;
            desk = sort == 0 ? (Object) bits : (Object) Double.longBitsToDouble(bits);
            return 1;
        }
        if (sort < 2 || sort > 4) return STATE;
        List<Object> items = ((Row) desk).items;
        if (i < 0 || i >= items.size()) return OUTSIDE;
        items = new ArrayList<>(items);
        items.set(i, sort == 2 ? (Object) (long) (int) bits : sort == 3 ? (Object) bits : (Object) Double.longBitsToDouble(bits));
        desk = new Row(sort, items);
        return 1;
    }

    int seat(int i, int person) {
        if (person != NONE && (person < 0 || person >= births.size())) return UNKNOWN;
        int sort = sortOf(desk);
        if (sort < 5 || sort > 7) return STATE;
        List<Object> items = new ArrayList<>(((Row) desk).items);
        if (i < 0 || i >= items.size()) return OUTSIDE;
        Pers p = person == NONE ? null : new Pers(person);
        if (!belongs(sort, p)) return STATE;
        items.set(i, p);
        desk = new Row(sort, items);
        return 1;
    }

    int sort() {
        return sortOf(desk);
    }

    int length() {
        return desk instanceof Row ? ((Row) desk).items.size() : 0;
    }

    long bits(Object o) {
        if (o == null) return -1;
        if (o instanceof Long) return (Long) o;
        if (o instanceof Double) return Double.doubleToLongBits((Double) o);
        return ((Pers) o).number;
    }

    long read(int i) {
        if (desk instanceof Row) {
            List<Object> items = ((Row) desk).items;
            return i < 0 || i >= items.size() ? 0 : bits(items.get(i));
        }
        return i == NONE ? bits(desk) : 0;
    }

    String useTape() {
        String s = tape.toString();
        tape.setLength(0);
        return s;
    }

    static boolean isDay(int d) {
        return d >= 0 && d <= 389;
    }

    int fact(int member, int from, int to) {
        String name = loneName(useTape());
        if (member < 0 || member > 9) return UNKNOWN;
        if (!isDay(from) || !isDay(to) || to < from) return OUTSIDE;
        if (name == null || desk instanceof Pers) return STATE;
        if (facts.size() == 200) return ROOM;
        facts.add(new Fact(member, name, from, to, desk, now, new int[] {Integer.MAX_VALUE}));
        return facts.size() - 1;
    }

    int annul(int fact) {
        if (fact < 0 || fact >= facts.size()) return UNKNOWN;
        if (facts.get(fact).voided[0] != Integer.MAX_VALUE) return STATE;
        facts.get(fact).voided[0] = now;
        return 1;
    }

    int latest(int member, String name, int day, int asOf) {
        int best = NONE;
        for (int i = 0; i < facts.size(); i++) {
            Fact f = facts.get(i);
            if (f.member == member && f.name.equals(name) && f.told <= asOf && f.voided[0] > asOf && f.from <= day && day <= f.to) best = i;
        }
        return best;
    }

    int known(int member, int day, int asOf) {
        String name = loneName(useTape());
        if (member < 0 || member > 9) return UNKNOWN;
        if (!isDay(day) || asOf < 0 || asOf > now) return OUTSIDE;
        if (name == null) return STATE;
        int f = latest(member, name, day, asOf);
        if (f != NONE) desk = facts.get(f).value;
        return f;
    }

    int edition(int scheme, int first) {
        String s = useTape();
        if (scheme < 0 || scheme > 3) return UNKNOWN;
        if (!isDay(first)) return OUTSIDE;
        if (schemes.get(scheme).size() == 8 && !schemes.get(scheme).containsKey(first)) return ROOM;
        try {
            fault = 0;
            Text t = new Reader(s).read();
            schemes.get(scheme).put(first, t);
            return t.names.size();
        } catch (Fault f) {
            fault = f.kind;
            return -10 - f.place;
        }
    }

    int fault() {
        return fault;
    }

    int inForce(int scheme, int day) {
        if (scheme < 0 || scheme > 3) return UNKNOWN;
        if (!isDay(day)) return OUTSIDE;
        Integer k = schemes.get(scheme).floorKey(day);
        return k == null ? NONE : k;
    }

    Text force(int scheme, int day) {
        Map.Entry<Integer, Text> e = schemes.get(scheme).floorEntry(day);
        return e == null ? null : e.getValue();
    }

    int figure(int member, int scheme, int day, int asOf) {
        String name = loneName(useTape());
        if (member < 0 || member > 9 || scheme < 0 || scheme > 3) return UNKNOWN;
        if (!isDay(day) || asOf < 0 || asOf > now) return OUTSIDE;
        Text t = force(scheme, day);
        if (t == null || name == null || !t.names.contains(name)) return STATE;
        shown = new Case(t, member, day, asOf, name);
        if (shown.kind == 0) desk = shown.value;
        return shown.kind;
    }

    int told(int what) {
        if (what < 0 || what > 4) return OUTSIDE;
        if (shown == null) return what == 0 ? NONE : 0;
        return new int[] {shown.line, shown.work, shown.steps.size(), shown.asked, shown.tried}[what];
    }

    int step(int k) {
        if (shown == null || k < 0 || k >= shown.steps.size()) return UNKNOWN;
        int r = shown.steps.get(k);
        Object o = shown.done.get(r);
        if (o instanceof Failure) return 100 * r + ((Failure) o).kind;
        desk = o;
        return 100 * r;
    }

    int trial(int scheme, int day, int asOf) {
        String s = useTape();
        if (scheme < 0 || scheme > 3) return UNKNOWN;
        if (!isDay(day) || asOf < 0 || asOf > now) return OUTSIDE;
        Text t;
        try {
            fault = 0;
            t = new Reader(s).read();
        } catch (Fault f) {
            fault = f.kind;
            return -10 - f.place;
        }
        int bits = 0;
        for (int m = 0; m < 10; m++) {
            Case a = new Case(t, m, day, asOf, "due");
            Case b = new Case(force(scheme, day), m, day, asOf, "due");
            if (a.kind != b.kind || a.kind == 0 && !alike(a.value, b.value)) bits |= 1 << m;
        }
        return bits;
    }

    int award(int member, int scheme, int month) {
        if (member < 0 || member > 9 || scheme < 0 || scheme > 3) return UNKNOWN;
        if (month < 0 || month > 12) return OUTSIDE;
        for (Award a : awards) if (a.member == member && a.scheme == scheme) return STATE;
        if (awards.size() == 6) return ROOM;
        Award a = new Award();
        a.member = member;
        a.scheme = scheme;
        a.first = month;
        awards.add(a);
        return awards.size() - 1;
    }

    long dueOf(Award a, int month, int asOf) {
        Case c = new Case(force(a.scheme, 30 * month), a.member, 30 * month, asOf, "due");
        return c.kind != 0 || !(c.value instanceof Long) ? NONE : Math.max(0, Math.min(1000000000L, (Long) c.value));
    }

    int due(int award, int month, int asOf) {
        if (award < 0 || award >= awards.size()) return UNKNOWN;
        if (month < 0 || month > 12 || asOf < 0 || asOf > now) return OUTSIDE;
        return (int) dueOf(awards.get(award), month, asOf);
    }

    int deduct(int award, int cents, int rank) {
        if (award < 0 || award >= awards.size()) return UNKNOWN;
        if (cents < 1 || cents > 1000000 || rank < 0 || rank > 9) return OUTSIDE;
        if (awards.get(award).deductions.size() == 6) return ROOM;
        awards.get(award).deductions.add(new int[] {cents, rank, awards.get(award).deductions.size()});
        return awards.get(award).deductions.size();
    }

    int share(int percent) {
        if (percent < 0 || percent > 100) return OUTSIDE;
        int was = share;
        share = percent;
        return was;
    }

    int run(int month) {
        if (month < 0 || month > 12) return OUTSIDE;
        if (!toCome.isEmpty() || month <= lastRun || 30 * month > now) return STATE;
        List<Integer> list = new ArrayList<>();
        for (int i = 0; i < awards.size(); i++) if (awards.get(i).first <= month) list.add(i);
        if (payments.size() + list.size() > 200) return ROOM;
        lastRun = month;
        toCome = list;
        return list.size();
    }

    long owed(int award, int to) {
        long sum = 0;
        for (int m = awards.get(award).first; m <= to; m++) sum += Math.max(0, dueOf(awards.get(award), m, now));
        for (Payment p : payments) if (p.award == award && !p.back) sum -= p.gross;
        return sum;
    }

    int advance(int n) {
        if (n < 1 || n > 6) return OUTSIDE;
        if (toCome.isEmpty()) return STATE;
        int paid = 0;
        for (; paid < n && !toCome.isEmpty(); paid++) {
            Payment p = new Payment();
            p.award = toCome.remove(0);
            p.month = lastRun;
            long d = dueOf(awards.get(p.award), lastRun, now);
            p.unclear = d == NONE;
            p.due = Math.max(0, d);
            p.behind = owed(p.award, lastRun - 1);
            p.gross = p.behind >= 0 ? p.due + p.behind : p.due - Math.min(-p.behind, p.due * share / 100);
            p.net = p.gross;
            List<int[]> sorted = new ArrayList<>(awards.get(p.award).deductions);
            sorted.sort((x, y) -> Integer.compare(x[1], y[1]));
            for (int[] d2 : sorted) {
                p.taken[d2[2]] = Math.min(p.net, d2[0]);
                p.net -= p.taken[d2[2]];
            }
            payments.add(p);
        }
        return paid;
    }

    long payment(int k, int what) {
        if (k < 0 || k >= payments.size() || what < 0 || what > 7) return 0;
        Payment p = payments.get(k);
        return new long[] {p.award, p.month, p.due, p.behind, p.gross, p.net, p.back ? 1 : 0, p.unclear ? 1 : 0}[what];
    }

    int taken(int k, int i) {
        if (k < 0 || k >= payments.size()) return UNKNOWN;
        if (i < 0 || i > 5) return OUTSIDE;
        return (int) payments.get(k).taken[i];
    }

    int returned(int k) {
        if (k < 0 || k >= payments.size()) return UNKNOWN;
        if (payments.get(k).back) return STATE;
        payments.get(k).back = true;
        return 1;
    }

    long balance(int award, int month) {
        if (award < 0 || award >= awards.size() || month < 0 || month > 12) return 0;
        return owed(award, month);
    }

    int count(int what) {
        if (what < 0 || what > 6) return OUTSIDE;
        return new int[] {births.size(), facts.size(), awards.size(), payments.size(), toCome.size(), tape.length(), now}[what];
    }
}
