import java.util.Random;

/** Random runs of calls, each answer compared with that of Model. Arguments: how many runs, the first seed. */
public final class AgainstModel {
    static final String[] NAMES = {"row", "kin", "kids", "wives", "reals", "longs", "pay", "rate", "x", "n", "due", "base", "lost"};
    static final double[] REALS = {0.0, -0.0, 1, -1, 0.5, -0.5, 1.5, 2.5, -2.5, 0.1, 1e-9, Double.NaN, Double.POSITIVE_INFINITY,
        Double.NEGATIVE_INFINITY, Double.MIN_VALUE, -Double.MIN_VALUE, Double.MAX_VALUE, Double.MIN_NORMAL, 9007199254740993.0,
        9.223372036854775807e18, -9.3e18, 4503599627370496.5, 4503599627370497.5, 1e308, 3.7, 1e19, 2.2250738585072011e-308};
    static final long[] WHOLES = {0, 1, -1, 2, 3, 5, 7, 11, 12, 13, 30, 100, 4000, -17, Long.MIN_VALUE, Long.MAX_VALUE,
        Long.MAX_VALUE - 2, Long.MIN_VALUE + 1, 1L << 31, (1L << 31) - 1, -(1L << 31) - 1, (1L << 53) + 1, 3037000500L, 1L << 62,
        999999999999999L, 1000000000L, 1000000001L};

    /** The numbers of call() that make a life of awards and runs. */
    static final int[] PAYING = {2, 2, 2, 3, 8, 11, 26, 26, 27, 28, 29, 30, 31, 32, 32, 33, 34, 34, 34, 35, 35, 35, 37, 38};

    final Random random;
    final PensionHouse house = new PensionHouse();
    final Model model = new Model();
    final StringBuilder log = new StringBuilder();
    boolean ok = true;

    AgainstModel(long seed) {
        random = new Random(seed);
    }

    public static void main(String[] args) {
        int runs = args.length > 0 ? Integer.parseInt(args[0]) : 4000;
        long first = args.length > 1 ? Long.parseLong(args[1]) : 1;
        int wrong = 0;
        for (long seed = first; seed < first + runs && wrong < 3; seed++) {
            AgainstModel run = new AgainstModel(seed);
            run.go();
            if (!run.ok) {
                wrong++;
                System.out.println("seed " + seed + ":\n" + run.log);
            }
        }
        System.out.println(runs + " runs beside the model, " + wrong + " wrong");
        if (wrong > 0) {
            System.exit(1);
        }
    }

    void same(String call, long got, long want) {
        if (log.length() > 6000) {
            log.delete(0, 3000);
        }
        log.append(call).append(" -> ").append(got).append('\n');
        if (got != want && ok) {
            ok = false;
            log.append("   model: ").append(want).append('\n');
        }
    }

    int below(int n) {
        return random.nextInt(n);
    }

    boolean rarely() {
        return below(25) == 0;
    }

    int number(int most) {
        return rarely() ? (random.nextBoolean() ? -1 - below(3) : most + 1 + below(3)) : below(most + 1);
    }

    int day() {
        return rarely() ? new int[] {-1, 390, 0, 389, Integer.MIN_VALUE, Integer.MAX_VALUE}[below(6)] : below(390);
    }

    int asOf() {
        return rarely() ? day() : below(3) == 0 ? below(model.now + 1) : model.now;
    }

    int member() {
        return rarely() ? number(9) : below(3) == 0 ? below(10) : below(2);
    }

    int scheme() {
        return rarely() ? number(3) : below(2);
    }

    String name() {
        return NAMES[below(NAMES.length)];
    }

    void feed(String text) {
        for (int at = 0; at < text.length(); at += 8) {
            int n = Math.min(8, text.length() - at);
            long w = random.nextLong();
            for (int i = 0; i < n; i++) {
                w = w << 8 | text.charAt(at + i) & 255;
            }
            same("feed " + text.substring(at, at + n), house.feed(w, n), model.feed(w, n));
        }
    }

    void feedName(String name) {
        String text = name;
        if (rarely()) {
            text = new String[] {"", " ", "day", "toolong99", "a1", "A", "9a", name + "," , name + " " + name, name + "\n"}[below(10)];
        }
        feed((below(8) == 0 ? " " : "") + text + (below(8) == 0 ? " \n" : ""));
    }

    long wholeBits() {
        return below(4) == 0 ? WHOLES[below(WHOLES.length)] : below(10) == 0 ? random.nextLong() : below(60) - 20;
    }

    long realBits() {
        if (below(12) == 0) {
            return random.nextLong();
        }
        if (below(10) == 0) {
            return 0x7FF0000000000000L | random.nextLong();
        }
        return Double.doubleToRawLongBits(below(2) == 0 ? REALS[below(REALS.length)] : random.nextGaussian() * Math.pow(10, below(12) - 4));
    }

    void fillDesk(int sort, int n) {
        same("desk " + sort + "," + n, house.desk(sort, n), model.desk(sort, n));
        if (sort < 2) {
            put(-1, sort == 0 ? wholeBits() : realBits());
        }
        for (int i = 0; i < n; i++) {
            if (sort >= 5) {
                int p = below(6) == 0 ? -1 : number(Math.max(0, model.births.size() - 1));
                same("seat " + i + "," + p, house.seat(i, p), model.seat(i, p));
            } else {
                put(i, sort == 4 ? realBits() : wholeBits());
            }
        }
    }

    void put(int i, long bits) {
        same("write " + i + "," + bits, house.write(i, bits), model.write(i, bits));
    }

    void makeFact() {
        makeFact(below(NAMES.length), member(), below(3) == 0 ? day() : 0, below(3) == 0 ? day() : 389);
    }

    void makeFact(int which, int m, int from, int to) {
        int sort = which == 0 ? 2 : which == 1 ? 5 : which == 2 ? 6 : which == 3 ? 7 : which == 4 ? 4 : which == 5 ? 3 : which == 7 ? 1 : 0;
        if (below(12) == 0) {
            sort = below(8);
        }
        fillDesk(sort, sort < 2 ? 0 : below(3) == 0 ? below(13) : 2 + below(4));
        lookAtDesk();
        feedName(NAMES[which]);
        same("fact " + m + "," + from + "," + to, house.fact(m, from, to), model.fact(m, from, to));
    }

    void lookAtDesk() {
        same("sort", house.sort(), model.sort());
        same("length", house.length(), model.length());
        for (int i = -2; i <= model.length(); i++) {
            same("read " + i, house.read(i), model.read(i));
        }
    }

    // ---- texts

    String number() {
        switch (below(8)) {
            case 0: return String.valueOf(below(1000));
            case 1: return below(100) + "." + below(1000000);
            case 2: return below(1000000000) + "." + below(10);
            case 3: return String.valueOf(Math.abs(random.nextLong()) % 1000000000000000L);
            case 4: return "0.5";
            default: return String.valueOf(below(6));
        }
    }

    String expression(int depth) {
        if (depth <= 0) {
            return below(3) == 0 ? number() : below(6) == 0 ? "day" : name();
        }
        switch (below(12)) {
            case 0: return "if " + expression(depth - 1) + " then " + expression(depth - 1) + " else " + expression(depth - 1);
            case 1: return "try " + expression(depth - 1) + " else " + expression(depth - 1);
            case 2: return chain(depth, " < ; <= ; = ; != ".split(";"), below(2));
            default: return chain(depth, " + ; - ;+;-;*; / ; % ".split(";"), below(4));
        }
    }

    String chain(int depth, String[] signs, int more) {
        StringBuilder b = new StringBuilder(unit(depth));
        for (int i = 0; i < more; i++) {
            b.append(signs[below(signs.length)]).append(unit(depth));
        }
        return b.toString();
    }

    String rowText(int depth) {
        switch (below(10)) {
            case 0: return "zeros(" + (below(3) == 0 ? expression(depth - 2) : String.valueOf(below(14))) + ")";
            case 1: return "join(" + rowText(depth - 1) + "," + rowText(depth - 1) + ")";
            case 2: return "last(" + rowText(depth - 1) + "," + small(depth) + ")";
            case 3: return "with(" + rowText(depth - 1) + "," + small(depth) + "," + (below(2) == 0 ? expression(depth - 2) : kinText() + "[" + below(3) + "]") + ")";
            default: return NAMES[below(6)];
        }
    }

    String kinText() {
        return NAMES[1 + below(3)];
    }

    String small(int depth) {
        return below(4) == 0 ? expression(depth - 2) : below(6) == 0 ? "-1" : String.valueOf(below(5));
    }

    String unit(int depth) {
        if (depth <= 0) {
            return expression(0);
        }
        switch (below(20)) {
            case 0: return "-" + unit(depth - 1);
            case 1: return "(" + expression(depth - 1) + ")";
            case 2: case 3: return rowText(depth) + "[" + small(depth) + "]";
            case 4: return "sum " + name() + " from " + small(depth) + " to " + (below(5) == 0 ? expression(depth - 1) : String.valueOf(below(9))) + " of " + unit(depth - 1);
            case 5: return "born(" + kinText() + "[" + below(3) + "])";
            case 6: return "len(" + rowText(depth) + ")";
            case 7: return "best(" + rowText(depth) + "," + small(depth) + ")";
            case 8: return rowText(depth);
            case 9: case 10: return new String[] {"floor", "ceil", "near", "root", "real", "whole"}[below(6)] + "(" + expression(depth - 1) + ")";
            case 11: return (below(2) == 0 ? "min(" : "max(") + expression(depth - 1) + "," + expression(depth - 1) + ")";
            case 12: return number();
            default: return name();
        }
    }

    String nested(int n) {
        StringBuilder a = new StringBuilder();
        StringBuilder z = new StringBuilder();
        for (int i = 0; i < n; i++) {
            switch (below(8)) {
                case 0: a.append("-"); break;
                case 1: a.append("if x then 1 else "); break;
                case 2: a.append("try 1 else "); break;
                case 3: a.append("sum n from 1 to 2 of "); break;
                case 4: a.append("min(1,"); z.insert(0, ")"); break;
                case 5: a.append("row["); z.insert(0, "]"); break;
                default: a.append("("); z.insert(0, ")");
            }
        }
        return a + "1" + z;
    }

    String text() {
        StringBuilder b = new StringBuilder();
        int rules = below(12) == 0 ? 22 + below(5) : 1 + below(6);
        String[] own = {"a", "b", "c", "due", "base", "d1", "pay"};
        for (int i = 0; i < rules; i++) {
            String name = i == rules - 1 ? "due" : rules > 10 ? "r" + i : rarely() ? name() : own[i % 3];
            if (rules <= 10 && i >= 3 && i < rules - 1) {
                name = "q" + i;
            }
            String body;
            int kind = below(30);
            if (kind == 0) {
                body = nested(8 + below(14));
            } else if (kind == 1) {
                body = many(10 + below(140));
            } else if (kind < 4) {
                body = "sum n from " + below(3) + " to " + below(100) + " of " + unit(2);
            } else if (kind < 12 && name.equals("due")) {
                body = below(3) == 0 ? "pay*" + below(2000) : below(2) == 0 ? "whole(" + expression(3) + ")" : "day * " + below(9) + " + x";
            } else {
                body = expression(below(5));
            }
            if (rules > 10) {
                body = expression(below(2));
            }
            for (int k = 0; k < 3; k++) {
                if (i > 0 && below(2) == 0) {
                    String older = rules > 10 ? "r" + below(i) : own[below(Math.min(i, 3))];
                    body = below(3) == 0 ? "(" + body + ") + " + older : body.replaceFirst("\\b(pay|x|rate|n|lost)\\b", older);
                }
            }
            b.append("rule ").append(name).append(below(2) == 0 ? "=" : " =\n").append(body).append(";");
            if (below(3) == 0) {
                b.append(below(2) == 0 ? " " : "\n");
            }
        }
        if (below(6) == 0) {
            mutate(b);
        }
        return b.length() > 1590 ? b.substring(0, 1590) : b.toString();
    }

    String many(int n) {
        StringBuilder b = new StringBuilder("1");
        for (int i = 1; i < n; i++) {
            b.append("+-*<[".charAt(below(40) == 0 ? 3 + below(2) : below(3))).append(below(4) == 0 ? "x" : "1");
        }
        return b.toString();
    }

    void mutate(StringBuilder b) {
        String[] bits = {"(", ")", ";", "if", "then", "else", "try ", "of ", "sum ", "9", ".", "!", "<", "=", "[", "]", ",", "-",
            "rule ", "to ", "?", "1234567890123456", "1.1234567", "1234567890.5", "abcdefghi", "\t", "\u00e9", " ", "\n", "day ", "len", "min(1)", "best(row,1,2)"};
        for (int k = 0; k <= below(2); k++) {
            int at = below(b.length());
            switch (below(3)) {
                case 0: b.deleteCharAt(at); break;
                case 1: b.insert(at, bits[below(bits.length)]); break;
                default: b.setLength(Math.max(1, at));
            }
        }
    }

    void edition() {
        edition(scheme(), rarely() ? day() : below(4) == 0 ? 30 * below(13) : 0);
    }

    void edition(int s, int first) {
        feed(text());
        same("edition " + s + "," + first, house.edition(s, first), model.edition(s, first));
        same("fault", house.fault(), model.fault());
    }

    void figure() {
        int s = below(4) == 0 ? scheme() : 0;
        int m = member();
        int d = day();
        int a = asOf();
        Model.Text inForce = s < 0 || s > 3 || d < 0 ? null : model.force(s, d);
        String rule = rarely() || inForce == null || inForce.names.isEmpty() ? name() : inForce.names.get(below(inForce.names.size()));
        feedName(rule);
        same("figure " + m + "," + s + "," + d + "," + a, house.figure(m, s, d, a), model.figure(m, s, d, a));
        lookAtDesk();
        lookAtCase();
    }

    void lookAtCase() {
        for (int i = -1; i <= 5; i++) {
            same("told " + i, house.told(i), model.told(i));
        }
        for (int k = -1; k <= model.told(2); k++) {
            same("step " + k, house.step(k), model.step(k));
            if (below(3) == 0) {
                lookAtDesk();
            }
        }
    }

    void trial() {
        feed(text());
        int s = scheme();
        int d = day();
        int a = asOf();
        same("trial " + s + "," + d + "," + a, house.trial(s, d, a), model.trial(s, d, a));
        same("fault", house.fault(), model.fault());
        if (below(4) == 0) {
            lookAtCase();
        }
    }

    void go() {
        for (int i = 0; i < 4; i++) {
            person();
        }
        for (int i = 0; i < 2 * (NAMES.length - 1); i++) {
            makeFact(i % (NAMES.length - 1), i / (NAMES.length - 1), 0, 389);
        }
        edition(0, 0);
        int calls = 40 + below(60);
        boolean paying = below(3) == 0;
        for (int i = 0; i < calls && ok; i++) {
            call(paying && below(6) > 0 ? PAYING[below(PAYING.length)] : below(40));
        }
        lookAtAll();
    }

    void person() {
        boolean child = random.nextBoolean();
        int birth = rarely() ? new int[] {-40001, 390, -40000, 389}[below(4)] : below(40390) - 40000;
        same("person " + child + birth, house.person(child, birth), model.person(child, birth));
    }

    void call(int which) {
        switch (which) {
            case 0: {
                int n = number(8);
                long w = random.nextLong();
                same("feed?", house.feed(w, n), model.feed(w, n));
                break;
            }
            case 1: {
                int n = below(3) == 0 ? 0 : number(model.tape.length());
                same("cut " + n, house.cut(n), model.cut(n));
                break;
            }
            case 2: case 3: {
                int d = below(6) == 0 ? day() : Math.min(389, model.now + below(40));
                same("clock " + d, house.clock(d), model.clock(d));
                break;
            }
            case 4: person(); break;
            case 5: {
                int s = number(8);
                int n = below(2) == 0 ? 0 : number(12);
                same("desk " + s + "," + n, house.desk(s, n), model.desk(s, n));
                break;
            }
            case 6: put(number(12), wholeBits()); put(-1, realBits()); break;
            case 7: {
                int i = number(12);
                int p = number(6);
                same("seat " + i + "," + p, house.seat(i, p), model.seat(i, p));
                break;
            }
            case 8: case 9: case 10: makeFact(); break;
            case 11: {
                int f = number(Math.max(0, model.facts.size() - 1));
                same("annul " + f, house.annul(f), model.annul(f));
                break;
            }
            case 12: {
                feedName(name());
                int m = member();
                int d = day();
                int a = asOf();
                same("known " + m + "," + d + "," + a, house.known(m, d, a), model.known(m, d, a));
                lookAtDesk();
                break;
            }
            case 13: case 14: case 15: case 16: edition(); break;
            case 17: {
                int s = scheme();
                int d = day();
                same("inForce " + s + "," + d, house.inForce(s, d), model.inForce(s, d));
                break;
            }
            case 18: case 19: case 20: case 21: case 22: case 23: figure(); break;
            case 24: case 25: trial(); break;
            case 26: case 27: {
                int m = member();
                int s = scheme();
                int k = below(3) > 0 ? below(2) : number(12);
                same("award " + m + "," + s + "," + k, house.award(m, s, k), model.award(m, s, k));
                break;
            }
            case 28: {
                int a = number(Math.max(0, model.awards.size() - 1));
                int k = number(12);
                int o = asOf();
                same("due " + a + "," + k + "," + o, house.due(a, k, o), model.due(a, k, o));
                break;
            }
            case 29: case 30: {
                int a = number(Math.max(0, model.awards.size() - 1));
                int c = rarely() ? new int[] {0, -1, 1000000, 1000001}[below(4)] : 1 + below(3000);
                int r = number(9);
                same("deduct " + a + "," + c + "," + r, house.deduct(a, c, r), model.deduct(a, c, r));
                break;
            }
            case 31: {
                int p = number(100);
                same("share " + p, house.share(p), model.share(p));
                break;
            }
            case 32: case 33: {
                int k = below(3) == 0 ? number(12) : Math.min(model.now / 30, model.lastRun + 1 + below(2));
                same("run " + k, house.run(k), model.run(k));
                break;
            }
            case 34: case 35: case 36: {
                int n = number(6);
                same("advance " + n, house.advance(n), model.advance(n));
                break;
            }
            case 37: {
                int k = number(Math.max(0, model.payments.size() - 1));
                same("returned " + k, house.returned(k), model.returned(k));
                break;
            }
            case 38: {
                int a = number(Math.max(0, model.awards.size() - 1));
                int k = number(12);
                same("balance " + a + "," + k, house.balance(a, k), model.balance(a, k));
                break;
            }
            default: lookAtAll();
        }
    }

    void lookAtAll() {
        for (int i = -1; i <= 7; i++) {
            same("count " + i, house.count(i), model.count(i));
        }
        for (int k = -1; k <= model.payments.size(); k++) {
            for (int what = -1; what <= 8; what++) {
                same("payment " + k + "," + what, house.payment(k, what), model.payment(k, what));
            }
            for (int i = -1; i <= 6; i++) {
                same("taken " + k + "," + i, house.taken(k, i), model.taken(k, i));
            }
        }
    }
}
