import java.util.Random;

/**
 * No call throws and every call ends, whatever its arguments and whatever was called before: 512 turns a house
 * (a turn is a call, or a text fed and read), with numbers at and beyond all bounds, texts that are right,
 * broken, or mere bytes. Arguments: how many houses, the first seed.
 */
public final class NeverThrows {
    static final int[] NUMBERS = {Integer.MIN_VALUE, Integer.MIN_VALUE + 1, -40001, -40000, -6, -5, -2, -1, 0, 1, 2, 3, 4, 5, 6, 7, 8, 9,
        10, 11, 12, 13, 16, 23, 24, 30, 31, 99, 100, 101, 199, 200, 360, 389, 390, 1599, 1600, 1000000, 1000001,
        Integer.MAX_VALUE - 1, Integer.MAX_VALUE};
    static final String[] BITS = ("rule due = ;|rule a=|;|=|!=|<|<=|+|-|*|/|%|(|)|[|]|,|1|0|12|2.5|999999999999999|999999999.999999|day|due|a|pay|kin|row"
        + "|sum n from 0 to 9 of |if a then |else |try |zeros(|last(|join(|with(|best(|len(|born(|root(|near(|\n| |!|.|\u00ff|\u0000|A").split("\\|");

    final Random random;
    final AgainstModel texts;
    final PensionHouse house = new PensionHouse();
    String last = "";

    NeverThrows(long seed) {
        random = new Random(seed);
        texts = new AgainstModel(seed);
    }

    public static void main(String[] args) {
        int houses = args.length > 0 ? Integer.parseInt(args[0]) : 1500;
        long first = args.length > 1 ? Long.parseLong(args[1]) : 1;
        int[] kinds = new int[32];
        for (long seed = first; seed < first + houses; seed++) {
            NeverThrows run = new NeverThrows(seed);
            try {
                for (int turn = 0; turn < 512; turn++) {
                    kinds[run.turn(run.random.nextInt(46))]++;
                }
            } catch (RuntimeException | Error thrown) {
                Desk.due("seed " + seed + ", " + run.last + ": " + thrown, 1, 0);
            }
        }
        for (int kind = 1; kind < kinds.length; kind++) {
            Desk.due("calls of promise " + (kind + 1) + " were made", kinds[kind] > 0 ? 1 : 0, 1);
        }
        Desk.end();
    }

    /** Mostly small, so that calls come through to their work. */
    int n() {
        return random.nextInt(4) > 0 ? random.nextInt(7) : random.nextInt(9) == 0 ? random.nextInt() : NUMBERS[random.nextInt(NUMBERS.length)];
    }

    int day() {
        return random.nextInt(3) > 0 ? random.nextInt(390) : n();
    }

    /** One call, or a text fed as far as it goes and read; answers the promise of the call, less one. */
    int turn(int which) {
        int a = n();
        int b = n();
        int c = day();
        int d = day();
        long w = random.nextBoolean() ? random.nextLong() : n();
        last = which + " " + a + " " + b + " " + c + " " + d + " " + w;
        switch (which) {
            case 1: house.feed(w, a); return 1;
            case 2: house.cut(a); return 2;
            case 3: house.clock(random.nextInt(4) > 0 ? house.count(6) + random.nextInt(9) : c); return 3;
            case 4: house.person(random.nextBoolean(), -d); return 4;
            case 5: house.desk(a, b); return 5;
            case 6: house.write(a, w); return 6;
            case 7: house.seat(a, b); return 7;
            case 8: house.sort(); return 8;
            case 9: house.length(); return 9;
            case 10: house.read(a); return 10;
            case 11: house.fact(a, Math.min(c, d), Math.max(c, d)); return 11;
            case 12: house.annul(a); return 12;
            case 13: house.known(a, c, b); return 13;
            case 14: house.edition(a, d); return 14;
            case 15: house.fault(); return 15;
            case 16: house.inForce(a, c); return 16;
            case 17: house.figure(a, b, c, house.count(6)); return 17;
            case 18: house.told(a); return 18;
            case 19: house.step(a); return 19;
            case 20: house.trial(a, c, b); return 20;
            case 21: house.award(a, b, n()); return 21;
            case 22: house.due(a, b, d); return 22;
            case 23: house.deduct(a, c, b); return 23;
            case 24: house.share(a); return 24;
            case 25: house.run(a); return 25;
            case 26: house.advance(a); return 26;
            case 27: house.payment(a, b); return 27;
            case 28: house.taken(a, b); return 28;
            case 29: house.returned(a); return 29;
            case 30: house.balance(a, b); return 30;
            case 31: house.count(a); return 31;
            case 32: case 33: edition(texts.text()); return 14;
            case 34: edition(bits()); return 14;
            case 35: edition(texts.text()); name("due"); house.figure(0, 0, 10, house.count(6)); return 17;
            case 36: tape(texts.text()); house.trial(0, c, house.count(6)); return 20;
            case 37: tape(bits()); house.trial(0, 10, 0); return 20;
            case 38: case 39: case 40: fact(); return 11;
            case 41: house.advance(6); return 26;
            default: name(texts.name()); house.figure(0, 0, 10, house.count(6)); return 17;
        }
    }

    void fact() {
        house.desk(random.nextInt(8), random.nextBoolean() ? 0 : 1 + random.nextInt(12));
        for (int i = -1; i < house.length(); i++) {
            house.write(i, random.nextBoolean() ? texts.wholeBits() : texts.realBits());
            house.seat(i, random.nextInt(4) - 1);
        }
        name(texts.name());
        house.fact(random.nextInt(2), 0, 389);
    }

    void name(String name) {
        house.cut(0);
        tape(name);
    }

    void edition(String text) {
        house.cut(0);
        tape(text);
        house.edition(0, random.nextInt(3));
    }

    String bits() {
        StringBuilder text = new StringBuilder("rule due = ");
        for (int i = random.nextInt(60); i > 0; i--) {
            text.append(BITS[random.nextInt(BITS.length)]);
        }
        return text.toString();
    }

    void tape(String text) {
        for (int i = 0; i < text.length(); i++) {
            house.feed(text.charAt(i), 1);
        }
    }
}
