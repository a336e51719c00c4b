import java.util.SplittableRandom;

/** REALS, by calls of the face, beside the machine's doubles: many pairs, of all sizes. */
public final class RealsBesideTheMachine {
    static final String TEXT = "rule a=x+y;rule b=x-y;rule c=x*y;rule d=x/y;rule e=x%y;rule f=root(x);rule g=floor(x);rule h=ceil(x);"
        + "rule i=near(x);rule j=whole(x);rule k=real(w);rule l=min(x,y);rule m=max(x,y);rule n=x<y;rule o=x<=y;rule p=x=y;rule q=x!=y;"
        + "rule r=-x;rule s=x<w;rule t=w*x;rule u=min(x,w);rule v=max(w,x);"
        + "rule z=(a=a)+(b=b)+(c=c)+(d=d)+(e=e)+(f=f)+(g=g)+(h=h)+(i=i)+j*0+(k=k)+(l=l)+(m=m)+n+o+p+q+(r=r)+s+(t=t)+(u=u)+(v=v);";
    static final SplittableRandom random = new SplittableRandom(11);
    static final long[] SPECIAL = {0, 1L << 63, 0x7FF0000000000000L, 0xFFF0000000000000L, 0x7FF8000000000000L, 1, 0x8000000000000001L,
        0x000FFFFFFFFFFFFFL, 0x0010000000000000L, 0x7FEFFFFFFFFFFFFFL, 0x3FF0000000000000L, 0x3FE0000000000000L, 0xBFE0000000000000L,
        0x3FDFFFFFFFFFFFFFL, 0x3FE0000000000001L, 0x43E0000000000000L, 0xC3E0000000000000L, 0x4330000000000000L, 0x4340000000000000L};

    public static void main(String[] args) {
        Desk x = null;
        for (int i = 0; i < 60000; i++) {
            if (i % 60 == 0) {
                x = new Desk();
                Desk.due("text", x.edition(0, 0, TEXT), 23);
            }
            long a = bits();
            long b = random.nextInt(5) == 0 ? (random.nextBoolean() ? a : a ^ 1L << 63) + random.nextInt(5) - 2 : bits();
            pair(x, Double.longBitsToDouble(a), Double.longBitsToDouble(b), random.nextLong() >> random.nextInt(64));
        }
        besideTies();
        decimals();
        Desk.end();
    }

    static long bits() {
        switch (random.nextInt(8)) {
            case 0: return random.nextLong();
            case 1: return Desk.bits((double) (random.nextLong() >> random.nextInt(64)));
            case 2: return SPECIAL[random.nextInt(SPECIAL.length)];
            case 3: return (random.nextLong() & 0x800FFFFFFFFFFFFFL) >> random.nextInt(3);
            case 4: return random.nextLong() & 0x800FFFFFFFFFFFFFL | (long) (963 + random.nextInt(130)) << 52;
            case 5: return Desk.bits((random.nextInt(2001) - 1000) / 4.0);
            case 6: return random.nextLong() & 0x800F000000000000L | (long) random.nextInt(2047) << 52 | random.nextInt(4);
            default: return random.nextLong() & 0x800FFFFFFFFFFFFFL | (long) (random.nextInt(60) + (random.nextBoolean() ? 0 : 1980)) << 52;
        }
    }

    static void pair(Desk x, double a, double b, long w) {
        x.real(a);
        x.fact("x");
        x.real(b);
        x.fact("y");
        x.whole(w);
        x.fact("w");
        x.feed("z");
        Desk.due("figure of " + a + ", " + b + ", " + w, x.house.figure(0, 0, 0, 0), 0);
        long[] want = {Desk.bits(a + b), Desk.bits(a - b), Desk.bits(a * b), Desk.bits(a / b), Desk.bits(a % b), Desk.bits(Math.sqrt(a)),
            Desk.bits(Math.floor(a)), Desk.bits(Math.ceil(a)), Desk.bits(Math.rint(a)), (long) a, Desk.bits((double) w),
            Desk.bits(Math.min(a, b)), Desk.bits(Math.max(a, b)), a < b ? 1 : 0, a <= b ? 1 : 0, a == b ? 1 : 0, a != b ? 1 : 0,
            Desk.bits(-a), a < w ? 1 : 0, Desk.bits(w * a), Desk.bits(Math.min(a, w)), Desk.bits(Math.max(w, a))};
        for (int k = 0; k < want.length; k++) {
            if (x.house.step(k) != 100 * k || x.house.read(-1) != want[k]) {
                Desk.due("rule " + (char) ('a' + k) + " of " + a + ", " + b + ", " + w, x.house.read(-1), want[k]);
            }
        }
    }

    /** Sums that lie a little above or below the middle of two REALS, or on it: 2^53 + 1, + 3, .. */
    static void besideTies() {
        for (int i = 0; i < 40; i++) {
            Desk x = new Desk();
            Desk.due("text", x.edition(0, 0, TEXT), 23);
            for (int k = 0; k < 50; k++) {
                double little = k == 0 ? 0 : Math.scalb(1.0, -random.nextInt(50)) * (random.nextInt(3) - 1);
                double middle = 9007199254740993.0 - 1 + 2 * random.nextInt(4);
                double less = 1 + 2 * random.nextInt(4);
                double sign = random.nextBoolean() ? 1 : -1;
                double a = middle - less;
                pair(x, sign * a, sign * (less + 1 + little), k - 25);
            }
        }
    }

    static void decimals() {
        Desk x = new Desk();
        for (int i = 0; i < 3000; i++) {
            StringBuilder number = new StringBuilder();
            for (int k = random.nextInt(9); k >= 0; k--) {
                number.append(random.nextInt(10));
            }
            number.append('.');
            for (int k = random.nextInt(6); k >= 0; k--) {
                number.append(random.nextInt(10));
            }
            Desk.due("edition", x.edition(0, 0, "rule a=" + number + ";"), 1);
            x.figure("a");
            Desk.due(number.toString(), x.house.read(-1), Desk.bits(Double.parseDouble(number.toString())));
        }
    }
}
