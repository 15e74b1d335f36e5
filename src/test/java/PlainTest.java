/** Long runs of calls, the same ones each time, in which FairBooks must answer as Plain does. */
public final class PlainTest {
    private static final String[] CALLS = {
        "name", "leaf", "sign", "over", "dedicate", "move", "trade", "tear", "coins", "pageOf", "leafOf", "at",
        "collectorOf", "nameOf", "gain", "fair", "best", "missing", "mean", "count", "undo", "type", "clearText",
        "fault", "play"
    };
    private static final int[] ODD = {
        Integer.MIN_VALUE, Integer.MIN_VALUE + 1, -10000, -9999, -2, -1, 4, 5, 8, 9, 10, 16, 17, 32, 50, 51, 126, 127,
        9999, 10000, 65536, Integer.MAX_VALUE - 1, Integer.MAX_VALUE
    };
    private static final Check C = new Check("PlainTest");

    private long seed;
    private final FairBooks x = new FairBooks();
    private final Plain y = new Plain();
    private String pending = "";

    private PlainTest(int run) {
        seed = run * 7919L + 17;
    }

    public static void main(String[] args) {
        int runs = args.length > 0 ? Integer.parseInt(args[0]) : 250;
        for (int run = 0; run < runs && C.failures() == 0; run++) {
            new PlainTest(run).go(run);
        }
        C.end();
    }

    private int any(int bound) {
        seed = seed * 6364136223846793005L + 1442695040888963407L;
        return (int) ((seed >>> 33) % Math.max(1, bound));
    }

    private void go(int run) {
        int names = 1 + any(16);
        int fames = any(3) == 0 ? 50 : 1 + any(5);
        int themes = 1 + any(4);
        int faults = any(3) == 0 ? 12 : 80;
        for (int i = 0; i < names; i++) {
            both(run, i, 0, 1 + any(fames), any(themes), 0, 0);
        }
        for (int i = names; i < 512 && C.failures() == 0; i++) {
            step(run, i, faults);
        }
    }

    private void step(int run, int i, int faults) {
        if (!pending.isEmpty()) {
            both(run, i, 21, pending.charAt(0), 0, 0, 0);
            pending = pending.substring(1);
            return;
        }
        int which = any(40);
        int leaf = any(y.now.leaves + 1 + any(2));
        int other = any(y.now.leaves + 1);
        if (any(3) > 0) {
            leaf = y.at(any(4), any(8));
            other = y.at(any(4), any(8));
        }
        switch (which) {
            case 0: which = any(8) == 0 ? 0 : 1; break;
            case 25: case 26: which = 1; break;
            case 27: case 28: case 29: which = 2; break;
            case 30: case 31: which = 3; break;
            case 32: case 33: which = 4; break;
            case 34: case 35: which = 6; break;
            case 36: which = 5; break;
            case 37: write(); return;
            case 38: which = 16; break;
            case 39: which = 15; break;
            case 7: which = any(2) == 0 ? 7 : 1; break;
            default: break;
        }
        int[] args = arguments(which, leaf, other);
        for (int k = 0; k < args.length; k++) {
            if (any(faults) == 0) {
                args[k] = ODD[any(ODD.length)];
            }
        }
        both(run, i, which, args[0], args[1], args[2], args[3]);
    }

    private int coins() {
        return any(3) == 0 ? 0 : any(4) == 0 ? any(19999) - 9999 : any(201) - 100;
    }

    private int[] arguments(int which, int leaf, int other) {
        int name = any(y.now.names.size() + (any(20) == 0 ? 1 : 0));
        switch (which) {
            case 0: return new int[] {1 + any(50), any(4), 0, 0};
            case 1: return new int[] {any(4), 0, 0, 0};
            case 2: return new int[] {leaf, any(2), name, 0};
            case 3: return new int[] {leaf, name, 0, 0};
            case 4: return new int[] {leaf, any(2), any(4), 0};
            case 5: return new int[] {leaf, any(9), 0, 0};
            case 6: return new int[] {leaf, other, coins(), 0};
            case 8: return new int[] {any(4), any(2) == 0 ? 9900 + any(100) : any(300), 0, 0};
            case 9: return new int[] {leaf, any(2), any(4), 0};
            case 10: return new int[] {leaf, any(4), 0, 0};
            case 11: return new int[] {any(4), any(9), 0, 0};
            case 12: return new int[] {any(4), any(9), 0, 0};
            case 13: return new int[] {name, any(4), 0, 0};
            case 14: return new int[] {leaf, other, coins(), any(2)};
            case 15: return new int[] {leaf, other, 0, 0};
            case 16: return new int[] {any(4), any(3), 0, 0};
            case 17: return new int[] {any(4), any(4), 0, 0};
            case 18: return new int[] {any(4), 0, 0, 0};
            case 19: return new int[] {any(10), 0, 0, 0};
            case 21: return new int[] {32 + any(95), 0, 0, 0};
            case 23: return new int[] {any(3), 0, 0, 0};
            default: return new int[] {leaf, 0, 0, 0};
        }
    }

    private String digits(int number) {
        return number < 10 && any(4) == 0 ? "0" + number : "" + number;
    }

    /** Gets a text of orders ready, most of them possible, some with a sign that is wrong. */
    private void write() {
        both(-1, -1, 22, 0, 0, 0, 0);
        StringBuilder text = new StringBuilder();
        int orders = any(7);
        for (int i = 0; i < orders; i++) {
            String leaf = digits(Math.max(0, y.at(any(4), any(8))) % 100);
            String other = digits(Math.max(0, y.at(any(4), any(8))) % 100);
            String name = digits(any(Math.max(1, y.now.names.size())));
            switch (any(5)) {
                case 0: text.append("l").append(digits(any(4))); break;
                case 1: text.append("s").append(leaf).append(",").append(digits(any(2))).append(",").append(name); break;
                case 2: text.append("d").append(leaf).append(",").append(any(2)).append(",").append(name).append(",")
                        .append(digits(any(4) + (any(9) == 0 ? 1 : 0))); break;
                case 3: text.append("o").append(leaf).append(",").append(name); break;
                default: text.append("t").append(leaf).append(",").append(other); break;
            }
            text.append(";");
        }
        if (any(4) == 0 && text.length() > 0) {
            text.setCharAt(any(text.length()), "lsdot0123456789,; x".charAt(any(19)));
        }
        if (any(6) == 0 && text.length() > 0) {
            text.setLength(any(text.length()));
        }
        pending = text.substring(0, Math.min(text.length(), 60));
    }

    private void both(int run, int i, int which, int a, int b, int c, int d) {
        int want = y.call(which, a, b, c, d);
        String told = "run " + run + ", call " + i + ", " + CALLS[Math.min(which, 24)] + "(" + a + ", " + b + ", " + c + ", " + d + ")";
        int got;
        try {
            got = call(which, a, b, c, d);
        } catch (RuntimeException e) {
            System.out.println(told + " threw " + e);
            got = Integer.MIN_VALUE;
        }
        C.due(told, want, got);
    }

    private int call(int which, int a, int b, int c, int d) {
        switch (which) {
            case 0: return x.name(a, b);
            case 1: return x.leaf(a);
            case 2: return x.sign(a, b, c);
            case 3: return x.over(a, b);
            case 4: return x.dedicate(a, b, c);
            case 5: return x.move(a, b);
            case 6: return x.trade(a, b, c);
            case 7: return x.tear(a);
            case 8: return x.coins(a, b);
            case 9: return x.pageOf(a, b, c);
            case 10: return x.leafOf(a, b);
            case 11: return x.at(a, b);
            case 12: return x.collectorOf(a, b);
            case 13: return x.nameOf(a, b);
            case 14: return x.gain(a, b, c, d);
            case 15: return x.fair(a, b);
            case 16: return x.best(a, b);
            case 17: return x.missing(a, b);
            case 18: return x.mean(a);
            case 19: return x.count(a);
            case 20: return x.undo();
            case 21: return x.type(a);
            case 22: return x.clearText();
            case 23: return x.fault(a);
            default: return x.play();
        }
    }
}
