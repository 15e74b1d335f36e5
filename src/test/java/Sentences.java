import java.util.stream.LongStream;

/** Tests of single sentences of the document; each test says first which promise and which sentence it is for. */
abstract class Sentences {
    static final int INVALID = Check.INVALID;
    static final int NOT_POSSIBLE = Check.NOT_POSSIBLE;
    static final int LIMIT = Check.LIMIT;
    static final int NOT_FOUND = Check.NOT_FOUND;
    static final int LEAST = Integer.MIN_VALUE;
    static final int MOST = Integer.MAX_VALUE;

    private final Check check;
    private final Document document;
    private String told;

    Sentences(Check check, Document document) {
        this.check = check;
        this.document = document;
    }

    /** Runs every test of the group. */
    abstract void all();

    /** Says of which sentence the answers are that follow. */
    final void of(String section, String sentence) {
        document.quote(section, sentence);
        told = section + ", \"" + sentence + "\": ";
    }

    final void due(String call, long want, long got) {
        check.due(told + call, want, got);
    }

    /** Numbers out of a range: next to it, far away, and such as would be in it if bits of theirs were lost. */
    static int[] outside(int least, int most) {
        return LongStream.of(least - 1L, most + 1L, LEAST, LEAST + 1L, MOST, MOST - 1L, least + 256L, least + 65536L, most - 65536L,
                least + (1L << 30), (long) most + LEAST)
            .filter(n -> (n < least || n > most) && n >= LEAST && n <= MOST).mapToInt(n -> (int) n).toArray();
    }

    static int[] below0() {
        return new int[] {-1, -2, -256, -65536, LEAST + 1, LEAST};
    }

    /** An object with a name of fame 10 for each theme told. */
    static FairBooks named(int... themes) {
        FairBooks x = new FairBooks();
        for (int theme : themes) {
            x.name(10, theme);
        }
        return x;
    }

    static void leaves(FairBooks x, int collector, int leaves) {
        for (int i = 0; i < leaves; i++) {
            x.leaf(collector);
        }
    }

    /** The leaves of a book, one behind another. */
    final void book(String what, FairBooks x, int collector, int... leaves) {
        for (int place = 0; place < leaves.length; place++) {
            due(what + ", at(" + collector + ", " + place + ")", leaves[place], x.at(collector, place));
        }
        due(what + ", leaves of " + collector, leaves.length, x.collectorOf(collector, 1));
    }

    /** A number that would hardly stay the same if anything but the history were another; takes up to 200 calls, and changes nothing. */
    static long picture(FairBooks x) {
        long sum = 0;
        for (int what = 0; what <= 9; what++) {
            sum = 31 * sum + (what == 8 ? 0 : x.count(what));
        }
        for (int name = 0; name < x.count(0); name++) {
            sum = 31 * sum + x.nameOf(name, 0);
            sum = 31 * sum + x.nameOf(name, 1);
        }
        for (int what = 0; what <= 2; what++) {
            sum = 31 * sum + x.fault(what);
        }
        for (int collector = 0; collector < 4; collector++) {
            sum = 31 * sum + x.collectorOf(collector, 0);
            sum = 31 * sum + x.collectorOf(collector, 3);
            for (int place = 0; place <= x.collectorOf(collector, 1); place++) {
                int leaf = x.at(collector, place);
                sum = 31 * sum + leaf;
                for (int page = 0; page < 8 && leaf >= 0; page++) {
                    sum = 31 * sum + x.pageOf(leaf, page / 4, page % 4);
                }
            }
        }
        return sum;
    }
}
