/** Books of autographs at a fair: what they are worth, how they are traded, and orders as texts. */
public final class FairBooks {
    public static final int INVALID_ARGUMENT = -1000001;
    public static final int NOT_POSSIBLE = -1000002;
    public static final int LIMIT_REACHED = -1000003;
    public static final int NOT_FOUND = -1000004;

    private static final int NONE = -1;

    private static final int COLLECTORS = 4;
    private static final int THEMES = 4;
    private static final int MOST_NAMES = 16;
    private static final int MOST_FAME = 50;
    private static final int MOST_LEAVES = 8;
    private static final int MOST_COINS = 9999;
    private static final int FIRST_COINS = 100;
    private static final int MOST_STATES = 4;
    private static final int MOST_CHARACTERS = 60;
    private static final int MOST_NUMBERS = 4;
    private static final int THEME_BONUS = 25;

    /** What there is on a page. */
    private static final int EMPTY = 0;
    private static final int WHOLE = 1;
    private static final int FIRST_HALF = 2;
    private static final int SECOND_HALF = 3;

    /** The reasons of a fault. */
    private static final int NO_FAULT = 0;
    private static final int BAD_FORM = 1;
    private static final int BAD_CALL = 2;

    /** A gain is told so much greater, as it may be below 0. */
    private static final int GAIN_SHIFT = 100000;
    /** Fair coins are told so much greater, as they may be below 0. */
    private static final int FAIR_SHIFT = 10000;

    /** A book that is only thought of may get a whole other book for one leaf of its own. */
    private static final int ROOM_OF_BOOK = 2 * MOST_LEAVES;

    private final State now;
    private final State trial;
    private final History history;
    private final Orders orders;
    private final Bench bench;
    private final BestTrade bestTrade;

    public FairBooks() {
        now = new State();
        trial = new State();
        history = new History();
        orders = new Orders();
        bench = new Bench();
        bestTrade = new BestTrade();
    }

    // ---- names, leaves, entries

    public int name(int fame, int theme) {
        history.prepare(now);
        return history.keep(now.addName(fame, theme));
    }

    public int leaf(int collector) {
        history.prepare(now);
        return history.keep(now.addLeaf(collector));
    }

    public int sign(int leaf, int side, int name) {
        history.prepare(now);
        return history.keep(now.addEntry(leaf, side, name, NONE));
    }

    public int over(int leaf, int name) {
        history.prepare(now);
        return history.keep(now.addWideEntry(leaf, name));
    }

    public int dedicate(int leaf, int side, int collector) {
        history.prepare(now);
        return history.keep(now.setFriend(leaf, side, collector));
    }

    // ---- books

    public int move(int leaf, int place) {
        history.prepare(now);
        return history.keep(now.shiftBundle(leaf, place, bench));
    }

    public int trade(int one, int other, int coins) {
        history.prepare(now);
        return history.keep(now.exchange(one, other, coins, bench));
    }

    public int tear(int leaf) {
        history.prepare(now);
        return history.keep(now.takeOut(leaf, bench));
    }

    public int coins(int collector, int coins) {
        history.prepare(now);
        return history.keep(now.fillPurse(collector, coins));
    }

    // ---- what there is

    public int pageOf(int leaf, int side, int what) {
        Book book = now.bookWith(leaf);
        if (book == null || !isSide(side) || what < 0 || what > 3) {
            return INVALID_ARGUMENT;
        }
        int page = 2 * book.find(leaf) + side;
        if (book.kindOf(page) == EMPTY) {
            return NOT_FOUND;
        }
        switch (what) {
            case 0:
                return book.nameOn(page);
            case 1:
                return book.friendOn(page) == NONE ? NOT_FOUND : book.friendOn(page);
            case 2:
                return book.kindOf(page) == WHOLE ? 0 : 1;
            default:
                return book.valueOn(page, now.names);
        }
    }

    public int leafOf(int leaf, int what) {
        Book book = now.bookWith(leaf);
        if (book == null || what < 0 || what > 3) {
            return INVALID_ARGUMENT;
        }
        int place = book.find(leaf);
        switch (what) {
            case 0:
                return book.owner;
            case 1:
                return place;
            case 2:
                return book.bundleSize(place);
            default:
                return book.bundleFirst(place);
        }
    }

    public int at(int collector, int place) {
        if (!isCollector(collector) || place < 0) {
            return INVALID_ARGUMENT;
        }
        Book book = now.bookOf(collector);
        return place < book.size ? book.numberAt(place) : NOT_FOUND;
    }

    public int collectorOf(int collector, int what) {
        if (!isCollector(collector)) {
            return INVALID_ARGUMENT;
        }
        Book book = now.bookOf(collector);
        switch (what) {
            case 0:
                return now.purseOf(collector);
            case 1:
                return book.size;
            case 2:
                return book.countEntries();
            case 3:
                return book.worth(now.names);
            case 4:
                return now.wealth(collector);
            case 5:
                return book.nameSet();
            case 6:
                return book.wholeThemes(now.names);
            case 7:
                return book.countBundles();
            case 8:
                return book.countDedicatedTo(collector);
            default:
                return INVALID_ARGUMENT;
        }
    }

    public int nameOf(int name, int what) {
        if (!now.names.has(name)) {
            return INVALID_ARGUMENT;
        }
        switch (what) {
            case 0:
                return now.names.fameOf(name);
            case 1:
                return now.names.themeOf(name);
            case 2:
                return now.countEntriesOf(name);
            case 3:
                return now.ownersOf(name);
            default:
                return INVALID_ARGUMENT;
        }
    }

    // ---- what would be

    public int gain(int one, int other, int coins, int whose) {
        Book ofOne = now.bookWith(one);
        Book ofOther = now.bookWith(other);
        if (ofOne == null || ofOther == null || !arePaid(coins) || whose < 0 || whose > 1) {
            return INVALID_ARGUMENT;
        }
        if (ofOne.owner == ofOther.owner) {
            return NOT_POSSIBLE;
        }
        bench.layOut(ofOne, ofOne.find(one), ofOther, ofOther.find(other));
        int more = whose == 0 ? bench.gainOfOne(now.names) - coins : bench.gainOfOther(now.names) + coins;
        return more + GAIN_SHIFT;
    }

    public int fair(int one, int other) {
        Book ofOne = now.bookWith(one);
        Book ofOther = now.bookWith(other);
        if (ofOne == null || ofOther == null) {
            return INVALID_ARGUMENT;
        }
        if (ofOne.owner == ofOther.owner) {
            return NOT_POSSIBLE;
        }
        bench.layOut(ofOne, ofOne.find(one), ofOther, ofOther.find(other));
        int least = Math.max(1 - bench.gainOfOther(now.names), -MOST_COINS);
        int most = Math.min(bench.gainOfOne(now.names) - 1, MOST_COINS);
        return least <= most ? least + FAIR_SHIFT : NOT_FOUND;
    }

    public int best(int collector, int what) {
        if (!isCollector(collector) || what < 0 || what > 2) {
            return INVALID_ARGUMENT;
        }
        bestTrade.search(now, collector, bench);
        if (bestTrade.gained == 0) {
            return NOT_FOUND;
        }
        switch (what) {
            case 0:
                return bestTrade.ownLeaf;
            case 1:
                return bestTrade.otherLeaf;
            default:
                return bestTrade.gained;
        }
    }

    public int missing(int collector, int theme) {
        if (!isCollector(collector) || !isTheme(theme)) {
            return INVALID_ARGUMENT;
        }
        return now.names.setOf(theme) & ~now.bookOf(collector).nameSet();
    }

    public int mean(int collector) {
        if (!isCollector(collector)) {
            return INVALID_ARGUMENT;
        }
        Book book = now.bookOf(collector);
        int entries = book.countEntries();
        if (entries <= 0) {
            return NOT_FOUND;
        }
        return bitsOf((float) book.sumOfValues(now.names) / (float) entries);
    }

    public int count(int what) {
        switch (what) {
            case 0:
                return now.names.size;
            case 1:
                return now.countLeaves();
            case 2:
                return now.countEntries();
            case 3:
                return now.tradesSoFar;
            case 4:
                return now.leavesSoFar;
            case 5:
                return now.richest();
            case 6:
                return now.sumOfWorths();
            case 7:
                return now.countDedicated();
            case 8:
                return history.size;
            case 9:
                return orders.length;
            default:
                return INVALID_ARGUMENT;
        }
    }

    public int undo() {
        if (history.size == 0) {
            return NOT_POSSIBLE;
        }
        history.restore(now);
        return history.size;
    }

    // ---- texts

    public int type(int character) {
        if (character < 32 || character > 126) {
            return INVALID_ARGUMENT;
        }
        if (orders.length >= MOST_CHARACTERS) {
            return LIMIT_REACHED;
        }
        orders.append(character);
        return orders.length;
    }

    public int clearText() {
        int before = orders.length;
        orders.length = 0;
        return before;
    }

    public int fault(int what) {
        if (what < 0 || what > 2) {
            return INVALID_ARGUMENT;
        }
        orders.run(now, trial, bench);
        if (orders.reason == NO_FAULT) {
            return NOT_FOUND;
        }
        switch (what) {
            case 0:
                return orders.start;
            case 1:
                return orders.reason;
            default:
                return orders.cause;
        }
    }

    public int play() {
        orders.run(now, trial, bench);
        if (orders.reason != NO_FAULT) {
            return NOT_POSSIBLE;
        }
        history.prepare(now);
        now.copyFrom(trial);
        return history.keep(orders.done);
    }

    private static boolean isCollector(int collector) {
        return collector >= 0 && collector < COLLECTORS;
    }

    private static boolean isTheme(int theme) {
        return theme >= 0 && theme < THEMES;
    }

    private static boolean isSide(int side) {
        return side == 0 || side == 1;
    }

    private static boolean arePaid(int coins) {
        return coins >= -MOST_COINS && coins <= MOST_COINS;
    }

    /** The bits of a float from 1 to 2 to the 24th; the library's own function is not in our part of Java. */
    private static int bitsOf(float value) {
        float scaled = value;
        int exponent = 127 + 23;
        for (int step = 0; step < 23 && scaled < 8388608f; step++) {
            scaled = scaled * 2f;
            exponent--;
        }
        return (exponent << 23) + ((int) scaled - 8388608);
    }

    /** The names with their fame and themes. */
    private static final class Names {
        private final int[] fames = new int[MOST_NAMES];
        private final int[] themes = new int[MOST_NAMES];
        private int size;

        boolean has(int name) {
            return name >= 0 && name < size;
        }

        int fameOf(int name) {
            return name >= 0 && name < fames.length ? fames[name] : 0;
        }

        int themeOf(int name) {
            return name >= 0 && name < themes.length ? themes[name] : NONE;
        }

        int setOf(int theme) {
            int set = 0;
            for (int name = 0; name < size && name < themes.length; name++) {
                if (themes[name] == theme) {
                    set |= 1 << name;
                }
            }
            return set;
        }

        void add(int fame, int theme) {
            if (size >= 0 && size < fames.length && size < themes.length) {
                fames[size] = fame;
                themes[size] = theme;
                size++;
            }
        }

        void copyFrom(Names other) {
            size = 0;
            for (int name = 0; name < other.size; name++) {
                add(other.fameOf(name), other.themeOf(name));
            }
        }
    }

    /**
     * A book of leaves by places. Page 2 * place is the front of a leaf, the next page its back.
     * An entry over two pages stands on both, but only its first half is counted.
     */
    private static final class Book {
        private final int[] numbers = new int[ROOM_OF_BOOK];
        private final int[] kinds = new int[2 * ROOM_OF_BOOK];
        private final int[] signers = new int[2 * ROOM_OF_BOOK];
        /** The collectors to whom entries are dedicated, or NONE. */
        private final int[] friends = new int[2 * ROOM_OF_BOOK];
        private int owner;
        private int size;

        Book(int collector) {
            owner = collector;
        }

        int numberAt(int place) {
            return place >= 0 && place < numbers.length ? numbers[place] : NONE;
        }

        int kindOf(int page) {
            return page >= 0 && page < kinds.length ? kinds[page] : EMPTY;
        }

        int nameOn(int page) {
            return page >= 0 && page < signers.length ? signers[page] : 0;
        }

        int friendOn(int page) {
            return page >= 0 && page < friends.length ? friends[page] : NONE;
        }

        int find(int number) {
            for (int place = 0; place < size && place < numbers.length; place++) {
                if (numbers[place] == number) {
                    return place;
                }
            }
            return NONE;
        }

        boolean startsEntry(int page) {
            return kindOf(page) == WHOLE || kindOf(page) == FIRST_HALF;
        }

        int countEntries() {
            int entries = 0;
            for (int page = 0; page < 2 * size; page++) {
                if (startsEntry(page)) {
                    entries++;
                }
            }
            return entries;
        }

        int countEntriesOf(int name) {
            int entries = 0;
            for (int page = 0; page < 2 * size; page++) {
                if (startsEntry(page) && nameOn(page) == name) {
                    entries++;
                }
            }
            return entries;
        }

        int countDedicatedTo(int collector) {
            int entries = 0;
            for (int page = 0; page < 2 * size; page++) {
                if (startsEntry(page) && friendOn(page) == collector) {
                    entries++;
                }
            }
            return entries;
        }

        int countDedicated() {
            return countEntries() - countDedicatedTo(NONE);
        }

        int nameSet() {
            return namesAhead(2 * size);
        }

        int namesAhead(int end) {
            int set = 0;
            for (int page = 0; page < end; page++) {
                if (kindOf(page) != EMPTY) {
                    set |= 1 << nameOn(page);
                }
            }
            return set;
        }

        int valueOn(int page, Names names) {
            int start = kindOf(page) == SECOND_HALF ? page - 1 : page;
            return valueBehind(namesAhead(start), start, names);
        }

        /** The value for the owner of the entry that starts on a page, with these names ahead of it. */
        int valueBehind(int ahead, int page, Names names) {
            int value = (kindOf(page) == WHOLE ? 10 : 15) * names.fameOf(nameOn(page));
            int friend = friendOn(page);
            if (friend != NONE) {
                value = friend == owner ? value * 2 : value / 2;
            }
            boolean isFurther = (ahead & 1 << nameOn(page)) != 0;
            return isFurther ? value / 2 : value;
        }

        int sumOfValues(Names names) {
            int sum = 0;
            int ahead = 0;
            for (int page = 0; page < 2 * size; page++) {
                if (startsEntry(page)) {
                    sum += valueBehind(ahead, page, names);
                    ahead |= 1 << nameOn(page);
                }
            }
            return sum;
        }

        int wholeThemes(Names names) {
            int mine = namesAhead(2 * size);
            int themes = 0;
            for (int theme = 0; theme < THEMES; theme++) {
                int wanted = names.setOf(theme);
                if (wanted != 0 && (wanted & ~mine) == 0) {
                    themes |= 1 << theme;
                }
            }
            return themes;
        }

        int worth(Names names) {
            int worth = sumOfValues(names);
            int themes = wholeThemes(names);
            for (int theme = 0; theme < THEMES; theme++) {
                if ((themes & 1 << theme) != 0) {
                    worth += THEME_BONUS * Integer.bitCount(names.setOf(theme));
                }
            }
            return worth;
        }

        /** Whether a leaf cannot be parted from the next one. */
        boolean isJoined(int place) {
            int back = 2 * place + 1;
            return back >= 0 && back < kinds.length && kinds[back] == FIRST_HALF;
        }

        boolean startsBundle(int place) {
            return !isJoined(place - 1);
        }

        int bundleFirst(int place) {
            int first = place;
            while (first > 0 && isJoined(first - 1)) {
                first--;
            }
            return first;
        }

        /** The place behind the last leaf of a bundle. */
        int bundleEnd(int place) {
            int end = place + 1;
            while (end < size && isJoined(end - 1)) {
                end++;
            }
            return end;
        }

        int bundleSize(int place) {
            return bundleEnd(place) - bundleFirst(place);
        }

        int countBundles() {
            int bundles = 0;
            for (int place = 0; place < size; place++) {
                if (startsBundle(place)) {
                    bundles++;
                }
            }
            return bundles;
        }

        /** Whether a bundle can stand behind so many leaves of other bundles. */
        boolean canShift(int from, int place) {
            int length = bundleSize(from);
            if (place > size - length) {
                return false;
            }
            int ahead = place - 1;
            return !isJoined(ahead < bundleFirst(from) ? ahead : ahead + length);
        }

        void setEntry(int page, int kind, int name, int friend) {
            if (page >= 0 && page < kinds.length && page < signers.length && page < friends.length) {
                kinds[page] = kind;
                signers[page] = name;
                friends[page] = friend;
            }
        }

        void setFriend(int page, int friend) {
            setEntry(page, kindOf(page), nameOn(page), friend);
        }

        void addLeaf(int number) {
            if (size >= 0 && size < numbers.length) {
                numbers[size] = number;
                setEntry(2 * size, EMPTY, 0, NONE);
                setEntry(2 * size + 1, EMPTY, 0, NONE);
                size++;
            }
        }

        void addLeaves(Book from, int start, int end) {
            for (int place = start; place < end && size >= 0 && size < numbers.length; place++) {
                int front = 2 * place;
                int back = front + 1;
                numbers[size] = from.numberAt(place);
                setEntry(2 * size, from.kindOf(front), from.nameOn(front), from.friendOn(front));
                setEntry(2 * size + 1, from.kindOf(back), from.nameOn(back), from.friendOn(back));
                size++;
            }
        }

        void clearFor(int collector) {
            owner = collector;
            size = 0;
        }

        void copyFrom(Book other) {
            clearFor(other.owner);
            addLeaves(other, 0, other.size);
        }
    }

    /** Two spare books, on which bundles are laid out before a book changes, or only to see what would be. */
    private static final class Bench {
        private final Book spareOne = new Book(0);
        private final Book spareOther = new Book(0);
        private Book one = spareOne;
        private Book other = spareOther;
        private int traded;

        void takeOut(Book book, int place) {
            spareOne.clearFor(book.owner);
            spareOne.addLeaves(book, 0, book.bundleFirst(place));
            spareOne.addLeaves(book, book.bundleEnd(place), book.size);
            book.copyFrom(spareOne);
        }

        void shift(Book book, int from, int place) {
            spareOther.clearFor(book.owner);
            spareOther.addLeaves(book, book.bundleFirst(from), book.bundleEnd(from));
            takeOut(book, from);
            spareOne.clearFor(book.owner);
            spareOne.addLeaves(book, 0, place);
            spareOne.addLeaves(spareOther, 0, spareOther.size);
            spareOne.addLeaves(book, place, book.size);
            book.copyFrom(spareOne);
        }

        /** Lays out how both books would be behind a trade of two bundles. */
        void layOut(Book ofOne, int placeOne, Book ofOther, int placeOther) {
            one = ofOne;
            other = ofOther;
            layOutFor(spareOne, ofOne, placeOne, ofOther, placeOther);
            layOutFor(spareOther, ofOther, placeOther, ofOne, placeOne);
            traded = ofOne.bundleSize(placeOne) + ofOther.bundleSize(placeOther);
        }

        private void layOutFor(Book spare, Book giver, int given, Book other, int got) {
            spare.clearFor(giver.owner);
            spare.addLeaves(giver, 0, giver.bundleFirst(given));
            spare.addLeaves(other, other.bundleFirst(got), other.bundleEnd(got));
            spare.addLeaves(giver, giver.bundleEnd(given), giver.size);
        }

        boolean fits() {
            return spareOne.size <= MOST_LEAVES && spareOther.size <= MOST_LEAVES;
        }

        int gainOfOne(Names names) {
            return spareOne.worth(names) - one.worth(names);
        }

        int gainOfOther(Names names) {
            return spareOther.worth(names) - other.worth(names);
        }

        /** Lets the trade that is laid out come true. */
        void settle() {
            one.copyFrom(spareOne);
            other.copyFrom(spareOther);
        }
    }

    /** All that a change may change; each change is checked whole before it begins. */
    private static final class State {
        private final Names names = new Names();
        private final Book book0 = new Book(0);
        private final Book book1 = new Book(1);
        private final Book book2 = new Book(2);
        private final Book book3 = new Book(3);
        private final int[] purses = {FIRST_COINS, FIRST_COINS, FIRST_COINS, FIRST_COINS};
        private int tradesSoFar;
        private int leavesSoFar;

        void copyFrom(State other) {
            names.copyFrom(other.names);
            for (int collector = 0; collector < COLLECTORS; collector++) {
                bookOf(collector).copyFrom(other.bookOf(collector));
                setPurse(collector, other.purseOf(collector));
            }
            tradesSoFar = other.tradesSoFar;
            leavesSoFar = other.leavesSoFar;
        }

        Book bookOf(int collector) {
            switch (collector) {
                case 0:
                    return book0;
                case 1:
                    return book1;
                case 2:
                    return book2;
                default:
                    return book3;
            }
        }

        /** The book that has a leaf, or null. */
        Book bookWith(int leaf) {
            for (int collector = 0; collector < COLLECTORS; collector++) {
                if (bookOf(collector).find(leaf) != NONE) {
                    return bookOf(collector);
                }
            }
            return null;
        }

        int purseOf(int collector) {
            return collector >= 0 && collector < purses.length ? purses[collector] : 0;
        }

        void setPurse(int collector, int coins) {
            if (collector >= 0 && collector < purses.length) {
                purses[collector] = coins;
            }
        }

        int addName(int fame, int theme) {
            if (fame < 1 || fame > MOST_FAME || !isTheme(theme)) {
                return INVALID_ARGUMENT;
            }
            if (names.size >= MOST_NAMES) {
                return LIMIT_REACHED;
            }
            names.add(fame, theme);
            return names.size - 1;
        }

        int addLeaf(int collector) {
            if (!isCollector(collector)) {
                return INVALID_ARGUMENT;
            }
            Book book = bookOf(collector);
            if (book.size >= MOST_LEAVES) {
                return LIMIT_REACHED;
            }
            book.addLeaf(leavesSoFar);
            leavesSoFar++;
            return leavesSoFar - 1;
        }

        /** Lets a name sign a page, dedicated to a friend or to NONE. */
        int addEntry(int leaf, int side, int name, int friend) {
            Book book = bookWith(leaf);
            if (book == null || !isSide(side) || !names.has(name)) {
                return INVALID_ARGUMENT;
            }
            int page = 2 * book.find(leaf) + side;
            if (book.kindOf(page) != EMPTY) {
                return NOT_POSSIBLE;
            }
            book.setEntry(page, WHOLE, name, friend);
            return book.worth(names);
        }

        int addWideEntry(int leaf, int name) {
            Book book = bookWith(leaf);
            if (book == null || !names.has(name)) {
                return INVALID_ARGUMENT;
            }
            int place = book.find(leaf);
            int back = 2 * place + 1;
            if (place + 1 >= book.size || book.kindOf(back) != EMPTY || book.kindOf(back + 1) != EMPTY) {
                return NOT_POSSIBLE;
            }
            book.setEntry(back, FIRST_HALF, name, NONE);
            book.setEntry(back + 1, SECOND_HALF, name, NONE);
            return book.bundleSize(place);
        }

        int setFriend(int leaf, int side, int collector) {
            Book book = bookWith(leaf);
            if (book == null || !isSide(side) || !isCollector(collector)) {
                return INVALID_ARGUMENT;
            }
            int page = 2 * book.find(leaf) + side;
            int kind = book.kindOf(page);
            if (kind == EMPTY || book.friendOn(page) != NONE) {
                return NOT_POSSIBLE;
            }
            book.setFriend(page, collector);
            if (kind == FIRST_HALF) {
                book.setFriend(page + 1, collector);
            } else if (kind == SECOND_HALF) {
                book.setFriend(page - 1, collector);
            }
            return book.worth(names);
        }

        int shiftBundle(int leaf, int place, Bench bench) {
            Book book = bookWith(leaf);
            if (book == null || place < 0) {
                return INVALID_ARGUMENT;
            }
            int from = book.find(leaf);
            if (!book.canShift(from, place)) {
                return NOT_POSSIBLE;
            }
            int first = book.bundleFirst(from);
            bench.shift(book, from, place);
            return first;
        }

        int exchange(int one, int other, int paid, Bench bench) {
            Book ofOne = bookWith(one);
            Book ofOther = bookWith(other);
            if (ofOne == null || ofOther == null || !arePaid(paid)) {
                return INVALID_ARGUMENT;
            }
            int purseOne = purseOf(ofOne.owner) - paid;
            int purseOther = purseOf(ofOther.owner) + paid;
            if (ofOne.owner == ofOther.owner || purseOne < 0 || purseOther < 0) {
                return NOT_POSSIBLE;
            }
            bench.layOut(ofOne, ofOne.find(one), ofOther, ofOther.find(other));
            if (!bench.fits() || purseOne > MOST_COINS || purseOther > MOST_COINS) {
                return LIMIT_REACHED;
            }
            bench.settle();
            setPurse(ofOne.owner, purseOne);
            setPurse(ofOther.owner, purseOther);
            tradesSoFar++;
            return bench.traded;
        }

        int takeOut(int leaf, Bench bench) {
            Book book = bookWith(leaf);
            if (book == null) {
                return INVALID_ARGUMENT;
            }
            int before = book.size;
            bench.takeOut(book, book.find(leaf));
            return before - book.size;
        }

        int fillPurse(int collector, int coins) {
            if (!isCollector(collector) || coins < 0 || coins > MOST_COINS) {
                return INVALID_ARGUMENT;
            }
            int before = purseOf(collector);
            setPurse(collector, coins);
            return before;
        }

        int wealth(int collector) {
            return bookOf(collector).worth(names) + purseOf(collector);
        }

        int richest() {
            int richest = 0;
            for (int collector = 1; collector < COLLECTORS; collector++) {
                if (wealth(collector) > wealth(richest)) {
                    richest = collector;
                }
            }
            return richest;
        }

        int sumOfWorths() {
            int sum = 0;
            for (int collector = 0; collector < COLLECTORS; collector++) {
                sum += bookOf(collector).worth(names);
            }
            return sum;
        }

        int countLeaves() {
            return book0.size + book1.size + book2.size + book3.size;
        }

        int countEntries() {
            int entries = 0;
            for (int collector = 0; collector < COLLECTORS; collector++) {
                entries += bookOf(collector).countEntries();
            }
            return entries;
        }

        int countDedicated() {
            int entries = 0;
            for (int collector = 0; collector < COLLECTORS; collector++) {
                entries += bookOf(collector).countDedicated();
            }
            return entries;
        }

        int countEntriesOf(int name) {
            int entries = 0;
            for (int collector = 0; collector < COLLECTORS; collector++) {
                entries += bookOf(collector).countEntriesOf(name);
            }
            return entries;
        }

        /** The collectors in whose books a name is, as bits. */
        int ownersOf(int name) {
            int owners = 0;
            for (int collector = 0; collector < COLLECTORS; collector++) {
                if (bookOf(collector).countEntriesOf(name) > 0) {
                    owners |= 1 << collector;
                }
            }
            return owners;
        }
    }

    /** The best trade without coins for a collector. */
    private static final class BestTrade {
        private int ownLeaf;
        private int otherLeaf;
        /** By how much the wealth is greater; 0 if there is no such trade. */
        private int gained;

        void search(State state, int collector, Bench bench) {
            gained = 0;
            Book own = state.bookOf(collector);
            for (int place = 0; place < own.size; place++) {
                for (int partner = 0; partner < COLLECTORS; partner++) {
                    if (own.startsBundle(place) && partner != collector) {
                        searchBook(state.names, own, place, state.bookOf(partner), bench);
                    }
                }
            }
        }

        private void searchBook(Names names, Book own, int place, Book other, Bench bench) {
            for (int there = 0; there < other.size; there++) {
                if (other.startsBundle(there)) {
                    bench.layOut(own, place, other, there);
                    int more = bench.gainOfOne(names);
                    if (more > gained && bench.fits() && bench.gainOfOther(names) > 0) {
                        gained = more;
                        ownLeaf = own.numberAt(place);
                        otherLeaf = other.numberAt(there);
                    }
                }
            }
        }
    }

    /** The latest states, the newest one first, and a spare one in which the next is prepared. */
    private static final class History {
        private State spare = new State();
        private State first = new State();
        private State second = new State();
        private State third = new State();
        private State fourth = new State();
        private int size;

        /** Notes the state ahead of a change, before it is known whether there will be one. */
        void prepare(State state) {
            spare.copyFrom(state);
        }

        /** Keeps the state that was prepared, if what the change returned is no error; returns that. */
        int keep(int returned) {
            if (returned >= 0) {
                State dropped = fourth;
                fourth = third;
                third = second;
                second = first;
                first = spare;
                spare = dropped;
                size = Math.min(size + 1, MOST_STATES);
            }
            return returned;
        }

        void restore(State state) {
            State latest = first;
            state.copyFrom(latest);
            first = second;
            second = third;
            third = fourth;
            fourth = spare;
            spare = latest;
            size--;
        }
    }

    /** The text of orders, and what came of its latest run. */
    private static final class Orders {
        private final int[] characters = new int[MOST_CHARACTERS];
        private final int[] numbers = new int[MOST_NUMBERS];
        private int length;
        /** Where the order begins that is read or done. */
        private int start;
        /** Where the character is that is read next. */
        private int next;
        private int done;
        private int reason;
        private int cause;

        void append(int character) {
            if (length >= 0 && length < characters.length) {
                characters[length] = character;
                length++;
            }
        }

        /** Does the orders on a copy of a state, up to the first one that is not possible. */
        void run(State state, State copy, Bench bench) {
            copy.copyFrom(state);
            next = 0;
            done = 0;
            reason = NO_FAULT;
            for (int turn = 0; turn < MOST_CHARACTERS && next < length; turn++) {
                start = next;
                if (!readOrder()) {
                    reason = BAD_FORM;
                    cause = next - start;
                    return;
                }
                int returned = doOrder(copy, bench);
                if (returned < 0) {
                    reason = BAD_CALL;
                    cause = returned;
                    return;
                }
                done++;
            }
        }

        /** The character at a place of the text, or 0. */
        private int characterAt(int place) {
            return place >= 0 && place < length && place < characters.length ? characters[place] : 0;
        }

        /** Reads an order; if it is not of the form, next stays where it breaks off. */
        private boolean readOrder() {
            int wanted = howManyNumbers(characterAt(next));
            if (wanted == 0) {
                return false;
            }
            next++;
            for (int index = 0; index < wanted; index++) {
                if (index > 0 && !skip(',')) {
                    return false;
                }
                if (!isDigit(characterAt(next))) {
                    return false;
                }
                readNumber(index);
            }
            return skip(';');
        }

        private boolean skip(char expected) {
            if (characterAt(next) != expected) {
                return false;
            }
            next++;
            return true;
        }

        private void readNumber(int index) {
            int number = characterAt(next) - '0';
            next++;
            if (isDigit(characterAt(next))) {
                number = 10 * number + characterAt(next) - '0';
                next++;
            }
            if (index >= 0 && index < numbers.length) {
                numbers[index] = number;
            }
        }

        private int number(int index) {
            return index >= 0 && index < numbers.length ? numbers[index] : 0;
        }

        /** Does the order that has been read; returns what the call of it returns. */
        private int doOrder(State state, Bench bench) {
            switch (characterAt(start)) {
                case 'l':
                    return state.addLeaf(number(0));
                case 's':
                    return state.addEntry(number(0), number(1), number(2), NONE);
                case 'd':
                    return isCollector(number(3))
                            ? state.addEntry(number(0), number(1), number(2), number(3)) : INVALID_ARGUMENT;
                case 'o':
                    return state.addWideEntry(number(0), number(1));
                default:
                    return state.exchange(number(0), number(1), 0, bench);
            }
        }

        /** How many numbers the order of a letter has, 0 if there is no such order. */
        private static int howManyNumbers(int letter) {
            switch (letter) {
                case 'l':
                    return 1;
                case 'o':
                case 't':
                    return 2;
                case 's':
                    return 3;
                case 'd':
                    return 4;
                default:
                    return 0;
            }
        }

        private static boolean isDigit(int character) {
            return character >= '0' && character <= '9';
        }
    }
}
