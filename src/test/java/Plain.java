import java.util.ArrayList;
import java.util.HashSet;
import java.util.List;
import java.util.Set;
import java.util.regex.Matcher;
import java.util.regex.Pattern;

/**
 * The document once more, told with the Java library and in other ways than FairBooks does it:
 * entries as objects that two pages may share, trades that are done on copies, coins that are tried one by one.
 */
final class Plain {
    static final int INVALID = Check.INVALID;
    static final int NOT_POSSIBLE = Check.NOT_POSSIBLE;
    static final int LIMIT = Check.LIMIT;
    static final int NOT_FOUND = Check.NOT_FOUND;

    private static final Pattern ORDER = Pattern.compile(
            "l([0-9]{1,2});|s([0-9]{1,2}),([0-9]{1,2}),([0-9]{1,2});"
            + "|d([0-9]{1,2}),([0-9]{1,2}),([0-9]{1,2}),([0-9]{1,2});"
            + "|o([0-9]{1,2}),([0-9]{1,2});|t([0-9]{1,2}),([0-9]{1,2});");

    static final class Entry {
        int name;
        int friend = -1;
        boolean wide;
    }

    static final class Leaf {
        int number;
        Entry[] sides = new Entry[2];
    }

    static final class World {
        List<int[]> names = new ArrayList<>();
        List<List<Leaf>> books = new ArrayList<>();
        int[] coins = {100, 100, 100, 100};
        int trades;
        int leaves;

        World() {
            for (int i = 0; i < 4; i++) {
                books.add(new ArrayList<>());
            }
        }

        World copy() {
            World w = new World();
            w.names = new ArrayList<>(names);
            w.coins = coins.clone();
            w.trades = trades;
            w.leaves = leaves;
            for (int c = 0; c < 4; c++) {
                java.util.IdentityHashMap<Entry, Entry> twins = new java.util.IdentityHashMap<>();
                for (Leaf leaf : books.get(c)) {
                    Leaf twin = new Leaf();
                    twin.number = leaf.number;
                    for (int s = 0; s < 2; s++) {
                        Entry e = leaf.sides[s];
                        if (e != null && !twins.containsKey(e)) {
                            Entry f = new Entry();
                            f.name = e.name;
                            f.friend = e.friend;
                            f.wide = e.wide;
                            twins.put(e, f);
                        }
                        twin.sides[s] = e == null ? null : twins.get(e);
                    }
                    w.books.get(c).add(twin);
                }
            }
            return w;
        }

        int owner(int leaf) {
            for (int c = 0; c < 4; c++) {
                for (Leaf l : books.get(c)) {
                    if (l.number == leaf) {
                        return c;
                    }
                }
            }
            return -1;
        }

        Leaf get(int leaf) {
            for (List<Leaf> book : books) {
                for (Leaf l : book) {
                    if (l.number == leaf) {
                        return l;
                    }
                }
            }
            return null;
        }

        /** The bundles of a book in their order. */
        List<List<Leaf>> bundles(int c) {
            List<List<Leaf>> all = new ArrayList<>();
            Leaf last = null;
            for (Leaf l : books.get(c)) {
                boolean joined = last != null && l.sides[0] != null && l.sides[0] == last.sides[1];
                if (!joined) {
                    all.add(new ArrayList<>());
                }
                all.get(all.size() - 1).add(l);
                last = l;
            }
            return all;
        }

        List<Leaf> bundle(int leaf) {
            for (List<Leaf> b : bundles(owner(leaf))) {
                if (b.contains(get(leaf))) {
                    return b;
                }
            }
            return null;
        }

        List<Entry> entries(int c) {
            List<Entry> all = new ArrayList<>();
            for (Leaf l : books.get(c)) {
                for (Entry e : l.sides) {
                    if (e != null && !all.contains(e)) {
                        all.add(e);
                    }
                }
            }
            return all;
        }

        int value(int c, Entry entry) {
            for (Entry e : entries(c)) {
                if (e.name == entry.name) {
                    int v = names.get(e.name)[0] * 10;
                    v = entry.wide ? v + v / 2 : v;
                    v = entry.friend == c ? v + v : entry.friend >= 0 ? v >> 1 : v;
                    return e == entry ? v : v >> 1;
                }
            }
            return -1;
        }

        Set<Integer> set(int c) {
            Set<Integer> set = new HashSet<>();
            for (Entry e : entries(c)) {
                set.add(e.name);
            }
            return set;
        }

        Set<Integer> ofTheme(int theme) {
            Set<Integer> set = new HashSet<>();
            for (int i = 0; i < names.size(); i++) {
                if (names.get(i)[1] == theme) {
                    set.add(i);
                }
            }
            return set;
        }

        boolean whole(int c, int theme) {
            return !ofTheme(theme).isEmpty() && set(c).containsAll(ofTheme(theme));
        }

        int sum(int c) {
            int sum = 0;
            for (Entry e : entries(c)) {
                sum += value(c, e);
            }
            return sum;
        }

        int worth(int c) {
            int sum = sum(c);
            for (int t = 0; t < 4; t++) {
                sum += whole(c, t) ? 25 * ofTheme(t).size() : 0;
            }
            return sum;
        }

        int wealth(int c) {
            return worth(c) + coins[c];
        }

        /** A trade without any look at limits. */
        void swap(int one, int other, int paid) {
            int a = owner(one);
            int b = owner(other);
            List<Leaf> mine = bundle(one);
            List<Leaf> theirs = bundle(other);
            int i = books.get(a).indexOf(mine.get(0));
            int j = books.get(b).indexOf(theirs.get(0));
            books.get(a).removeAll(mine);
            books.get(b).removeAll(theirs);
            books.get(a).addAll(i, theirs);
            books.get(b).addAll(j, mine);
            coins[a] -= paid;
            coins[b] += paid;
            trades++;
        }

        int name(int fame, int theme) {
            if (fame < 1 || fame > 50 || theme < 0 || theme > 3) {
                return INVALID;
            }
            if (names.size() == 16) {
                return LIMIT;
            }
            names.add(new int[] {fame, theme});
            return names.size() - 1;
        }

        int leaf(int c) {
            if (c < 0 || c > 3) {
                return INVALID;
            }
            if (books.get(c).size() == 8) {
                return LIMIT;
            }
            Leaf l = new Leaf();
            l.number = leaves++;
            books.get(c).add(l);
            return l.number;
        }

        boolean bad(int leaf, int side, int name) {
            return owner(leaf) < 0 || side < 0 || side > 1 || name < 0 || name >= names.size();
        }

        int sign(int leaf, int side, int name) {
            if (bad(leaf, side, name)) {
                return INVALID;
            }
            if (get(leaf).sides[side] != null) {
                return NOT_POSSIBLE;
            }
            Entry e = new Entry();
            e.name = name;
            get(leaf).sides[side] = e;
            return worth(owner(leaf));
        }

        int over(int leaf, int name) {
            if (bad(leaf, 0, name)) {
                return INVALID;
            }
            List<Leaf> book = books.get(owner(leaf));
            int i = book.indexOf(get(leaf));
            if (i == book.size() - 1 || book.get(i).sides[1] != null || book.get(i + 1).sides[0] != null) {
                return NOT_POSSIBLE;
            }
            Entry e = new Entry();
            e.name = name;
            e.wide = true;
            book.get(i).sides[1] = e;
            book.get(i + 1).sides[0] = e;
            return bundle(leaf).size();
        }

        int dedicate(int leaf, int side, int c) {
            if (owner(leaf) < 0 || side < 0 || side > 1 || c < 0 || c > 3) {
                return INVALID;
            }
            Entry e = get(leaf).sides[side];
            if (e == null || e.friend >= 0) {
                return NOT_POSSIBLE;
            }
            e.friend = c;
            return worth(owner(leaf));
        }

        int move(int leaf, int place) {
            if (owner(leaf) < 0 || place < 0) {
                return INVALID;
            }
            int c = owner(leaf);
            List<Leaf> mine = bundle(leaf);
            int first = books.get(c).indexOf(mine.get(0));
            List<List<Leaf>> others = bundles(c);
            others.removeIf(b -> b.get(0) == mine.get(0));
            List<Leaf> result = new ArrayList<>();
            boolean put = false;
            for (List<Leaf> b : others) {
                if (result.size() == place && !put) {
                    result.addAll(mine);
                    put = true;
                }
                result.addAll(b);
            }
            if (result.size() == place && !put) {
                result.addAll(mine);
                put = true;
            }
            if (!put) {
                return NOT_POSSIBLE;
            }
            books.set(c, result);
            return first;
        }

        int trade(int one, int other, int paid) {
            if (owner(one) < 0 || owner(other) < 0 || paid < -9999 || paid > 9999) {
                return INVALID;
            }
            int a = owner(one);
            int b = owner(other);
            if (a == b || paid > 0 && coins[a] < paid || paid < 0 && coins[b] < -paid) {
                return NOT_POSSIBLE;
            }
            int traded = bundle(one).size() + bundle(other).size();
            World w = copy();
            w.swap(one, other, paid);
            if (w.books.get(a).size() > 8 || w.books.get(b).size() > 8 || w.coins[a] > 9999 || w.coins[b] > 9999) {
                return LIMIT;
            }
            swap(one, other, paid);
            return traded;
        }

        int tear(int leaf) {
            if (owner(leaf) < 0) {
                return INVALID;
            }
            List<Leaf> mine = bundle(leaf);
            books.get(owner(leaf)).removeAll(mine);
            return mine.size();
        }

        int coins(int c, int n) {
            if (c < 0 || c > 3 || n < 0 || n > 9999) {
                return INVALID;
            }
            int before = coins[c];
            coins[c] = n;
            return before;
        }

        /** Does an order; null if it is not of the form. */
        Integer order(String text) {
            Matcher m = ORDER.matcher(text);
            if (!m.matches()) {
                return null;
            }
            List<Integer> n = new ArrayList<>();
            for (int g = 1; g <= m.groupCount(); g++) {
                if (m.group(g) != null) {
                    n.add(Integer.parseInt(m.group(g)));
                }
            }
            switch (text.charAt(0)) {
                case 'l':
                    return leaf(n.get(0));
                case 's':
                    return sign(n.get(0), n.get(1), n.get(2));
                case 'o':
                    return over(n.get(0), n.get(1));
                case 't':
                    return trade(n.get(0), n.get(1), 0);
                default:
                    if (bad(n.get(0), n.get(1), n.get(2)) || n.get(3) > 3) {
                        return INVALID;
                    }
                    int signed = sign(n.get(0), n.get(1), n.get(2));
                    return signed < 0 ? signed : dedicate(n.get(0), n.get(1), n.get(3));
            }
        }
    }

    World now = new World();
    List<World> history = new ArrayList<>();
    String text = "";

    private int change(World before, int result) {
        if (result >= 0) {
            history.add(before);
            if (history.size() > 4) {
                history.remove(0);
            }
        }
        return result;
    }

    int pageOf(int leaf, int side, int what) {
        if (now.owner(leaf) < 0 || side < 0 || side > 1 || what < 0 || what > 3) {
            return INVALID;
        }
        Entry e = now.get(leaf).sides[side];
        if (e == null || what == 1 && e.friend < 0) {
            return NOT_FOUND;
        }
        int[] all = {e.name, e.friend, e.wide ? 1 : 0, now.value(now.owner(leaf), e)};
        return all[what];
    }

    int leafOf(int leaf, int what) {
        if (now.owner(leaf) < 0 || what < 0 || what > 3) {
            return INVALID;
        }
        int c = now.owner(leaf);
        List<Leaf> book = now.books.get(c);
        List<Leaf> bundle = now.bundle(leaf);
        int[] all = {c, book.indexOf(now.get(leaf)), bundle.size(), book.indexOf(bundle.get(0))};
        return all[what];
    }

    int at(int c, int place) {
        if (c < 0 || c > 3 || place < 0) {
            return INVALID;
        }
        return place >= now.books.get(c).size() ? NOT_FOUND : now.books.get(c).get(place).number;
    }

    private static int bits(Set<Integer> set) {
        int bits = 0;
        for (int i : set) {
            bits += 1 << i;
        }
        return bits;
    }

    int collectorOf(int c, int what) {
        if (c < 0 || c > 3 || what < 0 || what > 8) {
            return INVALID;
        }
        int themes = 0;
        for (int t = 0; t < 4; t++) {
            themes += now.whole(c, t) ? 1 << t : 0;
        }
        int own = (int) now.entries(c).stream().filter(e -> e.friend == c).count();
        int[] all = {now.coins[c], now.books.get(c).size(), now.entries(c).size(), now.worth(c), now.wealth(c),
            bits(now.set(c)), themes, now.bundles(c).size(), own};
        return all[what];
    }

    int nameOf(int name, int what) {
        if (name < 0 || name >= now.names.size() || what < 0 || what > 3) {
            return INVALID;
        }
        int entries = 0;
        int owners = 0;
        for (int c = 0; c < 4; c++) {
            int here = (int) now.entries(c).stream().filter(e -> e.name == name).count();
            entries += here;
            owners += here > 0 ? 1 << c : 0;
        }
        int[] all = {now.names.get(name)[0], now.names.get(name)[1], entries, owners};
        return all[what];
    }

    int gain(int one, int other, int paid, int whose) {
        if (now.owner(one) < 0 || now.owner(other) < 0 || paid < -9999 || paid > 9999 || whose < 0 || whose > 1) {
            return INVALID;
        }
        if (now.owner(one) == now.owner(other)) {
            return NOT_POSSIBLE;
        }
        World w = now.copy();
        w.swap(one, other, paid);
        int c = now.owner(whose == 0 ? one : other);
        return 100000 + w.wealth(c) - now.wealth(c);
    }

    int fair(int one, int other) {
        int a = gain(one, other, 0, 0);
        int b = gain(one, other, 0, 1);
        if (a < 0) {
            return a;
        }
        for (int paid = -9999; paid <= 9999; paid++) {
            if (a - paid > 100000 && b + paid > 100000) {
                return paid + 10000;
            }
        }
        return NOT_FOUND;
    }

    int best(int c, int what) {
        if (c < 0 || c > 3 || what < 0 || what > 2) {
            return INVALID;
        }
        int[] found = null;
        for (List<Leaf> mine : now.bundles(c)) {
            for (int d = 0; d < 4; d++) {
                for (List<Leaf> theirs : now.bundles(d)) {
                    World w = now.copy();
                    if (d == c || w.trade(mine.get(0).number, theirs.get(0).number, 0) < 0) {
                        continue;
                    }
                    int more = w.wealth(c) - now.wealth(c);
                    if (more > 0 && w.wealth(d) > now.wealth(d) && (found == null || more > found[2])) {
                        found = new int[] {mine.get(0).number, theirs.get(0).number, more};
                    }
                }
            }
        }
        return found == null ? NOT_FOUND : found[what];
    }

    int missing(int c, int theme) {
        if (c < 0 || c > 3 || theme < 0 || theme > 3) {
            return INVALID;
        }
        Set<Integer> set = now.ofTheme(theme);
        set.removeAll(now.set(c));
        return bits(set);
    }

    int mean(int c) {
        if (c < 0 || c > 3) {
            return INVALID;
        }
        int n = now.entries(c).size();
        return n == 0 ? NOT_FOUND : Float.floatToIntBits((float) now.sum(c) / (float) n);
    }

    int count(int what) {
        if (what < 0 || what > 9) {
            return INVALID;
        }
        int leaves = 0;
        int entries = 0;
        int worths = 0;
        int dedicated = 0;
        int rich = 3;
        for (int c = 3; c >= 0; c--) {
            leaves += now.books.get(c).size();
            entries += now.entries(c).size();
            worths += now.worth(c);
            dedicated += (int) now.entries(c).stream().filter(e -> e.friend >= 0).count();
            rich = now.wealth(c) >= now.wealth(rich) ? c : rich;
        }
        int[] all = {now.names.size(), leaves, entries, now.trades, now.leaves, rich, worths, dedicated,
            history.size(), text.length()};
        return all[what];
    }

    int undo() {
        if (history.isEmpty()) {
            return NOT_POSSIBLE;
        }
        now = history.remove(history.size() - 1);
        return history.size();
    }

    int type(int character) {
        if (character < 32 || character > 126) {
            return INVALID;
        }
        if (text.length() == 60) {
            return LIMIT;
        }
        text += (char) character;
        return text.length();
    }

    int clearText() {
        int before = text.length();
        text = "";
        return before;
    }

    /** Position, reason and cause of the fault, or the number of orders alone. */
    private int[] run(World w) {
        int at = 0;
        int done = 0;
        while (at < text.length()) {
            int end = text.indexOf(';', at) + 1;
            Integer result = end == 0 ? null : w.order(text.substring(at, end));
            if (result == null) {
                return new int[] {at, 1, breaksOff(text.substring(at))};
            }
            if (result < 0) {
                return new int[] {at, 2, result};
            }
            at = end;
            done++;
        }
        return new int[] {done};
    }

    /** How many characters could stand at the beginning of an order. */
    private static int breaksOff(String rest) {
        int length = 0;
        while (length < rest.length()) {
            Matcher m = ORDER.matcher(rest.substring(0, length + 1));
            if (!m.matches() && !m.hitEnd()) {
                break;
            }
            length++;
        }
        return length;
    }

    int fault(int what) {
        if (what < 0 || what > 2) {
            return INVALID;
        }
        int[] fault = run(now.copy());
        return fault.length == 1 ? NOT_FOUND : fault[what];
    }

    int play() {
        World w = now.copy();
        int[] fault = run(w);
        if (fault.length > 1) {
            return NOT_POSSIBLE;
        }
        change(now, fault[0]);
        now = w;
        return fault[0];
    }

    /** The call of a number, with its arguments. */
    int call(int which, int a, int b, int c, int d) {
        World before = which <= 8 ? now.copy() : null;
        switch (which) {
            case 0: return change(before, now.name(a, b));
            case 1: return change(before, now.leaf(a));
            case 2: return change(before, now.sign(a, b, c));
            case 3: return change(before, now.over(a, b));
            case 4: return change(before, now.dedicate(a, b, c));
            case 5: return change(before, now.move(a, b));
            case 6: return change(before, now.trade(a, b, c));
            case 7: return change(before, now.tear(a));
            case 8: return change(before, now.coins(a, b));
            case 9: return pageOf(a, b, c);
            case 10: return leafOf(a, b);
            case 11: return at(a, b);
            case 12: return collectorOf(a, b);
            case 13: return nameOf(a, b);
            case 14: return gain(a, b, c, d);
            case 15: return fair(a, b);
            case 16: return best(a, b);
            case 17: return missing(a, b);
            case 18: return mean(a);
            case 19: return count(a);
            case 20: return undo();
            case 21: return type(a);
            case 22: return clearText();
            case 23: return fault(a);
            default: return play();
        }
    }
}
