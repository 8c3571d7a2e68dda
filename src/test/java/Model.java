import java.math.BigInteger;
import java.util.ArrayList;
import java.util.Arrays;
import java.util.List;
import java.util.NoSuchElementException;
import java.util.TreeMap;

/** The document over again, by trying everything out; RandomTest holds PoundsOver against it. */
final class Model {
    static final class Person {
        int own, pockets, bears;
    }

    static final class Case {
        int owner, limit, holds, cost;
        boolean board;
    }

    static final class Thing {
        String kind;
        int weight, unsure, size, value, first, heat;
    }

    static final class Post {
        int upTo, price;
    }

    interface Expr {
        int value(TreeMap<String, Integer> values);
    }

    static final class Fault extends RuntimeException {
        final int kind, place;

        Fault(int kind, int place) {
            super(null, null, false, false);
            this.kind = kind;
            this.place = place;
        }
    }

    static final List<String> KINDS = List.of("thing", "coat", "sharp", "glass", "food", "shirt");
    static final List<String> VALUES = List.of("over", "weight", "limit", "things", "board");

    static final class Told {
        final List<Person> people = new ArrayList<>();
        final List<Case> cases = new ArrayList<>();
        final List<Thing> things = new ArrayList<>();
        final List<Post> posts = new ArrayList<>();
        int[] looks;
        Expr fee;
    }

    // ---- a text

    static final class Parser {
        final String text;
        final Told told = new Told();
        int at;
        String token;
        int place;

        Parser(String text) {
            this.text = text;
            next();
        }

        void next() {
            while (at < text.length() && (text.charAt(at) == ' ' || text.charAt(at) == '\n')) {
                at++;
            }
            place = at;
            java.util.regex.Matcher m = java.util.regex.Pattern.compile("[a-z]+|[0-9]+|[;()+*/<=-]").matcher(text);
            m.region(at, text.length());
            if (at == text.length()) {
                token = "";
            } else if (m.lookingAt()) {
                token = m.group();
                at = m.end();
            } else {
                token = "?";
            }
        }

        Fault fault(int kind) {
            return new Fault(kind, place);
        }

        boolean isWord() {
            return token.matches("[a-z]+");
        }

        boolean isNumber() {
            return token.matches("[0-9]+");
        }

        int number(int least, int most) {
            if (!isNumber()) {
                throw fault(1);
            }
            if (token.length() > 4 || Integer.parseInt(token) < least || Integer.parseInt(token) > most) {
                throw fault(2);
            }
            return Integer.parseInt(token);
        }

        int taken(int least, int most) {
            int n = number(least, most);
            next();
            return n;
        }

        void expect(String sign) {
            if (!token.equals(sign)) {
                throw fault(1);
            }
            next();
        }

        Told whole() {
            while (!token.isEmpty()) {
                line();
                expect(";");
            }
            return told;
        }

        void line() {
            if (token.equals("person")) {
                if (told.people.size() == 4) {
                    throw fault(2);
                }
                next();
                Person p = new Person();
                p.own = taken(1, 300);
                p.pockets = taken(0, 9);
                p.bears = taken(0, 30);
                told.people.add(p);
            } else if (token.equals("case")) {
                caseLine();
            } else if (KINDS.contains(token)) {
                thingLine();
            } else if (token.equals("post")) {
                if (told.posts.size() == 6) {
                    throw fault(2);
                }
                next();
                Post p = new Post();
                p.upTo = number(1, 99);
                if (!told.posts.isEmpty() && told.posts.get(told.posts.size() - 1).upTo >= p.upTo) {
                    throw fault(4);
                }
                next();
                p.price = taken(0, 999);
                told.posts.add(p);
            } else if (token.equals("looks")) {
                if (told.looks != null) {
                    throw fault(5);
                }
                next();
                told.looks = new int[] {taken(0, 10), taken(0, 999)};
            } else if (token.equals("fee")) {
                if (told.fee != null) {
                    throw fault(5);
                }
                next();
                told.fee = expr(0);
            } else {
                throw fault(1);
            }
        }

        void caseLine() {
            if (told.cases.size() == 5) {
                throw fault(2);
            }
            next();
            Case c = new Case();
            c.owner = number(0, 9999);
            if (c.owner >= told.people.size()) {
                throw fault(3);
            }
            next();
            c.limit = taken(0, 200);
            c.holds = taken(0, 60);
            c.cost = taken(0, 99);
            if (token.equals("board")) {
                c.board = true;
                next();
            }
            told.cases.add(c);
        }

        void thingLine() {
            if (told.things.size() == 12) {
                throw fault(2);
            }
            Thing t = new Thing();
            t.kind = token;
            next();
            t.weight = taken(0, 60);
            t.unsure = taken(0, Math.min(9, t.weight));
            t.size = taken(0, 20);
            t.value = taken(0, 999);
            t.first = number(0, 9999);
            if (t.first >= told.cases.size()) {
                throw fault(3);
            }
            int sizes = told.things.stream().filter(o -> o.first == t.first).mapToInt(o -> o.size).sum();
            Case c = told.cases.get(t.first);
            if (t.kind.equals("sharp") && c.board || sizes + t.size > c.holds) {
                throw fault(6);
            }
            next();
            if (t.kind.equals("coat")) {
                t.heat = taken(1, 9);
            }
            told.things.add(t);
        }

        Expr expr(int around) {
            if (around >= 6 && (isNumber() || isWord() || token.equals("("))) {
                throw fault(2);
            }
            Expr left = and(around);
            while (token.equals("or")) {
                next();
                Expr a = left, b = and(around);
                left = v -> (a.value(v) != 0 | b.value(v) != 0) ? 1 : 0;
            }
            return left;
        }

        Expr and(int around) {
            Expr left = not(around, 1);
            while (token.equals("and")) {
                next();
                Expr a = left, b = not(around, 1);
                left = v -> (a.value(v) != 0 & b.value(v) != 0) ? 1 : 0;
            }
            return left;
        }

        Expr not(int around, int which) {
            if (token.equals("not")) {
                if (which == 7) {
                    throw fault(2);
                }
                next();
                Expr a = not(around, which + 1);
                return v -> a.value(v) == 0 ? 1 : 0;
            }
            Expr a = sum(around);
            if (token.equals("<")) {
                next();
                Expr b = sum(around);
                return v -> a.value(v) < b.value(v) ? 1 : 0;
            }
            if (token.equals("=")) {
                next();
                Expr b = sum(around);
                return v -> a.value(v) == b.value(v) ? 1 : 0;
            }
            return a;
        }

        Expr sum(int around) {
            Expr left = product(around);
            while (token.equals("+") || token.equals("-")) {
                boolean plus = token.equals("+");
                next();
                Expr a = left, b = product(around);
                left = v -> plus ? a.value(v) + b.value(v) : a.value(v) - b.value(v);
            }
            return left;
        }

        Expr product(int around) {
            Expr left = part(around);
            while (token.equals("*") || token.equals("/")) {
                boolean times = token.equals("*");
                next();
                Expr a = left, b = part(around);
                left = v -> {
                    int x = a.value(v), y = b.value(v);
                    return times ? x * y : y == 0 ? 0 : (int) ((long) x / y);
                };
            }
            return left;
        }

        Expr part(int around) {
            if (isNumber()) {
                int n = taken(0, 9999);
                return v -> n;
            }
            if (isWord()) {
                String name = token;
                if (!VALUES.contains(name)) {
                    throw fault(3);
                }
                next();
                return v -> v.get(name);
            }
            expect("(");
            Expr inside = expr(around + 1);
            expect(")");
            return inside;
        }
    }

    // ---- the state

    final StringBuilder tape = new StringBuilder();
    Told told = new Told();
    int faultPlace = -1;
    int[] fates;
    int[] carriers;

    static final class State {
        int[] places = new int[0];
        int opened;
        List<int[]> acts = new ArrayList<>();
        List<int[]> seen = new ArrayList<>();
        int[] status = new int[3];

        State copy() {
            State s = new State();
            s.places = places.clone();
            s.opened = opened;
            s.acts = new ArrayList<>(acts);
            s.seen = new ArrayList<>(seen);
            s.status = status.clone();
            return s;
        }
    }

    State now = new State();
    State image;

    int feed(int... fours) {
        if (tape.length() + 20 > 700) {
            return -1;
        }
        for (int f : fours) {
            tape.append((char) (f >> 24 & 255)).append((char) (f >> 16 & 255)).append((char) (f >> 8 & 255));
            tape.append((char) (f & 255));
        }
        return tape.length();
    }

    int hall(int n) {
        if (n < 0 || n > tape.length()) {
            throw new IllegalArgumentException();
        }
        String text = tape.substring(0, n);
        tape.setLength(0);
        try {
            told = new Parser(text).whole();
        } catch (Fault f) {
            faultPlace = f.place;
            now.status[0]++;
            return f.kind;
        }
        faultPlace = -1;
        int[] status = now.status;
        now = new State();
        now.status = status;
        now.places = told.things.stream().mapToInt(t -> t.first).toArray();
        image = null;
        fates = null;
        carriers = null;
        return 0;
    }

    int fault() {
        return faultPlace;
    }

    static void need(int i, int n) {
        if (i < 0 || i >= n) {
            throw new NoSuchElementException();
        }
    }

    Person needPerson(int p) {
        need(p, told.people.size());
        return told.people.get(p);
    }

    Case needCase(int c) {
        need(c, told.cases.size());
        return told.cases.get(c);
    }

    Thing needThing(int t) {
        need(t, told.things.size());
        return told.things.get(t);
    }

    int count(int what) {
        need(what, 13);
        int[] looks = told.looks == null ? new int[2] : told.looks;
        return new int[] {told.people.size(), told.cases.size(), told.things.size(), told.posts.size(), looks[0],
            looks[1], now.opened, now.acts.size(), now.seen.size(), tape.length(), now.status[0], now.status[1],
            now.status[2]}[what];
    }

    List<Integer> at(int[] places, int place) {
        List<Integer> list = new ArrayList<>();
        for (int t = 0; t < told.things.size(); t++) {
            if (places[t] == place) {
                list.add(t);
            }
        }
        return list;
    }

    int weight(List<Integer> list) {
        return list.stream().mapToInt(t -> told.things.get(t).weight).sum();
    }

    int size(List<Integer> list) {
        return list.stream().mapToInt(t -> told.things.get(t).size).sum();
    }

    int heat(List<Integer> list) {
        return list.stream().mapToInt(t -> told.things.get(t).heat).sum();
    }

    boolean has(List<Integer> list, String kind) {
        return list.stream().anyMatch(t -> told.things.get(t).kind.equals(kind));
    }

    int bits(List<Integer> list) {
        return list.stream().mapToInt(t -> 1 << t).sum();
    }

    int over(int[] places, int c) {
        return Math.max(0, weight(at(places, c)) - told.cases.get(c).limit);
    }

    int fee(int c, List<Integer> list) {
        Case k = told.cases.get(c);
        int over = weight(list) - k.limit;
        if (over <= 0) {
            return 0;
        }
        if (told.fee == null) {
            return Math.min(9999, 10 * over);
        }
        TreeMap<String, Integer> v = new TreeMap<>();
        v.put("over", over);
        v.put("weight", weight(list));
        v.put("limit", k.limit);
        v.put("things", list.size());
        v.put("board", k.board ? 1 : 0);
        return Math.max(0, Math.min(9999, told.fee.value(v)));
    }

    List<Integer> pocketed(int[] places, int p) {
        List<Integer> list = at(places, 10 + p);
        list.removeIf(t -> told.things.get(t).kind.equals("coat"));
        return list;
    }

    boolean hasShirt(int p, int without) {
        for (int t = 0; t < told.things.size(); t++) {
            int at = now.places[t];
            boolean his = at == 10 + p || at < 10 && at != without && told.cases.get(at).owner == p;
            if (his && told.things.get(t).kind.equals("shirt")) {
                return true;
            }
        }
        return false;
    }

    int person(int p, int what) {
        Person q = needPerson(p);
        need(what, 6);
        return new int[] {q.own, q.pockets, q.bears, heat(at(now.places, 10 + p)), size(pocketed(now.places, p)),
            hasShirt(p, -1) ? 1 : 0}[what];
    }

    int box(int c, int what) {
        Case k = needCase(c);
        need(what, 10);
        List<Integer> in = at(now.places, c);
        return new int[] {k.owner, k.limit, k.holds, k.cost, k.board ? 1 : 0, weight(in), size(in),
            over(now.places, c), fee(c, in), bits(in)}[what];
    }

    int price(int t) {
        for (Post p : told.posts) {
            if (told.things.get(t).weight <= p.upTo) {
                return p.price;
            }
        }
        return -1;
    }

    int thing(int t, int what) {
        Thing g = needThing(t);
        need(what, 8);
        return new int[] {KINDS.indexOf(g.kind), g.weight, g.unsure, g.size, g.value, now.places[t], g.heat,
            price(t)}[what];
    }

    boolean may(int[] places, int t, int place) {
        Thing g = told.things.get(t);
        if (places[t] >= 20 || places[t] == place) {
            return false;
        }
        if (place == 20) {
            return true;
        }
        if (place == 21) {
            return price(t) >= 0;
        }
        if (place == 22) {
            return g.kind.equals("food");
        }
        if (place >= 0 && place < told.cases.size()) {
            Case k = told.cases.get(place);
            return size(at(places, place)) + g.size <= k.holds && !(k.board && g.kind.equals("sharp"));
        }
        if (place >= 10 && place < 10 + told.people.size()) {
            Person p = told.people.get(place - 10);
            if (g.kind.equals("coat")) {
                return heat(at(places, place)) + g.heat <= p.bears;
            }
            return g.size <= 2 && size(pocketed(places, place - 10)) + g.size <= p.pockets;
        }
        return false;
    }

    boolean may(int t, int place) {
        needThing(t);
        return may(now.places, t, place);
    }

    static int opening(int opened, int from, int to) {
        return opened | (from < 10 ? 1 << from : 0) | (to < 10 ? 1 << to : 0);
    }

    int shift(int t, int place) {
        if (!may(t, place)) {
            now.status[1]++;
            return -1;
        }
        int from = now.places[t];
        now.acts.add(new int[] {t, from, now.opened});
        if (now.acts.size() > 40) {
            now.acts.remove(0);
        }
        now.opened = opening(now.opened, from, place);
        now.places[t] = place;
        return from;
    }

    int undo() {
        if (now.acts.isEmpty()) {
            return -1;
        }
        int[] act = now.acts.remove(now.acts.size() - 1);
        now.places[act[0]] = act[1];
        now.opened = act[2];
        return now.acts.size();
    }

    int bill(int[] places, int opened) {
        int sum = 0;
        for (int c = 0; c < told.cases.size(); c++) {
            sum += fee(c, at(places, c)) + ((opened & 1 << c) != 0 ? told.cases.get(c).cost : 0);
        }
        for (int t : at(places, 20)) {
            sum += told.things.get(t).value;
        }
        for (int t : at(places, 21)) {
            sum += price(t);
        }
        return sum;
    }

    int bill() {
        return bill(now.places, now.opened);
    }

    int lawful() {
        for (int c = 0; c < told.cases.size(); c++) {
            if (over(now.places, c) > 0) {
                return 20 + c;
            }
        }
        for (int c = 0; c < told.cases.size(); c++) {
            List<Integer> in = at(now.places, c);
            if (has(in, "glass") && !has(in, "coat") && !has(in, "shirt")) {
                return 10 + c;
            }
        }
        return 0;
    }

    // ---- cases

    boolean holds(int[] places, int c) {
        List<Integer> in = at(places, c);
        return size(in) <= told.cases.get(c).holds && !(told.cases.get(c).board && has(in, "sharp"));
    }

    int two(int one, int other) {
        needCase(one);
        needCase(other);
        if (one == other) {
            throw new IllegalArgumentException();
        }
        int best = -1;
        for (int set = 0; set < 1 << told.things.size(); set++) {
            int[] places = now.places.clone();
            boolean ours = true;
            for (int t = 0; t < places.length; t++) {
                if ((set & 1 << t) != 0) {
                    ours &= places[t] == one || places[t] == other;
                    places[t] = one + other - places[t];
                }
            }
            if (ours && over(places, one) == 0 && over(places, other) == 0 && holds(places, one)
                && holds(places, other) && (best < 0 || Integer.bitCount(set) < Integer.bitCount(best))) {
                best = set;
            }
        }
        return best;
    }

    int opened() {
        int best = -1, bestCost = 0;
        for (int set = 0; set < 1 << told.cases.size(); set++) {
            int cost = 0;
            List<Integer> inside = new ArrayList<>();
            for (int c = 0; c < told.cases.size(); c++) {
                if ((set & 1 << c) != 0) {
                    cost += (now.opened & 1 << c) != 0 ? 0 : told.cases.get(c).cost;
                    inside.addAll(at(now.places, c));
                }
            }
            boolean better = best < 0 || cost < bestCost
                || cost == bestCost && Integer.bitCount(set) < Integer.bitCount(best);
            if (!better) {
                continue;
            }
            if (inside.size() > 8) {
                return -2;
            }
            if (packs(set, inside, 0, now.places.clone())) {
                best = set;
                bestCost = cost;
            }
        }
        return best;
    }

    /** Each THING inside, one after the other, to every place where it could be. */
    boolean packs(int set, List<Integer> inside, int i, int[] places) {
        if (i == 0) {
            for (int t : inside) {
                places[t] = -9;
            }
        }
        for (int c = 0; c < told.cases.size(); c++) {
            if (over(places, c) > 0 || !holds(places, c)) {
                return false;
            }
        }
        for (int p = 0; p < told.people.size(); p++) {
            if (heat(at(places, 10 + p)) > told.people.get(p).bears) {
                return false;
            }
        }
        if (i == inside.size()) {
            return true;
        }
        int t = inside.get(i);
        boolean coat = told.things.get(t).kind.equals("coat");
        for (int c = 0; c < told.cases.size(); c++) {
            if ((set & 1 << c) == 0) {
                continue;
            }
            places[t] = c;
            if (packs(set, inside, i + 1, places)) {
                return true;
            }
            places[t] = 10 + told.cases.get(c).owner;
            if (coat && packs(set, inside, i + 1, places)) {
                return true;
            }
        }
        places[t] = -9;
        return false;
    }

    int cheapest;
    int[] cheapestRow;

    int cheap(int c) {
        needCase(c);
        List<Integer> in = at(now.places, c);
        cheapest = Integer.MAX_VALUE;
        rows(c, in, 0, new int[told.things.size()], 0);
        fates = new int[told.things.size()];
        Arrays.fill(fates, -1);
        for (int t : in) {
            fates[t] = cheapestRow[t];
        }
        return cheapest;
    }

    void rows(int c, List<Integer> in, int i, int[] row, int paid) {
        if (i == in.size()) {
            List<Integer> staying = new ArrayList<>(in);
            staying.removeIf(t -> row[t] != 0);
            int sum = paid + fee(c, staying);
            if (sum < cheapest) {
                cheapest = sum;
                cheapestRow = row.clone();
            }
            return;
        }
        int t = in.get(i);
        row[t] = 0;
        rows(c, in, i + 1, row, paid);
        row[t] = 1;
        rows(c, in, i + 1, row, paid + told.things.get(t).value);
        if (price(t) >= 0) {
            row[t] = 2;
            rows(c, in, i + 1, row, paid + price(t));
        }
        row[t] = 0;
    }

    int fate(int t) {
        needThing(t);
        if (fates == null || fates[t] < 0) {
            throw new NoSuchElementException();
        }
        return fates[t];
    }

    // ---- weights that aren't sure

    /** How many of all rows of weights come to which weight together. */
    TreeMap<Integer, BigInteger> spread(List<Integer> list) {
        TreeMap<Integer, BigInteger> ways = new TreeMap<>();
        ways.put(0, BigInteger.ONE);
        for (int t : list) {
            Thing g = told.things.get(t);
            TreeMap<Integer, BigInteger> more = new TreeMap<>();
            for (int w : ways.keySet()) {
                for (int x = g.weight - g.unsure; x <= g.weight + g.unsure; x++) {
                    more.merge(w + x, ways.get(w), BigInteger::add);
                }
            }
            ways = more;
        }
        return ways;
    }

    /** 1 all within the limit, 0 none, 2 some. */
    static int known(TreeMap<Integer, BigInteger> ways, int limit) {
        return ways.lastKey() <= limit ? 1 : ways.firstKey() > limit ? 0 : 2;
    }

    long sure(int c, int what) {
        Case k = needCase(c);
        need(what, 5);
        TreeMap<Integer, BigInteger> ways = spread(at(now.places, c));
        BigInteger all = BigInteger.ZERO, good = BigInteger.ZERO;
        for (int w : ways.keySet()) {
            all = all.add(ways.get(w));
            good = w <= k.limit ? good.add(ways.get(w)) : good;
        }
        BigInteger g = all.gcd(good);
        return new long[] {ways.firstKey(), ways.lastKey(), known(ways, k.limit), good.divide(g).longValueExact(),
            all.divide(g).longValueExact()}[what];
    }

    int weigh(int c, int what) {
        Case k = needCase(c);
        need(what, 3);
        List<Integer> in = at(now.places, c);
        if (known(spread(in), k.limit) != 2) {
            return new int[] {-1, 0, 1}[what];
        }
        int best = -1, up = 0, low = 1;
        for (int t : in) {
            Thing g = told.things.get(t);
            List<Integer> others = new ArrayList<>(in);
            others.remove((Integer) t);
            int known = 0;
            for (int w = g.weight - g.unsure; w <= g.weight + g.unsure; w++) {
                known += known(spread(others), k.limit - w) != 2 ? 1 : 0;
            }
            if (best < 0 || known * low > up * (2 * g.unsure + 1)) {
                best = t;
                up = known;
                low = 2 * g.unsure + 1;
            }
        }
        int g = BigInteger.valueOf(up).gcd(BigInteger.valueOf(low)).intValue();
        return new int[] {best, up / g, low / g}[what];
    }

    // ---- people

    int lost(int c) {
        needCase(c);
        int bits = 0;
        for (int p = 0; p < told.people.size(); p++) {
            bits |= hasShirt(p, -1) && !hasShirt(p, c) ? 1 << p : 0;
        }
        return bits;
    }

    int safe() {
        int bits = 0;
        for (int c = 0; c < told.cases.size(); c++) {
            bits |= lost(c) == 0 ? 1 << c : 0;
        }
        return bits;
    }

    int wear(int p, int pounds, boolean bits) {
        Person q = needPerson(p);
        if (pounds < 0 || pounds > 200) {
            throw new IllegalArgumentException();
        }
        int best = -1, bestHeat = 0;
        for (int set = 0; set < 1 << told.things.size(); set++) {
            List<Integer> on = new ArrayList<>();
            for (int t = 0; t < told.things.size(); t++) {
                if ((set & 1 << t) != 0) {
                    on.add(t);
                }
            }
            boolean own = on.stream().allMatch(t -> told.things.get(t).kind.equals("coat") && now.places[t] < 10
                && told.cases.get(now.places[t]).owner == p);
            if (own && weight(on) >= pounds && heat(on) + heat(at(now.places, 10 + p)) <= q.bears
                && (best < 0 || heat(on) < bestHeat)) {
                best = set;
                bestHeat = heat(on);
            }
        }
        return best < 0 ? -1 : bits ? best : bestHeat;
    }

    int bestShare;

    int share() {
        if (told.people.isEmpty()) {
            return -1;
        }
        bestShare = Integer.MAX_VALUE;
        carry(new int[told.cases.size()], 0);
        return bestShare;
    }

    void carry(int[] row, int c) {
        if (c < row.length) {
            for (row[c] = 0; row[c] < told.people.size(); row[c]++) {
                carry(row, c + 1);
            }
            return;
        }
        int greatest = 0;
        for (int p = 0; p < told.people.size(); p++) {
            int load = 0;
            for (int i = 0; i < row.length; i++) {
                load += row[i] == p ? weight(at(now.places, i)) : 0;
            }
            greatest = Math.max(greatest, load * 1000 / told.people.get(p).own);
        }
        if (greatest < bestShare) {
            bestShare = greatest;
            carriers = row.clone();
        }
    }

    int carrier(int c) {
        needCase(c);
        if (carriers == null) {
            throw new NoSuchElementException();
        }
        return carriers[c];
    }

    int look(int c, int what) {
        needCase(c);
        need(what, 2);
        int fee = fee(c, at(now.places, c));
        int mean = over(now.places, c) == 0 ? 0 : count(4) * (fee + count(5));
        return what == 0 ? mean : mean < fee * 10 ? 1 : 0;
    }

    // ---- what was seen, the best, a counter

    int see(int c, int weight) {
        needCase(c);
        if (now.seen.size() == 6 || weight < 0 || weight > 999) {
            now.status[2]++;
            return -1;
        }
        now.seen.add(new int[] {c, weight});
        return now.seen.size();
    }

    int forget() {
        if (now.seen.isEmpty()) {
            return -1;
        }
        now.seen.remove(now.seen.size() - 1);
        return now.seen.size();
    }

    boolean agrees(int[] places) {
        return now.seen.stream().allMatch(s -> weight(at(places, s[0])) == s[1]);
    }

    int fits(int what) {
        need(what, 3);
        List<Integer> found = new ArrayList<>();
        for (int t = 0; t < told.things.size(); t++) {
            for (int c = 0; c < told.cases.size(); c++) {
                int[] places = now.places.clone();
                places[t] = c;
                if (now.places[t] < 10 && may(now.places, t, c) && agrees(places)) {
                    found.add(100 * t + c);
                }
            }
        }
        return new int[] {found.size(), found.isEmpty() ? -1 : found.get(0), agrees(now.places) ? 1 : 0}[what];
    }

    int best(int what) {
        need(what, 3);
        int[] best = {-1, -1, -1};
        int least = bill();
        for (int t = 0; t < told.things.size(); t++) {
            for (int place = 0; place <= 22; place++) {
                if (may(now.places, t, place)) {
                    int[] places = now.places.clone();
                    places[t] = place;
                    int bill = bill(places, opening(now.opened, now.places[t], place));
                    if (bill < least) {
                        least = bill;
                        best = new int[] {t, place, bill};
                    }
                }
            }
        }
        return best[what];
    }

    int counter(int seed, int shifts, int what) {
        need(what, 2);
        if (shifts < 0 || shifts > 200) {
            throw new IllegalArgumentException();
        }
        int[] places = now.places.clone();
        int done = 0, go = 0;
        if (told.things.isEmpty() || told.cases.isEmpty()) {
            return 0;
        }
        long s = seed;
        for (int i = 0; i < shifts; i++) {
            s = s * 1103515245L + 12345L & 0xffffffffL;
            int t = (int) ((s & 0x7fff0000L) >> 16) % told.things.size();
            s = s * 1103515245L + 12345L & 0xffffffffL;
            int c = (int) ((s & 0x7fff0000L) >> 16) % told.cases.size();
            if (places[t] < 10 && may(places, t, c)) {
                places[t] = c;
                done++;
            }
            boolean all = true;
            for (int k = 0; k < told.cases.size(); k++) {
                all &= over(places, k) == 0;
            }
            go += all ? 1 : 0;
        }
        return what == 0 ? done : go;
    }

    void image() {
        image = now.copy();
    }

    boolean restore() {
        if (image == null) {
            return false;
        }
        now = image.copy();
        return true;
    }
}
