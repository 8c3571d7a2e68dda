import java.util.NoSuchElementException;
import java.util.Random;

/** Every promise: runs of random calls, each answer held against Model's. */
public final class RandomTest {
    private static final int RUNS = 1200;

    private final Random random;
    private final PoundsOver x = new PoundsOver();
    private final Model model = new Model();

    private RandomTest(long seed) {
        random = new Random(seed);
    }

    interface Call {
        long of();
    }

    private static String answer(Call call) {
        try {
            return Long.toString(call.of());
        } catch (NoSuchElementException e) {
            return "NoSuchElementException";
        } catch (IllegalArgumentException e) {
            return "IllegalArgumentException";
        }
    }

    private void same(String name, Call got, Call want) {
        String g = answer(got);
        String w = answer(want);
        Check.due(name + ": " + g + " and by the model " + w, g.equals(w), true);
    }

    private int n(int least, int most) {
        return least + random.nextInt(most - least + 1);
    }

    private boolean chance(int tenths) {
        return random.nextInt(10) < tenths;
    }

    private String blank() {
        return chance(9) ? " " : chance(5) ? "\n" : "  ";
    }

    private String numbers(int... ofThem) {
        StringBuilder s = new StringBuilder();
        for (int i : ofThem) {
            s.append(blank()).append(i);
        }
        return s.toString();
    }

    private String expr(int depth) {
        int kind = n(0, depth > 4 ? 1 : 9);
        switch (kind) {
            case 0:
                return Integer.toString(n(0, chance(2) ? 9999 : 12));
            case 1:
            case 2:
                return Model.VALUES.get(n(0, 4));
            case 3:
                return expr(depth + 1) + (chance(5) ? "+" : "-") + expr(depth + 1);
            case 4:
                return expr(depth + 1) + (chance(6) ? " * " : "/") + expr(depth + 1);
            case 5:
                return "(" + expr(depth + 1) + ")";
            case 6:
                return expr(depth + 1) + (chance(5) ? "<" : "=") + expr(depth + 1);
            case 7:
                return "not " + expr(depth + 1);
            default:
                return expr(depth + 1) + (chance(5) ? " and " : " or ") + expr(depth + 1);
        }
    }

    private String hall() {
        StringBuilder s = new StringBuilder();
        int people = random.nextInt(40) == 0 ? 0 : n(1, 4);
        int cases = people == 0 || random.nextInt(40) == 0 ? 0 : n(1, 5);
        int things = cases == 0 || random.nextInt(40) == 0 ? 0 : n(1, chance(3) ? 12 : 8);
        int limits = n(5, 40);
        for (int i = 0; i < people; i++) {
            s.append("person").append(numbers(n(1, 300), n(0, 9), n(0, 30))).append(';');
        }
        int[] room = new int[5];
        boolean[] board = new boolean[5];
        for (int i = 0; i < cases; i++) {
            room[i] = chance(5) ? n(0, 15) : n(0, 60);
            board[i] = chance(3);
            s.append("case").append(numbers(n(0, people - 1), n(limits / 3, limits), room[i], n(0, chance(5) ? 3 : 99)));
            s.append(board[i] ? " board;" : ";");
        }
        for (int i = 0; i < things; i++) {
            String kind = Model.KINDS.get(n(0, 5));
            int weight = n(0, chance(8) ? 12 : 60);
            int size = n(0, chance(7) ? 4 : 20);
            int c = n(0, cases - 1);
            if (room[c] < size || board[c] && kind.equals("sharp")) {
                continue;
            }
            room[c] -= size;
            int unsure = chance(4) ? 0 : n(0, Math.min(9, weight));
            s.append(kind).append(numbers(weight, unsure, size, n(0, chance(5) ? 20 : 999), c));
            s.append(kind.equals("coat") ? numbers(n(1, 9)) : "").append(';');
        }
        int upTo = 0;
        for (int i = n(0, 6); i > 0 && upTo < 90; i--) {
            upTo += n(1, 9);
            s.append("post").append(numbers(upTo, n(0, chance(5) ? 20 : 999))).append(';');
        }
        if (chance(5)) {
            s.append("looks").append(numbers(n(0, 10), n(0, chance(5) ? 20 : 999))).append(';');
        }
        if (chance(5)) {
            s.append("fee ").append(expr(0)).append(';');
        }
        return s.toString();
    }

    private static final int[] EDGES = {0, 1, 2, 4, 5, 6, 9, 10, 11, 20, 21, 30, 31, 60, 61, 99, 100, 200, 201, 300, 301,
        999, 1000, 9999, 10000};

    /** A text with one of its numbers changed, or with one of its lines told twice. */
    private String changed(String text) {
        java.util.regex.Matcher m = java.util.regex.Pattern.compile(chance(7) ? "[0-9]+" : "[a-z][^;]*;").matcher(text);
        java.util.List<int[]> spans = new java.util.ArrayList<>();
        while (m.find()) {
            spans.add(new int[] {m.start(), m.end()});
        }
        if (spans.isEmpty()) {
            return text;
        }
        int[] span = spans.get(n(0, spans.size() - 1));
        String was = text.substring(span[0], span[1]);
        String put = was.endsWith(";") ? was + was : Integer.toString(EDGES[n(0, EDGES.length - 1)]);
        return text.substring(0, span[0]) + put + text.substring(span[1]);
    }

    /** A text with a token or a byte of it changed. */
    private String spoiled(String text) {
        if (chance(6)) {
            return changed(text);
        }
        int at = text.isEmpty() ? 0 : n(0, text.length() - 1);
        String[] with = {"", ";", " ", "7", "99999", "301", "x", "not ", "(", ")", "((((((", "and", "person", "fee over;",
            "looks 1 1;", "post 50 1;", "<", "not not not not not not not ", "case 9", "\u00ff", "thing 1 0 20 0 0;",
            "sharp 1 0 0 0 0;", "coat 1 0 0 0 0 1;", "person 1 1 1;", "case 0 1 1 1;", "+", "board"};
        return text.substring(0, at) + with[n(0, with.length - 1)] + text.substring(Math.min(text.length(), at + n(0, 3)));
    }

    private void hallCall(boolean wellMade) {
        String text = hall();
        for (int i = wellMade ? 0 : n(1, 2); i > 0; i--) {
            text = spoiled(text);
        }
        if (text.length() > 700) {
            text = text.substring(0, 700);
        }
        byte[] bytes = new byte[700];
        for (int i = 0; i < text.length(); i++) {
            bytes[i] = (byte) text.charAt(i);
        }
        int left = (700 - model.count(9)) / 20 * 20;
        for (int i = 0; i < Math.min(left, (text.length() + 19) / 20 * 20); i += 20) {
            int[] f = {Check.four(bytes, i), Check.four(bytes, i + 4), Check.four(bytes, i + 8), Check.four(bytes, i + 12),
                Check.four(bytes, i + 16)};
            same("feed", () -> x.feed(f[0], f[1], f[2], f[3], f[4]), () -> model.feed(f));
        }
        int n = Math.min(model.count(9), text.length());
        String told = text;
        same("hall of " + told, () -> x.hall(n), () -> model.hall(n));
        same("fault of " + told, x::fault, model::fault);
    }

    private int index(int count) {
        return random.nextInt(40) > 0 && count > 0 ? n(0, count - 1) : n(-2, 13);
    }

    private int anyPlace() {
        return chance(8) ? new int[] {0, 1, 2, 3, 4, 10, 11, 12, 13, 20, 21, 22}[n(0, 11)] : n(-3, 25);
    }

    private void anyCall() {
        int p = index(model.count(0));
        int c = index(model.count(1));
        int d = index(model.count(1));
        int t = index(model.count(2));
        int w = n(0, 9) == 0 ? n(-2, 14) : n(0, 12);
        int place = anyPlace();
        switch (n(0, 33)) {
            case 0:
                if (random.nextInt(20) == 0) {
                    hallCall(chance(5));
                }
                break;
            case 1:
                same("count " + w, () -> x.count(w), () -> model.count(w));
                break;
            case 2:
                same("person", () -> x.person(p, w % 7), () -> model.person(p, w % 7));
                break;
            case 3:
                same("box", () -> x.box(c, w), () -> model.box(c, w));
                break;
            case 4:
                same("thing", () -> x.thing(t, w % 9), () -> model.thing(t, w % 9));
                break;
            case 5:
                same("may", () -> x.may(t, place) ? 1 : 0, () -> model.may(t, place) ? 1 : 0);
                break;
            case 6:
            case 7:
            case 8:
            case 9:
            case 10:
                int to = place >= 20 && chance(8) ? n(0, 4) : place;
                same("shift", () -> x.shift(t, to), () -> model.shift(t, to));
                break;
            case 11:
                same("undo", x::undo, model::undo);
                break;
            case 12:
                same("bill", x::bill, model::bill);
                break;
            case 13:
                same("lawful", x::lawful, model::lawful);
                break;
            case 14:
                same("two", () -> x.two(c, d), () -> model.two(c, d));
                break;
            case 15:
            case 16:
                same("opened", x::opened, model::opened);
                break;
            case 17:
                if (c < 0 || c >= model.count(1) || Integer.bitCount(model.box(c, 9)) < 8 || chance(1)) {
                    same("cheap", () -> x.cheap(c), () -> model.cheap(c));
                }
                break;
            case 18:
                same("fate", () -> x.fate(t), () -> model.fate(t));
                break;
            case 19:
                same("sure", () -> x.sure(c, w % 6), () -> model.sure(c, w % 6));
                break;
            case 20:
                same("weigh", () -> x.weigh(c, w % 4), () -> model.weigh(c, w % 4));
                break;
            case 21:
                same("lost", () -> x.lost(c), () -> model.lost(c));
                same("safe", x::safe, model::safe);
                break;
            case 22:
                int pounds = chance(8) ? n(0, chance(5) ? 3 : 25) : n(-1, 202);
                boolean bits = chance(5);
                same("wear", () -> x.wear(p, pounds, bits), () -> model.wear(p, pounds, bits));
                break;
            case 23:
                same("share", x::share, model::share);
                break;
            case 24:
                same("carrier", () -> x.carrier(c), () -> model.carrier(c));
                break;
            case 25:
                same("look", () -> x.look(c, w % 3), () -> model.look(c, w % 3));
                break;
            case 26:
                int seen = seenWeight(c);
                same("see", () -> x.see(c, seen), () -> model.see(c, seen));
                break;
            case 27:
                same("forget", x::forget, model::forget);
                break;
            case 28:
                same("fits", () -> x.fits(w % 4), () -> model.fits(w % 4));
                break;
            case 29:
                same("best", () -> x.best(w % 4), () -> model.best(w % 4));
                break;
            case 30:
                int seed = random.nextInt();
                int shifts = chance(9) ? n(0, 30) : n(-1, 202);
                same("counter", () -> x.counter(seed, shifts, w % 3), () -> model.counter(seed, shifts, w % 3));
                break;
            case 31:
                if (chance(4)) {
                    x.image();
                    model.image();
                }
                break;
            case 32:
                if (chance(4)) {
                    same("restore", () -> x.restore() ? 1 : 0, () -> model.restore() ? 1 : 0);
                }
                break;
            default:
                int bytes = n(-1, 30);
                if (random.nextInt(40) == 0) {
                    same("hall(" + bytes + ")", () -> x.hall(bytes), () -> model.hall(bytes));
                }
                same("feed", () -> x.feed(w, c, d, t, p), () -> model.feed(w, c, d, t, p));
        }
    }

    /** Mostly what a CASE weighs, or would weigh with one of its THINGS less. */
    private int seenWeight(int c) {
        if (c < 0 || c >= model.count(1) || chance(1)) {
            return n(-1, 1001);
        }
        int weight = model.box(c, 5);
        int t = model.count(2) > 0 ? n(0, model.count(2) - 1) : -1;
        return t < 0 || chance(4) ? weight : Math.max(0, weight - model.thing(t, 1));
    }

    public static void main(String[] args) {
        int runs = args.length > 0 ? Integer.parseInt(args[0]) : RUNS;
        long first = args.length > 1 ? Long.parseLong(args[1]) : 1;
        for (long seed = first; seed < first + runs; seed++) {
            RandomTest run = new RandomTest(seed);
            for (int i = 0; i < 15; i++) {
                run.hallCall(false);
            }
            for (int i = 0; i < 9 && run.model.count(2) < 2; i++) {
                run.hallCall(true);
            }
            for (int i = 0; i < 300; i++) {
                run.anyCall();
            }
        }
        Check.end();
    }
}
