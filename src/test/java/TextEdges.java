/** The boundaries of the tape, of a TEXT and of its FAULTS: promises 2 to 4 and what the terms say of a TEXT. */
final class TextEdges {
    private static final String PERSON = "person 80 3 9;";
    private static final String CASE = PERSON + "case 0 20 60 7;";
    private static final int BLANKS = 0x20202020;

    private TextEdges() {
    }

    interface Reading {
        int from(PoundsOver x);
    }

    static void all() {
        tape();
        hall();
        fault();
        bytes();
        lines();
        howMany();
        ranges();
        caseAndThing();
        ruleForms();
        ruleNumbers();
        faultsInAll();
        faultOne();
        faultTwo();
        faultTwoInRules();
        faultThree();
        faultsFourToSix();
    }

    // ---- promise 2

    private static void tape() {
        Edge.of(2, "Twenty bytes come behind the tape, of each number the highest first", () -> {
            PoundsOver x = new PoundsOver();
            // "person 12 3 4;" and "person 7 8 9; ", cut in the midst of a word.
            Check.due("feed", x.feed(0x70657273, 0x6f6e2031, 0x32203320, 0x343b2020, 0x2070_6572), 20);
            Check.due("feed", x.feed(0x736f6e20, 0x37203820, 0x393b2020, BLANKS, BLANKS), 40);
            Check.due("hall(40)", x.hall(40), 0);
            int[] told = {12, 3, 4, 7, 8, 9};
            for (int i = 0; i < 6; i++) {
                Check.due("person(" + i / 3 + ", " + i % 3 + ")", x.person(i / 3, i % 3), told[i]);
            }
            for (int at = 0; at < 20; at++) {
                int[] n = {BLANKS, BLANKS, BLANKS, BLANKS, BLANKS};
                n[at / 4] ^= (0x20 ^ 0xe4) << 24 - at % 4 * 8;
                Check.due("feed", x.feed(n[0], n[1], n[2], n[3], n[4]), 20);
                Check.due("hall(20) with a byte of 228", x.hall(20), 1);
                Check.due("fault() with a byte of 228", x.fault(), at);
            }
        });
        Edge.of(2, "how many it has; NONE, and none come, if it would have more than 700", () -> {
            PoundsOver x = new PoundsOver();
            for (int i = 1; i <= 35; i++) {
                Check.due("feed " + i, x.feed(BLANKS, BLANKS, BLANKS, BLANKS, i == 35 ? 0x20202078 : BLANKS), 20 * i);
            }
            for (int i = 36; i <= 38; i++) {
                Check.due("feed " + i, x.feed(-1, -1, -1, -1, -1), -1);
                Check.due("count(9)", x.count(9), 700);
            }
            Check.due("hall(700)", x.hall(700), 1);
            Check.due("the last byte is as it was", x.fault(), 699);
            Check.due("feed behind that", x.feed(BLANKS, BLANKS, BLANKS, BLANKS, BLANKS), 20);
        });
    }

    // ---- promise 3

    private static void hall() {
        Edge.of(3, "The tape's first n bytes (it is empty then) are a HALL", () -> {
            String text = "person 1 2 3;x";
            int[] faults = {0, 1, 1, 0, 1};
            int[] places = {-1, 0, 12, -1, 13};
            int[] lengths = {0, 1, 12, 13, 14};
            for (int i = 0; i < 5; i++) {
                PoundsOver x = new PoundsOver();
                Check.feed(x, text);
                Check.due("hall(" + lengths[i] + ")", x.hall(lengths[i]), faults[i]);
                Check.due("fault()", x.fault(), places[i]);
                Check.due("count(0)", x.count(0), i == 3 ? 1 : 0);
                Check.due("the tape is empty", x.count(9), 0);
                Check.illegal("hall(1) of an empty tape", () -> x.hall(1));
                Check.due("feed", x.feed(BLANKS, BLANKS, BLANKS, BLANKS, BLANKS), 20);
            }
        });
        Edge.of(3, "all anew", () -> {
            PoundsOver x = Check.told("person 80 3 9;person 1 1 1;case 0 3 9 7;case 1 9 9 9;coat 5 0 1 1 0 9;thing 5 0 1 1 1;"
                + "post 9 5;looks 3 4;fee 77;");
            x.shift(1, 0);
            Check.due("a second hall", Check.hall(x, "person 70 2 8;case 0 3 9 6;thing 5 0 1 1 0;"), 0);
            int[] counts = {1, 1, 1, 0, 0, 0, 0, 0, 0, 0, 0, 0, 0};
            for (int what = 0; what < 13; what++) {
                Check.due("count(" + what + ")", x.count(what), counts[what]);
            }
            Check.due("without the rule", x.box(0, 8), 20);
            Check.due("without the POST", x.thing(0, 7), -1);
            Check.due("without the coat's HEAT", x.thing(0, 6), 0);
            Check.due("a THING in its CASE", x.thing(0, 5), 0);
            Check.due("not on BOARD", x.box(0, 4), 0);
            Check.due("an empty hall", Check.hall(x, ""), 0);
            Check.due("count(0)", x.count(0), 0);
            Check.due("bill()", x.bill(), 0);
            thirdHalls();
        });
        Edge.of(3, "0 (STATUS stays), or the FAULT (all else stays, but STATUS)", TextEdges::whatStays);
        Edge.of(3, "ACTS, what is SEEN, what is kept, the image are gone", () -> {
            PoundsOver x = Check.told(CASE + "shirt 1 0 1 1 0;");
            x.shift(0, 10);
            x.shift(0, 0);
            x.see(0, 4);
            x.cheap(0);
            x.share();
            x.image();
            Check.due("the same text", Check.hall(x, CASE + "shirt 1 0 1 1 0;"), 0);
            Check.due("ACTS", x.count(7), 0);
            Check.due("undo()", x.undo(), -1);
            Check.due("what was opened", x.count(6), 0);
            Check.due("SEEN", x.count(8), 0);
            Check.due("forget()", x.forget(), -1);
            Check.due("fits(2)", x.fits(2), 1);
            Check.noSuch("fate(0)", () -> x.fate(0));
            Check.noSuch("carrier(0)", () -> x.carrier(0));
            Check.due("restore()", x.restore(), false);
        });
        Edge.of(3, "IllegalArgumentException: the tape has not so many, n below 0 (nothing changes)", () -> {
            PoundsOver x = Check.told(CASE + "shirt 1 0 1 1 0;");
            x.cheap(0);
            x.image();
            Check.feed(x, "post 1 1;x");
            for (int n : new int[] {-1, 21, 22, 700, 701, Integer.MIN_VALUE, Integer.MAX_VALUE}) {
                Check.illegal("hall(" + n + ")", () -> x.hall(n));
            }
            Check.due("count(9)", x.count(9), 20);
            Check.due("count(10)", x.count(10), 0);
            Check.due("count(2)", x.count(2), 1);
            Check.due("fault()", x.fault(), -1);
            Check.due("fate(0)", x.fate(0), 0);
            Check.due("restore()", x.restore(), true);
            Check.due("hall(20)", x.hall(20), 1);
            Check.illegal("hall(1)", () -> x.hall(1));
            Check.due("the FAULT's place stays", x.fault(), 9);
            Check.due("count(10)", x.count(10), 1);
            Check.due("hall(0)", x.hall(0), 0);
        });
    }

    private static final String[] HALLS = {
        PERSON.repeat(4) + "case 3 0 60 9 board;".repeat(5) + "coat 9 9 5 999 0 9;".repeat(12)
            + "post 1 1;post 2 2;post 3 3;post 4 4;post 5 5;post 60 6;looks 10 999;fee not not over*(1+2*3)+board;",
        "", PERSON, PERSON + "case 0 3 9 6;thing 5 2 1 1 0;", PERSON + "case 0 3 9 6;shirt 5 0 1 1 0;fee 7;",
        PERSON + "case 0 3 9 6;food 4 0 1 1 0;food 0 0 0 0 0;post 9 9;looks 1 1;fee not 0;", PERSON + "case 0 3 9 6;glass 5 0 1 1 0;fee over+1-1+1;",
    };

    private static final String[] FAULTS = {"x", "fee", "looks 9", "post 5 5;post 6 6;looks 5 5;fee not 0;!",
        PERSON.repeat(2) + "case 1 9 60 9 board;case 1 9 60 9;coat 9 9 9 9 0 9;coat 9 9 9 9 1 99;",
        PERSON.repeat(3) + "case 1 9 60 9 board;case 1 9 60 9;coat 9 9 9 9 0 9;sharp 9 9 9 9 0;", "fee 1+(not 0+7*(1+2*not 3;"};

    /** What is told, with two texts ahead of it on the same object, is as on a new object. */
    private static void thirdHalls() {
        for (String third : HALLS) {
            java.util.List<Integer> alone = allOf(Check.told(third));
            for (String first : HALLS) {
                for (String second : HALLS) {
                    PoundsOver x = Check.told(first);
                    throwAllAway(x);
                    Check.due("hall of " + second, Check.hall(x, second), 0);
                    throwAllAway(x);
                    Check.due("hall of " + third, Check.hall(x, third), 0);
                    Check.due(third + " is as it is alone", allOf(x).equals(alone), true);
                }
                for (String second : FAULTS) {
                    PoundsOver x = Check.told(first);
                    Check.due("hall of " + second, Check.hall(x, second) > 0, true);
                    Check.due(first + " stays", allOf(x).equals(allOf(Check.told(first))), true);
                    Check.due("hall of " + third, Check.hall(x, third), 0);
                    Check.due(third + " is as it is alone", allOf(x).equals(alone), true);
                }
            }
        }
    }

    /** And all that is reckoned ahead of that is reckoned once. */
    private static void throwAllAway(PoundsOver x) {
        allOf(x);
        for (int t = 0; t < x.count(2); t++) {
            x.shift(t, 20);
        }
    }

    private static java.util.List<Integer> allOf(PoundsOver x) {
        java.util.List<Integer> all = new java.util.ArrayList<>();
        for (int what = 0; what < 10; what++) {
            all.add(x.count(what));
        }
        for (int i = 0; i < 6 * x.count(0); i++) {
            all.add(x.person(i / 6, i % 6));
        }
        for (int i = 0; i < 10 * x.count(1); i++) {
            all.add(x.box(i / 10, i % 10));
        }
        for (int i = 0; i < 8 * x.count(2); i++) {
            all.add(x.thing(i / 8, i % 8));
        }
        all.addAll(java.util.List.of(x.bill(), x.lawful(), x.opened(), x.safe(), x.share(), x.fits(0), x.best(0), x.best(1), x.best(2)));
        return all;
    }

    private static void whatStays() {
        PoundsOver x = Check.told("person 50 2 3;case 0 9 9 4;thing 1 0 1 5 0;shirt 2 0 1 3 0;post 3 1;looks 2 9;fee 7;");
        x.shift(0, 20);
        x.shift(0, 0);
        x.see(0, 2);
        x.see(0, -2);
        x.cheap(0);
        x.share();
        x.image();
        String[] bad = {"x", "person 1 1 1;case 0 1 1 1;thing 1 1 1 1 0;post 1 1;looks 1 1;fee 1;!", "fee 9999 1;"};
        for (int i = 0; i < 3; i++) {
            Check.due("hall of " + bad[i], Check.hall(x, bad[i]), 1);
            int[] stay = {1, 1, 2, 1, 2, 9, 1, 1, 1, 0, i + 1, 1, 1};
            for (int what = 0; what < 13; what++) {
                Check.due("count(" + what + ") behind a FAULT", x.count(what), stay[what]);
            }
            Check.due("person(0, 0)", x.person(0, 0), 50);
            Check.due("box(0, 1)", x.box(0, 1), 9);
            Check.due("thing(0, 5)", x.thing(0, 5), 20);
            Check.due("thing(1, 7)", x.thing(1, 7), 1);
            Check.due("fate(1)", x.fate(1), 0);
            Check.due("carrier(0)", x.carrier(0), 0);
            Check.due("fits(2)", x.fits(2), 1);
            Check.due("bill()", x.bill(), 9);
        }
        Check.due("restore()", x.restore(), true);
        Check.due("count(10) of the image", x.count(10), 0);
        Check.due("hall of x", Check.hall(x, "x"), 1);
        Check.due("hall that stands", Check.hall(x, PERSON), 0);
        int[] status = {1, 1, 1};
        for (int i = 0; i < 3; i++) {
            Check.due("STATUS " + i + " stays", x.count(10 + i), status[i]);
        }
    }

    // ---- promise 4

    private static void fault() {
        Edge.of(4, "The place of the latest hall()'s FAULT; NONE without", () -> {
            PoundsOver x = new PoundsOver();
            Check.due("fault() ahead of any", x.fault(), -1);
            String[] texts = {"x", " ;", "", "post 1 1;post 1 1;", "post 1 1;", "post 1 1", ";"};
            int[] places = {0, 1, -1, 14, -1, 8, 0};
            for (int i = 0; i < texts.length; i++) {
                Check.hall(x, texts[i]);
                Check.due("fault() of " + texts[i], x.fault(), places[i]);
                Check.illegal("hall(1)", () -> x.hall(1));
                Check.due("fault() behind an exception", x.fault(), places[i]);
            }
            String far = " ".repeat(699) + ";";
            Check.fault(1, " ".repeat(699) + "^;");
            Check.fault(1, "post 1 1" + " ".repeat(692) + "^");
            Check.due("the furthest", Check.hall(x, far) * 1000 + x.fault(), 1699);
        });
    }

    // ---- tokens

    private static boolean isLetter(int b) {
        return "abcdefghijklmnopqrstuvwxyz".indexOf(b) >= 0;
    }

    private static boolean isDigit(int b) {
        return "0123456789".indexOf(b) >= 0;
    }

    private static boolean isBlank(int b) {
        return b == 32 || b == 10;
    }

    /** A byte in the midst of "fee 1?1;", as a PART and alone: its FAULT's place, -1 without. */
    private static void everyByte(int from, int to) {
        for (int b = from; b <= to; b++) {
            char c = (char) b;
            place("a line of the byte " + b, "" + c, isBlank(b) ? 0 : 1, isBlank(b) ? -1 : 0);
            boolean joins = "+-*/<=".indexOf(c) >= 0;
            int between = isDigit(b) || joins ? -1 : isBlank(b) || b == ';' ? 6 : 5;
            place("the byte " + b + " between", "fee 1" + c + "1;", between < 0 ? 0 : 1, between);
            int part = isDigit(b) ? -1 : isBlank(b) || b == '(' ? 5 : 4;
            place("the byte " + b + " as a PART", "fee " + c + ";", isLetter(b) ? 3 : part < 0 ? 0 : 1, part);
            int closes = b == ')' ? -1 : isBlank(b) || isDigit(b) || joins ? 7 : 6;
            place("the byte " + b + " at the end", "fee (1" + c + ";", closes < 0 ? 0 : 1, closes);
        }
    }

    private static void place(String name, String text, int kind, int place) {
        PoundsOver x = new PoundsOver();
        Check.due(name, Check.hall(x, text), kind);
        Check.due(name + ", its place", x.fault(), place);
    }

    private static final String[] LINES = {"person 80 3 9;", "case 0 20 60 7;", "thing 5 1 2 3 0;", "coat 5 1 2 3 0 9;", "sharp 5 1 2 3 0;",
        "glass 5 1 2 3 0;", "food 5 1 2 3 0;", "shirt 5 1 2 3 0;", "post 9 9;", "looks 9 9;", "fee 9;"};

    /** Each word with one of its letters another one, one letter less, or one more, isn't that word. */
    private static void everyLetter() {
        for (String line : LINES) {
            int length = line.indexOf(' ');
            Check.told(CASE + line);
            for (int i = 0; i < length; i++) {
                Check.fault(1, CASE + "^" + line.substring(0, i) + 'q' + line.substring(i + 1));
                Check.fault(1, CASE + "^" + line.substring(0, i) + line.substring(i + 1));
                Check.fault(1, CASE + "^" + line.substring(0, i) + 'q' + line.substring(i));
            }
        }
        for (String value : Model.VALUES) {
            for (int i = 0; i < value.length(); i++) {
                Check.fault(3, "fee ^" + value.substring(0, i) + 'q' + value.substring(i + 1) + ";");
                Check.fault(3, "fee ^" + value.substring(0, i) + 'q' + value.substring(i) + ";");
                Check.fault(3, "fee (^" + value.substring(0, i) + value.substring(i + 1) + "x);");
            }
        }
        for (String word : new String[] {"or", "and"}) {
            for (int i = 0; i < word.length(); i++) {
                Check.fault(1, "fee 1 ^" + word.substring(0, i) + 'q' + word.substring(i + 1) + " 1;");
            }
        }
        Check.fault(3, "fee ^qot 1;");
        Check.fault(3, "fee ^nqt 1;");
        Check.fault(3, "fee ^noq 1;");
    }

    private static void bytes() {
        Edge.of(3, "A TEXT of at most 700 bytes tells it", () -> {
            String fits = PERSON + "case 0 0 9 9;thing 1 0 1 1 0;";
            for (int length = 698; length <= 700; length++) {
                StringBuilder text = new StringBuilder(fits).append("fee 1");
                while (text.length() + 3 <= length) {
                    text.append("+1");
                }
                int ones = (text.length() - fits.length() - 3) / 2;
                text.append(text.length() + 2 == length ? " ;" : ";");
                Check.due("length", text.length(), length);
                Check.due("FEE of " + length + " bytes", Check.told(text.toString()).box(0, 8), ones);
                Check.fault(1, text.substring(0, length - 1) + "^");
            }
        });
        Edge.of(3, "words (a .. z, the longest row)", () -> {
            everyByte('a' - 2, 'a' + 1);
            everyByte('z' - 1, 'z' + 2);
            everyByte('A', 'A');
            everyByte('Z', 'Z');
            Check.told("person1 1 1;case0 1 1 1board;thing1 0 1 1 0;");
            Check.fault(1, "^persons 1 1 1;");
            Check.fault(1, "^perso 1 1 1;");
            Check.fault(1, "^per son 1 1 1;");
            Check.fault(1, "^personperson 1 1 1;");
            everyLetter();
            Check.fault(3, "fee ^overover;");
            Check.fault(3, "fee ^ove;");
            Check.fault(1, "fee over^R;");
            Check.fault(1, "fee over^{;");
            Check.fault(1, "fee over^`;");
            Check.fault(3, "fee ^az;");
            Check.fault(1, "fee 1 ^orr 1;");
            Check.fault(1, CASE.replace("7;", "7 ^boardx;"));
        });
        Edge.of(3, "NUMBERS (1 to 4 digits)", () -> {
            everyByte('0' - 2, '0' + 1);
            everyByte('9' - 1, '9' + 2);
            for (String number : new String[] {"0", "9", "10", "99", "100", "999", "1000", "9999", "0000", "0090"}) {
                Check.due("FEE of " + number, rule(number), Integer.parseInt(number));
            }
            for (String number : new String[] {"00000", "00001", "10000", "99999", "123456", "12345678901234567890"}) {
                Check.fault(2, "fee ^" + number + ";");
                Check.fault(2, "person ^" + number + " 1 1;");
            }
            Check.told("person 0001 0009 0030;");
            Check.fault(1, "fee 9999 ^9;");
        });
        Edge.of(3, "signs ; ( ) + - * / < =", () -> {
            everyByte(0, 255);
            Check.told("fee(1)+1-1*1/1<1;");
            Check.told("fee 1=1;");
            Check.fault(1, "fee 1^>1;");
            Check.fault(1, "fee 1<^=1;");
            Check.fault(1, "fee 1=^=1;");
        });
        Edge.of(3, "blanks (32, 10) between them count for nothing", () -> {
            for (int b : new int[] {9, 10, 11, 12, 13, 31, 32, 33}) {
                everyByte(b, b);
                String text = "person" + (char) b + "1 1 1;";
                place("a blank of " + b, text, isBlank(b) ? 0 : 1, isBlank(b) ? -1 : 6);
            }
            PoundsOver x = Check.told("\n \n person\n\n80  3 \n9 \n;  case 0 20 60 7 ; ");
            Check.due("person(0, 2)", x.person(0, 2), 9);
            Check.told("   ");
            Check.fault(2, "person 1 ^12 1;");
            Check.told("person 1 1 2;");
            Check.fault(1, "person 1 1 1 ^2;");
        });
    }

    // ---- lines

    private static void lines() {
        Edge.of(3, "[ ] perhaps, * any number of times, | one of some", () -> {
            for (int n = 0; n <= 3; n++) {
                Check.due("* " + n + " times", Check.told("fee 1" + "+1".repeat(n) + ";" + PERSON.repeat(n)).count(0), n);
            }
            Check.due("[ ] without", Check.told(PERSON + "case 0 9 9 9;").box(0, 4), 0);
            Check.due("[ ] with", Check.told(PERSON + "case 0 9 9 9 board;").box(0, 4), 1);
            Check.fault(1, PERSON + "case 0 9 9 9 board ^board;");
            Check.fault(1, "person ^case 0 9 9 9;");
            Check.fault(1, "fee 1+^*1;");
        });
        Edge.of(3, "HALL: LINE*", () -> {
            Check.due("no LINE", Check.told("").count(0), 0);
            Check.due("one LINE", Check.told(PERSON).count(0), 1);
            Check.due("two LINES", Check.told(PERSON + PERSON).count(0), 2);
            Check.fault(1, "^;");
            Check.fault(1, PERSON + "^;");
            Check.fault(1, "person 80 3 9 ^person 80 3 9;");
            Check.fault(1, PERSON + "^4;");
            // As many lines as 700 bytes can hold; no more of each are told than may be.
            Check.due("many LINES", Check.told(PERSON.repeat(4) + CASE.substring(14).repeat(5) + "food 1 0 1 1 4;".repeat(12)
                + "post 1 1;post 2 1;post 3 1;post 4 1;post 5 1;post 6 1;looks 1 1;fee 1;").count(2), 12);
        });
        Edge.of(3, "('person' OWN POCKETS HEAT | 'case' PERSON LIMIT HOLDS COST ['board']", () -> {
            numbersOfLine("", "person", "80 3 9");
            numbersOfLine(PERSON, "case", "0 20 60 7");
            Check.due("without 'board'", Check.told(CASE).box(0, 4), 0);
            Check.due("with 'board'", Check.told(CASE.replace("7;", "7 board;")).box(0, 4), 1);
            Check.fault(1, CASE.replace("7;", "7 board ^board;"));
            Check.fault(1, PERSON + "case ^board 20 60 7;");
            Check.fault(1, PERSON + "case 0 20 60 ^board;");
            Check.fault(1, CASE.replace("7;", "7 ^over;"));
            Check.fault(1, "person 80 3 9 ^board;");
        });
        Edge.of(3, "('thing' | 'sharp' | 'glass' | 'food' | 'shirt') WEIGHT UNSURE SIZE VALUE CASE"
            + " | 'coat' WEIGHT UNSURE SIZE VALUE CASE HEAT", () -> {
            for (String kind : Model.KINDS) {
                numbersOfLine(CASE, kind, kind.equals("coat") ? "5 1 2 3 0 9" : "5 1 2 3 0");
            }
        });
        Edge.of(3, "'post' WEIGHT PRICE | 'looks' TENTHS FINE | 'fee' EXPR) ';'", () -> {
            numbersOfLine("", "post", "9 9");
            numbersOfLine("", "looks", "9 9");
            numbersOfLine("", "fee", "9");
            Check.fault(1, "fee 9 ^fee 9;");
            Check.fault(1, "fee 9 ^person 80 3 9;");
        });
        Edge.of(3, "a KIND (0 thing, 1 coat, 2 sharp, 3 glass, 4 food, 5 shirt)", () -> {
            for (int kind = 0; kind < 6; kind++) {
                String line = Model.KINDS.get(kind) + " 5 1 2 3 0" + (kind == 1 ? " 9;" : ";");
                Check.due("KIND of " + line, Check.told(CASE + line).thing(0, 0), kind);
            }
            Check.fault(1, CASE + "^things 5 1 2 3 0;");
            Check.fault(1, CASE + "^kind 5 1 2 3 0;");
        });
    }

    /** A line stands with just its numbers; with one less, one more, a word or a sign for one it doesn't. */
    private static void numbersOfLine(String ahead, String word, String numbers) {
        String[] n = numbers.split(" ");
        Check.told(ahead + word + " " + numbers + ";");
        StringBuilder text = new StringBuilder(ahead).append(word);
        for (String number : n) {
            String some = text.toString();
            boolean rule = word.equals("fee");
            Check.fault(1, some + "^;");
            Check.fault(1, some + " ^");
            Check.fault(rule ? 3 : 1, some + " ^x;");
            Check.fault(1, some + " ^-1;");
            Check.fault(1, some + " ^!1;");
            text.append(' ').append(number);
        }
        Check.fault(1, text + " ^1;");
        Check.fault(1, text + "^");
        Check.fault(1, text + "^,");
        Check.fault(1, text + ";^;");
    }

    // ---- how many, and between which numbers

    private static void howMany() {
        Edge.of(3, "PEOPLE 0, 1 .. (at most 4)", () -> {
            for (int n = 0; n <= 4; n++) {
                Check.due(n + " PEOPLE", Check.told(PERSON.repeat(n)).count(0), n);
            }
            Check.due("the last one's OWN", Check.told(PERSON.repeat(3) + "person 7 6 5;").person(3, 0), 7);
            Check.fault(2, PERSON.repeat(4) + "^person 80 3 9;");
        });
        Edge.of(3, "CASES 0, 1 .. (at most 5)", () -> {
            for (int n = 0; n <= 5; n++) {
                Check.due(n + " CASES", Check.told(PERSON + "case 0 20 60 7;".repeat(n)).count(1), n);
            }
            Check.due("the last one's LIMIT", Check.told(CASE + CASE.substring(14).repeat(3) + "case 0 6 5 4;").box(4, 1), 6);
            Check.fault(2, PERSON + "case 0 20 60 7;".repeat(5) + "^case 0 20 60 7;");
        });
        Edge.of(3, "THINGS 0, 1 .. (at most 12)", () -> {
            for (int n : new int[] {0, 1, 2, 11, 12}) {
                Check.due(n + " THINGS", Check.told(CASE + "food 1 0 1 1 0;".repeat(n)).count(2), n);
            }
            PoundsOver x = Check.told(CASE + "food 1 0 1 1 0;".repeat(11) + "coat 8 7 6 5 0 4;");
            int[] last = {1, 8, 7, 6, 5, 0, 4};
            for (int what = 0; what < 7; what++) {
                Check.due("thing(11, " + what + ")", x.thing(11, what), last[what]);
            }
            for (String kind : Model.KINDS) {
                Check.fault(2, CASE + "food 1 0 1 1 0;".repeat(12) + "^" + kind + " 1 0 1 1 0;");
            }
        });
        Edge.of(3, "POST (at most 6)", () -> {
            StringBuilder posts = new StringBuilder();
            for (int n = 1; n <= 6; n++) {
                posts.append("post ").append(n * 10).append(' ').append(n).append(';');
                PoundsOver x = Check.told(CASE + "thing " + n * 10 + " 0 1 1 0;" + posts);
                Check.due(n + " POSTS", x.count(3), n);
                Check.due("PRICE by the last one", x.thing(0, 7), n);
            }
            Check.fault(2, posts + "^post 99 9;");
            Check.due("none", Check.told(CASE).count(3), 0);
        });
    }

    /** A NUMBER stands from the least to the most, and is answered as it was told; outside it is FAULT 2. */
    private static void range(String ahead, int least, int most, String behind, Reading of) {
        for (int n : new int[] {least, least + 1, most - 1, most}) {
            Check.due(ahead + n + behind, of.from(Check.told(ahead + n + behind)), n);
        }
        if (least > 0) {
            Check.fault(2, ahead + "^" + (least - 1) + behind);
        }
        Check.fault(1, ahead + "^-1" + behind);
        Check.fault(2, ahead + "^" + (most + 1) + behind);
        Check.fault(2, ahead + "^" + (most + 2) + behind);
        Check.fault(2, ahead + "^9999" + behind);
        Check.fault(2, ahead + "^10000" + behind);
    }

    private static void ranges() {
        Edge.of(3, "OWN weight (1 to 300)", () -> range("person ", 1, 300, " 3 9;", x -> x.person(0, 0)));
        Edge.of(3, "POCKETS (0 to 9)", () -> range("person 80 ", 0, 9, " 9;", x -> x.person(0, 1)));
        Edge.of(3, "HEAT that one bears (0 to 30)", () -> range("person 80 3 ", 0, 30, ";", x -> x.person(0, 2)));
        Edge.of(3, "LIMIT (0 to 200)", () -> range(PERSON + "case 0 ", 0, 200, " 9 9;", x -> x.box(0, 1)));
        Edge.of(3, "HOLDS (0 to 60)", () -> range(PERSON + "case 0 9 ", 0, 60, " 9;", x -> x.box(0, 2)));
        Edge.of(3, "a COST to open it (0 to 99)", () -> range(PERSON + "case 0 9 9 ", 0, 99, ";", x -> x.box(0, 3)));
        Edge.of(3, "WEIGHT (0 to 60)", () -> {
            range(CASE + "thing ", 0, 60, " 0 1 1 0;", x -> x.thing(0, 1));
            range(CASE + "coat ", 0, 60, " 0 1 1 0 1;", x -> x.thing(0, 1));
        });
        Edge.of(3, "UNSURE (0 to 9, no more than WEIGHT)", () -> {
            range(CASE + "thing 60 ", 0, 9, " 1 1 0;", x -> x.thing(0, 2));
            range(CASE + "thing 10 ", 0, 9, " 1 1 0;", x -> x.thing(0, 2));
            range(CASE + "thing 9 ", 0, 9, " 1 1 0;", x -> x.thing(0, 2));
            range(CASE + "thing 8 ", 0, 8, " 1 1 0;", x -> x.thing(0, 2));
            range(CASE + "coat 1 ", 0, 1, " 1 1 0 1;", x -> x.thing(0, 2));
            Check.told(CASE + "thing 0 0 1 1 0;");
            Check.fault(2, CASE + "thing 0 ^1 1 1 0;");
        });
        Edge.of(3, "SIZE (0 to 20)", () -> {
            range(CASE + "thing 1 0 ", 0, 20, " 1 0;", x -> x.thing(0, 3));
            range(CASE + "coat 1 0 ", 0, 20, " 1 0 1;", x -> x.thing(0, 3));
        });
        Edge.of(3, "VALUE (0 to 999)", () -> {
            range(CASE + "thing 1 0 1 ", 0, 999, " 0;", x -> x.thing(0, 4));
            range(CASE + "coat 1 0 1 ", 0, 999, " 0 1;", x -> x.thing(0, 4));
        });
        Edge.of(3, "of a coat its HEAT (1 to 9)", () -> {
            range(CASE + "coat 1 0 1 1 0 ", 1, 9, ";", x -> x.thing(0, 6));
            Check.due("HEAT of another", Check.told(CASE + "shirt 1 0 1 1 0;").thing(0, 6), 0);
            Check.fault(1, CASE + "shirt 1 0 1 1 0 ^9;");
        });
        Edge.of(3, "up to a WEIGHT (1 to 99) a PRICE (0 to 999)", () -> {
            for (int n : new int[] {1, 2, 59, 60, 98, 99}) {
                Check.fault(4, "post " + n + " 5;post ^" + n + " 5;");
                int weight = Math.min(60, n);
                String thing = CASE + "thing " + weight + " 0 1 1 0;";
                Check.due("PRICE", Check.told(thing + "post " + n + " 5;").thing(0, 7), 5);
                Check.due("PRICE", Check.told(thing + "post " + (weight - 1 > 0 ? weight - 1 : 1) + " 5;").thing(0, 7), n == 1 ? 5 : -1);
            }
            Check.fault(2, "post ^0 5;");
            Check.fault(1, "post ^-1 5;");
            Check.fault(2, "post ^100 5;");
            Check.fault(2, "post ^101 5;");
            Check.fault(2, "post ^9999 5;");
            range(CASE + "thing 9 0 1 1 0;post 9 ", 0, 999, ";", x -> x.thing(0, 7));
        });
        Edge.of(3, "TENTHS (0 to 10) and a FINE (0 to 999; 0, 0 without)", () -> {
            range("looks ", 0, 10, " 9;", x -> x.count(4));
            range("looks 9 ", 0, 999, ";", x -> x.count(5));
            PoundsOver x = Check.told(PERSON);
            Check.due("TENTHS without", x.count(4), 0);
            Check.due("FINE without", x.count(5), 0);
        });
    }

    private static void caseAndThing() {
        Edge.of(3, "the CASE in which it is at first", () -> {
            String five = PERSON + "case 0 20 60 7;".repeat(5);
            for (int c = 0; c < 5; c++) {
                PoundsOver x = Check.told(five + "thing 1 0 1 1 " + c + ";");
                Check.due("its PLACE", x.thing(0, 5), c);
                Check.due("what is in it", x.box(c, 9), 1);
            }
            Check.fault(3, five + "thing 1 0 1 1 ^5;");
            Check.fault(1, five + "thing 1 0 1 1 ^-1;");
        });
        Edge.of(3, "whose it is", () -> {
            for (int p = 0; p < 4; p++) {
                Check.due("whose", Check.told(PERSON.repeat(4) + "case " + p + " 20 60 7;").box(0, 0), p);
            }
            Check.fault(3, PERSON.repeat(4) + "case ^4 20 60 7;");
        });
    }

    // ---- rules

    /** The FEE by a rule of a CASE that weighs 23, holds 3 THINGS and has the LIMIT 20 (so 3 are OVER). */
    private static int rule(String rule) {
        return Check.told("person 1 1 1;case 0 20 60 0;thing 20 0 1 1 0;thing 3 0 1 1 0;thing 0 0 1 1 0;fee " + rule + ";").box(0, 8);
    }

    private static void gives(String rule, int want) {
        Check.due("FEE by " + rule, rule(rule), want);
    }

    /** What a rule gives ahead of its being kept to 0 to 9999, held against a sum that gives the same. */
    private static void is(String rule, String same) {
        gives("(" + rule + ")=" + same, 1);
        gives("7+((" + rule + ")-(" + same + "))", 7);
    }

    private static void ruleForms() {
        Edge.of(3, "EXPR: AND ('or' AND)*. AND: NOT ('and' NOT)*.", () -> {
            int[][] or = {{0, 0}, {0, 1}, {1, 0}, {1, 1}};
            for (int[] v : or) {
                gives(v[0] + " or " + v[1], v[0] | v[1]);
                gives(v[0] + " and " + v[1], v[0] & v[1]);
                for (int w = 0; w < 2; w++) {
                    gives(v[0] + " or " + v[1] + " and " + w, v[0] | v[1] & w);
                    gives(v[0] + " and " + v[1] + " or " + w, v[0] & v[1] | w);
                    gives("(" + v[0] + " or " + v[1] + ") and " + w, (v[0] | v[1]) & w);
                    gives(v[0] + " or " + v[1] + " or " + w, v[0] | v[1] | w);
                    gives(v[0] + " and " + v[1] + " and " + w, v[0] & v[1] & w);
                    gives("not " + v[0] + " and " + v[1] + " or not " + w, (1 - v[0]) & v[1] | (1 - w));
                }
            }
            gives("7", 7);
            gives("0 or 0" + " or 0".repeat(90) + " or 1", 1);
            gives("1 and 1" + " and 1".repeat(70) + " and 0", 0);
            Check.fault(1, "fee 1 or^;");
            Check.fault(1, "fee 1 and^;");
            Check.fault(3, "fee ^or 1;");
            Check.fault(3, "fee 1 or ^and 1;");
        });
        Edge.of(3, "NOT: 'not' NOT | SUM [('<' | '=') SUM].", () -> {
            gives("not 0", 1);
            gives("not 1", 0);
            gives("not not 2", 1);
            gives("not 1<2", 0);
            gives("not 2=3", 1);
            gives("2<2", 0);
            gives("2<3", 1);
            gives("3<2", 0);
            gives("2=2", 1);
            gives("2=3", 0);
            gives("3=2", 0);
            gives("1+1<1+2", 1);
            gives("9-5=2*2", 1);
            gives("(2<3)<2", 1);
            gives("2<(3<2)", 0);
            Check.fault(1, "fee 1<2^<3;");
            Check.fault(1, "fee 1=2^=3;");
            Check.fault(1, "fee 1=2^<3;");
            Check.fault(1, "fee 1<^;");
            Check.fault(1, "fee ^<1;");
            Check.fault(1, "fee not^;");
            Check.fault(1, "fee 1 ^not 1;");
        });
        Edge.of(3, "SUM: PRODUCT (('+' | '-') PRODUCT)*. PRODUCT: PART (('*' | '/') PART)*. PART: NUMBER | VALUE | '(' EXPR ')'.", () -> {
            gives("1+2*3", 7);
            gives("2*3+1", 7);
            gives("(1+2)*3", 9);
            gives("9-8/4", 7);
            gives("9-(8/4)", 7);
            gives("(9-8)/4", 0);
            gives("over+weight*limit", 463);
            gives("1" + "+1".repeat(299), 300);
            gives("400" + "-1".repeat(299), 101);
            gives("7" + "*1".repeat(250) + "/1".repeat(40), 7);
            Check.fault(1, "fee 1+^;");
            Check.fault(1, "fee 1+^+1;");
            Check.fault(1, "fee 1-^-1;");
            Check.fault(1, "fee ^-1;");
            Check.fault(1, "fee ^*1;");
            Check.fault(1, "fee 1*^/1;");
            Check.fault(1, "fee 1 ^1;");
            Check.fault(1, "fee 1 ^over;");
            Check.fault(1, "fee 1^(1);");
            Check.fault(1, "fee (1)^(1);");
            Check.fault(1, "fee (^);");
            Check.fault(1, "fee (1^;");
            Check.fault(1, "fee (1^");
            Check.fault(1, "fee ^);");
            Check.fault(1, "fee 1^);");
        });
    }

    private static final String MOST = "(9999*9999*21+9999*4790+8416)";
    private static final String LEAST = "(0-" + MOST + "-1)";

    private static void ruleNumbers() {
        Edge.of(3, "From the left", () -> {
            gives("9-3-2", 4);
            gives("9-(3-2)", 8);
            gives("9-3+2", 8);
            gives("24/4/2", 3);
            gives("24/(4/2)", 12);
            gives("20/3*3", 18);
            gives("20*3/7", 8);
            gives("7/2*2", 6);
        });
        Edge.of(3, "ints that wrap", () -> {
            is(MOST, "9999*9999*21+9999*4790+8415+1");
            is(MOST + "+1", LEAST);
            is(LEAST + "-1", MOST);
            gives(MOST + "-1<" + MOST, 1);
            gives(MOST + "<" + MOST + "+1", 0);
            gives(LEAST + "<0", 1);
            gives(MOST + "<0", 0);
            is(MOST + "*2", "(0-2)");
            is(LEAST + "*2", "0");
            is(LEAST + "*(0-1)", LEAST);
            is(LEAST + "/(0-1)", LEAST);
            is("0-" + LEAST, LEAST);
            is("4096*4096*128", LEAST);
            is("4096*4096*127+4096*4095+4095", MOST);
            is("4096*4096*256", "0");
        });
        Edge.of(3, "/ cut down to 0", () -> {
            int[][] of = {{7, 2}, {6, 2}, {5, 2}, {1, 2}, {0, 2}, {9999, 9998}, {9999, 9999}, {9998, 9999}};
            for (int[] v : of) {
                is(v[0] + "/" + v[1], Integer.toString(v[0] / v[1]));
                is("(0-" + v[0] + ")/" + v[1], "(0-" + v[0] / v[1] + ")");
                is(v[0] + "/(0-" + v[1] + ")", "(0-" + v[0] / v[1] + ")");
                is("(0-" + v[0] + ")/(0-" + v[1] + ")", Integer.toString(v[0] / v[1]));
            }
        });
        Edge.of(3, "by 0 gives 0", () -> {
            is("7/0", "0");
            is("0/0", "0");
            is("(0-7)/0", "0");
            is(LEAST + "/0", "0");
            is("7/1", "7");
            is("7/(0-1)", "(0-7)");
            is("5+7/(3-over)", "5");
        });
        Edge.of(3, "tests, not, and, or are 1 or 0 (what isn't 0 holds)", () -> {
            for (String holds : new String[] {"1", "2", "(0-1)", "(0-2)", MOST, LEAST}) {
                is("not " + holds, "0");
                is("not not " + holds, "1");
                is(holds + " and " + holds, "1");
                is(holds + " and 0", "0");
                is("0 and " + holds, "0");
                is("0 or " + holds, "1");
                is(holds + " or 0", "1");
                is(holds + " or " + holds, "1");
            }
            is("not 0", "1");
            is("0 or 0", "0");
            is("(2<3)+(2=2)", "2");
            is("2 and 3", "1");
            is("1 and 2", "1");
            is("2 or 4", "1");
        });
        Edge.of(3, "VALUES of a CASE: 'over', 'weight', 'limit', 'things' (how many are in it), 'board' (1, 0)", () -> {
            is("over", "3");
            is("weight", "23");
            is("limit", "20");
            is("things", "3");
            is("board", "0");
            PoundsOver x = Check.told("person 1 9 1;case 0 0 60 0;case 0 0 60 0 board;thing 1 0 1 1 1;food 0 0 1 1 1;"
                + "fee 1000*over+100*weight+10*things+board+limit;");
            Check.due("on BOARD", x.box(1, 8), 1121);
            x.shift(1, 22);
            Check.due("with one THING less", x.box(1, 8), 1111);
            x.shift(0, 0);
            Check.due("not on BOARD", x.box(0, 8), 1110);
            Check.due("of none", x.box(1, 8), 0);
            for (String not : new String[] {"overs", "ove", "weigh", "weights", "limits", "thing", "boards", "boar", "value"}) {
                Check.fault(3, "fee ^" + not + ";");
            }
        });
    }

    // ---- FAULTS

    private static void faultsInAll() {
        Edge.of(3, "FAULTS, the first along the text", () -> {
            Check.fault(2, "person ^301 10 31;x");
            Check.fault(2, "person 300 ^10 31;x");
            Check.fault(2, "person 300 9 ^31;x");
            Check.fault(1, "person 300 9 30;^x");
            Check.fault(4, "post 5 1;post ^5 1000;looks 11 1;");
            Check.fault(2, "post 5 1;post 6 ^1000;looks 11 1;");
            Check.fault(2, "post 5 1;post 6 999;looks ^11 1;");
        });
        Edge.of(3, "at a TOKEN's first byte", () -> {
            Check.fault(1, "\n  ^persona");
            Check.fault(1, "^persona \n 1");
            Check.fault(2, "person  \n^12345678 1 1;");
            Check.fault(3, "fee  ^value;");
            Check.fault(1, "^12345");
            Check.fault(1, "person 1 1 1 ^person");
        });
        Edge.of(3, "of one TOKEN the least", () -> {
            // 2 ahead of 3, 4 and 6; 1 ahead of 2 and 3.
            Check.fault(3, PERSON + "case ^9999 1 1 1;");
            Check.fault(2, PERSON + "case ^10000 1 1 1;");
            Check.fault(3, CASE + "thing 1 0 1 1 ^9999;");
            Check.fault(2, CASE + "thing 1 0 1 1 ^10000;");
            Check.fault(4, "post 5 1;post ^1 1;");
            Check.fault(2, "post 5 1;post ^0 1;");
            Check.fault(4, "post 99 1;post ^99 1;");
            Check.fault(2, "post 99 1;post ^100 1;");
            Check.fault(2, "fee ((((((^x))))));");
            Check.fault(3, "fee (((((^x)))));");
            Check.fault(1, "^12345");
            Check.fault(1, "fee 1 ^12345;");
            Check.fault(1, "fee 1 ^x;");
            Check.fault(3, CASE + "sharp 1 0 20 1 ^1;");
        });
    }

    private static void faultOne() {
        Edge.of(3, "1 a TOKEN that can't stand there, or is none (the text's length where it ends too soon)", () -> {
            for (String word : new String[] {"over", "weight", "limit", "things", "board", "or", "and", "not", "x"}) {
                Check.fault(1, "^" + word);
                Check.fault(1, PERSON + "^" + word + " 1 1 1;");
            }
            Check.fault(1, "^5 1;");
            Check.fault(1, "person ^");
            Check.fault(1, "person 1 1 ^");
            Check.fault(1, "person 1 1 1^");
            Check.fault(1, "person 1 1 1 \n ^");
            Check.told("person 1 1 1; \n ");
            Check.fault(1, "fee ^");
            Check.fault(1, "fee (((((^");
            Check.fault(1, "fee not ^");
            Check.fault(1, "fee 1 < ^");
            Check.fault(1, "person^\u0000");
            Check.fault(1, "person^\u00ff 1 1 1;");
            Check.fault(1, "person 1 1 1;^\u0080");
        });
    }

    private static void faultTwo() {
        Edge.of(3, "2 one that can, but is too much: a NUMBER of 5 digits or more, or (not in an EXPR) not as told", () -> {
            Check.fault(2, "fee ^10000;");
            Check.fault(2, "fee 1+^99999;");
            Check.fault(2, "fee not 1<^100000;");
            Check.told("fee 9999+9999;");
            Check.fault(1, "person 300 9 30 ^9999;");
            Check.fault(2, "person ^9999 9 30;");
            Check.fault(2, "post 99 1;looks ^9999 1;");
        });
        Edge.of(3, "the first TOKEN of the 5th PERSON, the 6th CASE, the 13th THING, the 7th POST", () -> {
            Check.told(PERSON.repeat(4));
            Check.fault(2, PERSON.repeat(4) + "^person x");
            Check.fault(2, PERSON.repeat(4) + " ^person");
            Check.fault(1, PERSON.repeat(3) + "person ^x");
            Check.told(PERSON + "case 0 20 60 7;".repeat(5));
            Check.fault(2, PERSON + "case 0 20 60 7;".repeat(5) + "^case x");
            Check.fault(1, PERSON + "case 0 20 60 7;".repeat(4) + "case ^x");
            Check.told(CASE + "thing 1 0 1 1 0;".repeat(12));
            Check.fault(2, CASE + "coat 1 0 1 1 0 1;".repeat(12) + "^thing x");
            Check.fault(1, CASE + "coat 1 0 1 1 0 1;".repeat(11) + "thing ^x");
            String posts = "post 1 1;post 2 1;post 3 1;post 4 1;post 5 1;";
            Check.told(posts + "post 6 1;");
            Check.fault(2, posts + "post 6 1;^post x");
            Check.fault(1, posts + "post ^x");
        });
    }

    private static void faultTwoInRules() {
        Edge.of(3, "of an EXPR within 6 others (a NUMBER, any word, a parenthesis)", () -> {
            Check.told("fee ((((1))));");
            Check.told("fee (((((1)))));");
            Check.fault(2, "fee ((((((^1))))));");
            Check.fault(2, "fee (((((( ^12345");
            for (String word : new String[] {"over", "not", "and", "or", "person", "x"}) {
                Check.fault(2, "fee ((((((^" + word + "))))));");
                int kind = word.equals("over") ? 0 : word.equals("not") ? 1 : 3;
                place("within 5: " + word, "fee (((((" + word + ")))));", kind, kind == 0 ? -1 : kind == 1 ? 12 : 9);
            }
            Check.fault(2, "fee ((((((^(1)))))));");
            Check.fault(1, "fee ((((((^)))))));");
            Check.fault(1, "fee ((((((^+1))))));");
            Check.fault(1, "fee ((((((^;");
            Check.fault(1, "fee ((((((^!");
            Check.fault(1, "fee ((((((^");
            // Side by side they aren't within one another; it is the same within a sum, a test, a not.
            gives("(((((over)))))+(((((over)))))*(((((2)))))", 9);
            gives("not(1+(2*(3<(4 and(not 1)))))", 0);
            Check.fault(2, "fee not(1+(2*(3<(4 and(5 or(^not 1)))))));");
            Check.fault(2, "fee (((((1)))))+((((((^1))))));");
            gives("0 or 1 and 9-7+2*(0 or 1 and 9-7+2*(0 or 1 and 9-7+2*(0 or 1 and 9-7+2*(0 or 1 and 9-7+2*(over)=8)=4)=4)=4)=4", 1);
            // As much as can wait for its right side, at each depth, up to the last NUMBER.
            gives("0 or 1 and 3=1+2*(0 or 1 and 3=1+2*(0 or 1 and 3=1+2*(0 or 1 and 3=1+2*(0 or 1 and 3=1+2*(0 or 1 and 7=1+2*3)))))", 1);
            gives("0 or 1 and 3=1+2*(0 or 1 and 3=1+2*(0 or 1 and 3=1+2*(0 or 1 and 3=1+2*(0 or 1 and 3=1+2*(0 or 1 and 7=1+2*4)))))", 0);
        });
        Edge.of(3, "the seventh 'not' side by side", () -> {
            for (int n = 0; n <= 6; n++) {
                gives("not ".repeat(n) + "1", n % 2 == 0 ? 1 : 0);
            }
            Check.fault(2, "fee " + "not ".repeat(6) + "^not 1;");
            Check.fault(2, "fee " + "not ".repeat(6) + "^not not 1;");
            Check.fault(2, "fee " + "not ".repeat(6) + "^not");
            Check.fault(1, "fee " + "not ".repeat(6) + "^;");
            Check.fault(3, "fee " + "not ".repeat(6) + "^and 1;");
            gives("not ".repeat(6) + "(" + "not ".repeat(6) + "5)", 1);
            gives("not ".repeat(5) + "(" + "not ".repeat(6) + "5)", 0);
            gives("not ".repeat(6) + "1 and " + "not ".repeat(6) + "1 or " + "not ".repeat(6) + "1", 1);
            Check.fault(2, "fee 1 and " + "not ".repeat(6) + "^not 1;");
            Check.fault(2, "fee (" + "not ".repeat(6) + "^not 1);");
        });
    }

    private static void faultThree() {
        Edge.of(3, "3 any word where a PART must stand that is no VALUE", () -> {
            String[] none = {"person", "case", "thing", "coat", "sharp", "glass", "food", "shirt", "post", "looks", "fee", "or",
                "and", "x", "value", "thingss", "overweight"};
            for (String word : none) {
                Check.fault(3, "fee ^" + word + ";");
                Check.fault(3, "fee not ^" + word + ";");
                Check.fault(3, "fee (^" + word + ");");
                Check.fault(3, "fee 1+^" + word + ";");
                Check.fault(3, "fee 1*^" + word + ";");
                Check.fault(3, "fee 1<^" + word + ";");
                Check.fault(3, "fee 1 or ^" + word + ";");
            }
            Check.fault(3, "fee 1+^not 1;");
            Check.fault(3, "fee 1*^not 1;");
            Check.fault(3, "fee 1=^not 1;");
            Check.told("fee 1 or not 1 and not 1;");
            for (String value : Model.VALUES) {
                Check.told("fee " + value + "*" + value + "<" + value + ";");
            }
        });
        Edge.of(3, "a PERSON, a CASE that isn't told ahead", () -> {
            Check.fault(3, "case ^0 1 1 1;");
            Check.fault(3, "case ^0 1 1 1;" + PERSON);
            for (int n = 1; n <= 4; n++) {
                Check.told(PERSON.repeat(n) + "case " + (n - 1) + " 1 1 1;");
                Check.fault(3, PERSON.repeat(n) + "case ^" + n + " 1 1 1;" + PERSON);
                Check.fault(3, PERSON.repeat(n) + "case ^9999 1 1 1;");
            }
            Check.fault(3, PERSON + "thing 1 0 1 1 ^0;");
            Check.fault(3, PERSON + "thing 1 0 1 1 ^0;case 0 20 60 7;");
            for (int n = 1; n <= 5; n++) {
                String cases = PERSON + "case 0 20 60 7;".repeat(n);
                Check.told(cases + "thing 1 0 1 1 " + (n - 1) + ";");
                Check.fault(3, cases + "coat 1 0 1 1 ^" + n + " 1;");
                Check.fault(3, cases + "thing 1 0 1 1 ^9999;");
            }
        });
    }

    private static void faultsFourToSix() {
        Edge.of(3, "4 the WEIGHT of a POST that isn't more than that of the one ahead", () -> {
            Check.fault(4, "post 50 1;post ^49 1;");
            Check.fault(4, "post 50 1;post ^50 1;");
            Check.told("post 50 1;post 51 1;");
            Check.fault(4, "post 10 1;post 50 1;post ^50 1;");
            Check.fault(4, "post 10 1;post 50 1;post ^11 1;");
            Check.fault(4, "post 1 1;post 2 1;post 3 1;post 4 1;post 5 1;post ^5 1;");
            Check.fault(4, "post 99 1;post ^1 x");
            Check.told("post 1 999;post 2 0;");
        });
        Edge.of(3, "5 a second 'looks', 'fee'", () -> {
            Check.told("looks 1 1;fee 1;");
            Check.fault(5, "looks 1 1;fee 1;^looks 1 1;");
            Check.fault(5, "looks 1 1;fee 1;^fee 1;");
            Check.fault(5, "looks 0 0;^looks");
            Check.fault(5, "fee 0;^fee");
            Check.fault(5, "fee 0;looks 0 0;^fee x");
            PoundsOver x = Check.told("looks 1 1;fee 1;");
            Check.due("one anew is no second one", Check.hall(x, "looks 2 2;fee 2;"), 0);
            Check.due("behind a FAULT", Check.hall(x, "looks 2 2;fee 2;x"), 1);
            Check.due("one anew", Check.hall(x, "looks 3 3;fee 2;"), 0);
            Check.due("count(4)", x.count(4), 3);
        });
        Edge.of(3, "6 the CASE of a THING in which it can't be (a sharp one on BOARD,"
            + " or HOLDS is too little with those that were told ahead)", () -> {
            String board = PERSON + "case 0 20 10 7;case 0 20 10 7 board;";
            for (String kind : Model.KINDS) {
                String heat = kind.equals("coat") ? " 1;" : ";";
                if (kind.equals("sharp")) {
                    Check.fault(6, board + kind + " 1 0 0 1 ^1;");
                } else {
                    Check.told(board + kind + " 1 0 1 1 1" + heat);
                }
                Check.told(board + kind + " 1 0 9 1 0" + heat);
                Check.told(board + kind + " 1 0 10 1 0" + heat);
                Check.fault(6, board + kind + " 1 0 11 1 ^0" + heat);
                Check.told(board + "food 1 0 6 1 0;" + kind + " 1 0 4 1 0" + heat);
                Check.fault(6, board + "food 1 0 6 1 0;" + kind + " 1 0 5 1 ^0" + heat);
            }
            Check.told(board + "food 1 0 10 1 0;food 1 0 0 1 0;food 1 0 10 1 1;food 1 0 0 1 1;");
            Check.fault(6, board + "food 1 0 10 1 0;food 1 0 1 1 ^0;");
            Check.fault(6, board + "food 1 0 10 1 1;food 1 0 1 1 ^1;");
            // A coat's SIZE counts in a CASE, and the FAULT is ahead of its HEAT.
            Check.fault(6, board + "coat 1 0 10 1 0 9;coat 1 0 1 1 ^0 99;");
            Check.told(PERSON + "case 0 0 0 0;thing 60 0 0 0 0;");
            Check.fault(6, PERSON + "case 0 0 0 0;thing 60 0 1 0 ^0;");
            Check.told(PERSON + "case 0 0 60 0;" + "thing 1 0 20 0 0;".repeat(3));
            Check.fault(6, PERSON + "case 0 0 60 0;" + "thing 1 0 20 0 0;".repeat(3) + "thing 1 0 1 0 ^0;");
        });
    }
}
