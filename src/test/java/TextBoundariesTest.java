/** The boundaries of promises 22 to 25: the pad, its fault, and what is carried out. */
public final class TextBoundariesTest extends Checks {

    private static PlateWriters padOf(int length) {
        PlateWriters x = busyDesk();
        x.wipe();
        put(x, repeated("n", length, ""));
        return x;
    }

    // ---- promise 22: put

    @Boundary(of = 22, says = "BAD_VALUE if there is no character")
    static void putOfNoCharacter() {
        refused("put(0)", d -> d.put(0L), BAD_VALUE);
        stays("put(0)", PlateWriters::new, d -> d.put(0L), BAD_VALUE);
    }

    @Boundary(of = 22, says = "BAD_VALUE if there is no character, a code is not 33 to 126")
    static void codesOutOfRange() {
        for (int code : new int[] {1, 31, 32, 127, 128, 255})
            for (int behind = 0; behind < 8; behind++) {
                long alone = (long) code << 8 * behind, among = alone;
                for (int i = 0; i < 8; i++) if (i != behind) among |= 110L << 8 * i;
                long ahead = alone;
                for (int i = 0; i < behind; i++) ahead |= 110L << 8 * i;
                long[] bad = {among, ahead, alone};
                for (long characters : bad) {
                    PlateWriters x = new PlateWriters();
                    due("put(" + characters + ")", x.put(characters), BAD_VALUE);
                    due("count(8)", x.count(8), 0);
                }
            }
    }

    @Boundary(of = 22, says = "a code is not 33 to 126")
    static void allCodes() {
        for (int code = 0; code < 256; code++)
            due("put(" + code + ")", new PlateWriters().put(code), code >= 33 && code <= 126 ? 1 : BAD_VALUE);
        refused("put(32)", d -> d.put(32L), BAD_VALUE);
        refused("put(127)", d -> d.put(127L), BAD_VALUE);
    }

    @Boundary(of = 22, says = {
        "8 bits that are 0 mean that there are no more characters, and everything above them has to be 0, too.",
        "or a bit above 8 bits that are 0 is not 0"})
    static void eachBitAboveAnEndOfTheCharacters() {
        for (int length = 0; length < 8; length++)
            for (int bit = 8 * length + 8; bit < 64; bit++) {
                long characters = 1L << bit;
                for (int i = 0; i < length; i++) characters |= 110L << 8 * i;
                due("put(" + characters + ")", new PlateWriters().put(characters), BAD_VALUE);
            }
        refused("put of n, nothing, n", d -> d.put(110L << 16 | 110L), BAD_VALUE);
        refused("put of n, nothing", d -> d.put(110L << 8), BAD_VALUE);
        refused("put(MIN)", d -> d.put(Long.MIN_VALUE), BAD_VALUE);
        refused("put(-1)", d -> d.put(-1L), BAD_VALUE);
        refused("put(MAX)", d -> d.put(Long.MAX_VALUE), BAD_VALUE);
    }

    @Boundary(of = 22, says = "`characters`: 1 to 8 characters")
    static void oneToEightCharacters() {
        for (int length = 1; length <= 8; length++) {
            PlateWriters x = new PlateWriters();
            due("put", x.put(packed("nononono".substring(0, length))), length);
            due("count(8)", x.count(8), length);
            due("put again", x.put(packed("~!~!~!~!".substring(0, length))), 2 * length);
        }
    }

    @Boundary(of = 22, says = {
        "Appends characters to the pad.",
        "its lowest 8 bits are the last character, the next 8 bits the one before, and so on"})
    static void theOrderOfTheCharacters() {
        PlateWriters x = desk(1);
        due("put of 8", x.put(packed("w0@1.2=a")), 8);
        due("put of 1", x.put(packed("b")), 9);
        due("put of 2", x.put(packed("cd")), 11);
        due("carryOut()", x.carryOut(), 4);
        for (int i = 0; i < 4; i++) due("letter " + i, x.at(1, 2 + i, 0), i);
    }

    @Boundary(of = 22, says = "TOO_MANY if the pad would be longer than 80")
    static void theLongestPad() {
        for (int length = 1; length <= 8; length++) {
            long characters = packed("oooooooo".substring(0, length));
            due("up to 80", padOf(80 - length).put(characters), 80);
            int too = 81 - length;
            stays("up to 81", () -> padOf(too), d -> d.put(characters), TOO_MANY);
            stays("beyond 80", () -> padOf(80), d -> d.put(characters), TOO_MANY);
        }
    }

    @Boundary(of = 22, says = "TOO_MANY if the pad would be longer than 80")
    static void aPutThatIsTooLongAppendsNothing() {
        PlateWriters x = new PlateWriters();
        put(x, repeated("n", 40, ";"));
        due("count(8)", x.count(8), 79);
        due("put of 2", x.put(packed(";n")), TOO_MANY);
        due("fault()", x.fault(), NONE);
        due("put of 1", x.put(packed(";")), 80);
        due("fault()", x.fault(), 80);
    }

    @Boundary(of = 22, says = "or a bit above 8 bits that are 0 is not 0; TOO_MANY if the pad would be longer than 80")
    static void badCharactersAreToldAheadOfTooMany() {
        for (long characters : new long[] {0L, 32L, 127L, -1L, 110L << 8, 32L << 8 | 110L, Long.MIN_VALUE})
            stays("put(" + characters + ")", () -> padOf(80), d -> d.put(characters), BAD_VALUE);
    }

    @Boundary(of = 22, says = "Returns the length of the pad then")
    static void putIsNoChange() {
        PlateWriters x = someDesk();
        due("put", x.put(packed("n")), 6);
        due("count(9)", x.count(9), 2);
    }

    // ---- promise 23: wipe

    @Boundary(of = 23, says = "Empties the pad, and returns the length that it had.")
    static void wipeOfAnEmptyAndAFullPad() {
        stays("wipe() of nothing", () -> padOf(0), d -> d.wipe(), 0);
        PlateWriters x = padOf(80);
        due("wipe() of 80", x.wipe(), 80);
        due("count(8)", x.count(8), 0);
        due("wipe() again", x.wipe(), 0);
        due("fault()", x.fault(), 0);
        due("carryOut()", x.carryOut(), BAD_TEXT);
        due("put", x.put(packed("n")), 1);
        due("fault()", x.fault(), NONE);
        due("wipe() of 1", x.wipe(), 1);
    }

    @Boundary(of = 23, says = "Empties the pad, and returns the length that it had.")
    static void wipeIsNoChange() {
        same("wipe()", () -> {
            PlateWriters x = someDesk();
            x.wipe();
            put(x, "h1;k2");
            return x;
        }, Checks::someDesk);
    }

    // ---- promise 24: fault

    private static void faults(Object... textsAndFaults) {
        for (int i = 0; i < textsAndFaults.length; i += 2)
            due("fault of " + textsAndFaults[i], faultOf((String) textsAndFaults[i]), (Integer) textsAndFaults[i + 1]);
    }

    @Boundary(of = 24, says = "Returns the fault of the pad, NONE if there is none.")
    static void theShortestTexts() {
        faults("n", NONE, "o0", NONE, "k0", NONE, "h0", NONE, "x@0.0", NONE, "p0@0.0", NONE, "w0@0.0=a", NONE);
    }

    @Boundary(of = 24, says =
        "if there is none and the text ends too early (also if it is empty), it is the length of the text")
    static void textsThatEndTooEarly() {
        due("an empty pad", new PlateWriters().fault(), 0);
        String[] orders = {"n;n", "o0;n", "k1;n", "h0;n", "h99;n", "x@0.0;n", "x@10.99;n", "p0@1.23;n", "w0@9.11=a;n",
            "w0@10.20=abc;n"};
        for (String order : orders)
            for (int length = 1; length <= order.length(); length++) {
                String text = order.substring(0, length);
                char last = text.charAt(length - 1);
                boolean place = text.indexOf('.') > 0 && text.indexOf(';') < 0;
                boolean whole = last == 'n' || text.charAt(0) == 'w' && last >= 'a' && last <= 'c'
                        || "okh".indexOf(text.charAt(0)) >= 0 && length > 1 && last != ';'
                        || "xp".indexOf(text.charAt(0)) >= 0 && place && last != '.';
                faults(text, whole ? NONE : length);
            }
    }

    @Boundary(of = 24, says = "text = order { \";\" order }")
    static void ordersAndWhatIsBetweenThem() {
        faults(";", 0, ";n", 0, "n;", 2, "n;;", 2, "n;;n", 2, "nn", 1, "n,n", 1, "n;n;n", NONE,
                "n;o1;k5;w0@1.2=ab;p1@3.4;x@5.6;h7", NONE, "h7;x@5.6;p1@3.4;w0@1.2=ab;k5;o1;n", NONE,
                "h7;x@5.6;p1@3.4;w0@1.2=ab;k5;o1;N", 32);
    }

    @Boundary(of = 24, says =
        "order = \"n\" | \"o\" digit | \"k\" digit | \"w\" digit \"@\" place \"=\" letter { letter } | \"p\" digit "
            + "\"@\" place | \"x\" \"@\" place | \"h\" number")
    static void everyCharacterAsTheFirstOne() {
        for (int code = 33; code <= 126; code++) {
            char sign = (char) code;
            faults("" + sign, sign == 'n' ? NONE : "okwpxh".indexOf(sign) >= 0 ? 1 : 0);
            faults("n;" + sign, sign == 'n' ? NONE : "okwpxh".indexOf(sign) >= 0 ? 3 : 2);
        }
    }

    /** Each character behind a text: where it can stand, the fault is none or behind it. */
    private static void behind(String text, String whole, String early) {
        for (int code = 33; code <= 126; code++) {
            char sign = (char) code;
            int want = whole.indexOf(sign) >= 0 ? NONE : early.indexOf(sign) >= 0 ? text.length() + 1 : text.length();
            faults(text + sign, want);
        }
    }

    private static final String DIGITS = "0123456789", LETTERS = "abcdefghijklmnopqrstuvwxyz";

    @Boundary(of = 24, says = {
        "The fault is the index of the first character that cannot stand at its place when the text is read from "
            + "left to right",
        "place = number \".\" number;  letter = \"a\" to \"z\""})
    static void everyCharacterAtEachPlace() {
        behind("n", "", ";");
        behind("o", DIGITS, "");
        behind("o9", "", ";");
        behind("k", DIGITS, "");
        behind("k0", "", ";");
        behind("w", "", DIGITS);
        behind("w0", "", "@");
        behind("w0@", "", DIGITS);
        behind("w0@0", "", ".");
        behind("w0@1", "", "." + DIGITS);
        behind("w0@99", "", ".");
        behind("w0@1.", "", DIGITS);
        behind("w0@1.0", "", "=");
        behind("w0@1.9", "", "=" + DIGITS);
        behind("w0@1.10", "", "=");
        behind("w0@1.2=", LETTERS, "");
        behind("w0@1.2=a", LETTERS, ";");
        behind("p", "", DIGITS);
        behind("p0", "", "@");
        behind("p0@", "", DIGITS);
        behind("p0@1", "", "." + DIGITS);
        behind("p0@1.", DIGITS, "");
        behind("p0@1.0", "", ";");
        behind("p0@1.2", DIGITS, ";");
        behind("p0@1.23", "", ";");
        behind("x", "", "@");
        behind("x@", "", DIGITS);
        behind("x@0", "", ".");
        behind("x@1.2", DIGITS, ";");
        behind("h", DIGITS, "");
        behind("h0", "", ";");
        behind("h1", DIGITS, ";");
        behind("h99", "", ";");
    }

    @Boundary(of = 24, says = "A digit is 0 to 9, a number 0 to 99, without leading zeros.")
    static void numbers() {
        for (int number = 0; number < 100; number++)
            faults("h" + number, NONE, "x@" + number + ".0", NONE, "x@0." + number, NONE);
        faults("h00", 2, "h01", 2, "h09", 2, "x@00.0", 3, "x@01.0", 3, "x@0.00", 5, "x@0.09", 5, "w0@1.01=a", 6);
    }

    @Boundary(of = 24, says = "(also of a digit by which a number would be above 99)")
    static void numbersAboveNinetyNine() {
        faults("h100", 3, "h990", 3, "h999", 3, "h109", 3, "x@100.0", 4, "x@999.0", 4, "x@0.100", 6, "p0@1.990", 7,
                "w0@100.1=a", 5, "w0@1.100=a", 7);
    }

    @Boundary(of = 24, says = "A digit is 0 to 9")
    static void aWriterAndAPlateAreOneDigit() {
        faults("o10", 2, "o00", 2, "k10", 2, "k00", 2, "w10@0.0=a", 2, "p10@0.0", 2, "p00@0.0", 2);
    }

    @Boundary(of = 24, says = "The pad is a text of at most 80 characters, a row of orders")
    static void aTextOfEightyCharacters() {
        faults("w0@0.0=" + repeated("z", 73, ""), NONE, "w0@0.0=" + repeated("z", 72, "") + ";", 80,
                "w0@0.0=" + repeated("z", 72, "") + "0", 79, repeated("n", 40, ";"), NONE,
                repeated("n", 40, ";") + ";", 80, repeated("n", 40, ";") + "n", 79,
                repeated("n", 38, ";") + ";h99", NONE,
                repeated("n", 37, ";") + ";x@9.1", NONE, repeated("n", 37, ";") + ";x@9.10", NONE,
                repeated("n", 37, ";") + ";x@9.1.", 79);
    }

    @Boundary(of = 24, says = "Returns the fault of the pad")
    static void faultChangesNothing() {
        stays("a fault", () -> padOf(3), d -> d.fault(), 1);
        stays("no fault", () -> padOf(1), d -> d.fault(), NONE);
        refused("no fault", d -> d.fault(), NONE);
    }

    // ---- promise 25: carryOut

    @Boundary(of = 25, says = "BAD_TEXT if the pad has a fault (then it stays)")
    static void aTextWithAFaultIsNotCarriedOut() {
        stays("carryOut() of nothing", () -> padOf(0), d -> d.carryOut(), BAD_TEXT);
        stays("carryOut() of nn", () -> padOf(2), d -> d.carryOut(), BAD_TEXT);
        for (String text : new String[] {"k1;", "k1;z", "h1;h100", "k1;w0@9.9="})
            stays("carryOut() of " + text, () -> {
                PlateWriters x = padOf(0);
                put(x, text);
                return x;
            }, d -> d.carryOut(), BAD_TEXT);
    }

    @Boundary(of = 25, says = "BAD_TEXT if the pad has a fault (then it stays)")
    static void aTextThatStaysCanBeMended() {
        PlateWriters x = new PlateWriters();
        due("carryOut() of k1;", carry(x, "k1;"), BAD_TEXT);
        due("count(8)", x.count(8), 3);
        due("carryOut() of k1;k2", carry(x, "k2"), 2);
        due("count(8)", x.count(8), 0);
        due("count(3)", x.count(3), 2);
    }

    @Boundary(of = 25, says = "This is a change (one, with all of them; also if none is carried out).")
    static void aTextIsOneChange() {
        PlateWriters x = someDesk();
        x.wipe();
        due("carryOut()", carry(x, "h1;h1;k3;n;w0@1.1=abc;p1@8.8;x@1.2;o0"), 10);
        due("count(9)", x.count(9), 3);
        due("undo()", x.undo(), 2);
        same("all are undone", () -> {
            PlateWriters y = someDesk();
            y.wipe();
            carry(y, "h1;h1;k3;n;w0@1.1=abc;p1@8.8;x@1.2;o0");
            y.undo();
            put(y, "h1;k2");
            return y;
        }, Checks::someDesk);
    }

    @Boundary(of = 25, says = "also if none is carried out")
    static void aTextOfWhichNoneIsCarriedOutIsAChange() {
        PlateWriters x = new PlateWriters();
        due("carryOut()", carry(x, "o0;n"), 0);
        due("count(1)", x.count(1), 0);
        due("count(8)", x.count(8), 0);
        due("count(9)", x.count(9), 1);
        due("undo()", x.undo(), 0);
    }

    @Boundary(of = 25, says = "up to the first one that returns an error, and empties the pad")
    static void upToTheFirstError() {
        String[] first = {"o9", "o1", "k0", "k6", "w2@1.1=a", "w0@10.1=a", "w0@1.12=a", "w0@5.5=a", "w0@99.99=a",
            "w0@7.2=a", "p2@1.1", "p0@10.0", "p0@0.12", "p0@2.9", "p0@5.5", "x@10.0", "x@0.12", "x@1.1", "x@99.99",
            "h0", "h49", "h99"};
        for (String order : first) {
            PlateWriters x = someDesk();
            x.wipe();
            due("carryOut() of h1;" + order + ";h1", carry(x, "h1;" + order + ";h1"), 1);
            due("count(0)", x.count(0), 3);
            due("count(8)", x.count(8), 0);
            due("count(9)", x.count(9), 3);
        }
    }

    @Boundary(of = 25, says = {
        "Carries the orders of the pad out, one after the other",
        "\"n\": plate(); \"o\": lay() a plate on the desk; \"k\": writer() who presses so hard",
        "\"p\": promise(); \"x\": rub(); \"h\": pass() hours"})
    static void theLastValuesThatAreTaken() {
        PlateWriters x = new PlateWriters();
        due("carryOut()", carry(x, "n;n;n;n;o0;o3;k1;k5;k1;k1;k5;h1;h48;w4@9.11=z;p0@0.0;p4@9.0;x@9.11"), 17);
        int[] counts = {49, 4, 3, 5};
        for (int what = 0; what < 4; what++) due("count(" + what + ")", x.count(what), counts[what]);
        due("at(0, 0, 2)", x.at(0, 0, 2), 0);
        due("at(9, 0, 2)", x.at(9, 0, 2), 4);
        due("one plate more", carry(x, "n"), 0);
        due("one writer more", carry(x, "k1"), 0);
        due("the plate that is there", carry(x, "o3"), 0);
        due("no such plate", carry(x, "o4"), 0);
    }

    @Boundary(of = 25, says = "up to the first one that returns an error")
    static void theLastHourInAText() {
        PlateWriters x = new PlateWriters();
        for (int i = 0; i < 208; i++) x.pass(48);
        due("carryOut()", carry(x, "h15;h1;k1"), 1);
        due("count(0)", x.count(0), 9999);
        due("count(3)", x.count(3), 0);
    }

    @Boundary(of = 25, says =
        "\"w\": write() of a writer, letter by letter to the right, each letter as an order of its own")
    static void eachLetterOfAWordIsAnOrder() {
        PlateWriters x = clearDesk(1);
        due("up to the edge", carry(x, "w0@0.0=abcdefghijkl;h1"), 13);
        due("row(0, 0)", x.row(0, 0), 4095);
        due("beyond the edge", carry(x, "w0@1.0=abcdefghijklm;h1"), 12);
        due("row(1, 0)", x.row(1, 0), 4095);
        due("row(2, 0): a word does not go on below", x.row(2, 0), 0);
        due("count(0)", x.count(0), 1);
        x.write(0, 3, 5, 0);
        due("up to a letter", carry(x, "w0@3.3=xyz;h1"), 2);
        due("row(3, 0)", x.row(3, 0), 7 << 3);
        due("at(3, 3, 0)", x.at(3, 3, 0), 23);
        due("at(3, 4, 0)", x.at(3, 4, 0), 24);
        due("at(3, 5, 0)", x.at(3, 5, 0), 0);
        due("the longest word", carry(x, "w0@4.1=" + repeated("q", 73, "")), 11);
    }

    @Boundary(of = 25, says = "Returns how many orders were carried out")
    static void aTextOfFortyOrders() {
        PlateWriters x = new PlateWriters();
        due("four plates of forty", carry(x, repeated("n", 40, ";")), 4);
        due("count(9)", x.count(9), 1);
        due("hours", carry(x, repeated("h1", 27, ";")), 27);
        due("count(0)", x.count(0), 27);
        due("a shorter text behind it", carry(x, "h1"), 1);
        due("count(0)", x.count(0), 28);
        due("count(9)", x.count(9), 3);
    }

    @Boundary(of = 25, says = "The first number of a place is its row.")
    static void rowsAndColumnsOfAText() {
        PlateWriters x = desk(1);
        due("carryOut()", carry(x, "w0@9.10=c;p0@2.11"), 2);
        due("at(9, 10, 0)", x.at(9, 10, 0), 2);
        due("at(2, 11, 2)", x.at(2, 11, 2), 0);
        due("rub", carry(x, "x@9.10"), 1);
        due("row beyond", carry(x, "p0@11.2"), 0);
    }

    public static void main(String[] args) {
        runAll(TextBoundariesTest.class);
    }
}
