import java.math.BigInteger;

/**
 * The edges that row 3 of the Terms names: mornings, evenings undone, worlds told by a text, images, STATUS.
 * Each method is a sentence of it; what is due was worked out by hand from its words.
 */
final class WorldsEdgesTest {
    private static final int MOST = Integer.MAX_VALUE, MOST_BYTES = 150;
    private static final Check check = new Check();

    public static void main(String[] args) {
        morningsOfNone();
        morningsAreStrict();
        morningsGoOn();
        morningsWrapAround();
        morningsChangeNothing();
        undoOfNoEvening();
        undoOfEightAtMost();
        undoBringsBackThese();
        tellLeavesWhatMayBeUndone();
        allElseToldLeavesNone();
        whatIsRefusedLeavesWhatMayBeUndone();
        textIsOf150Bytes();
        textIsEmpty();
        textEndsTooEarly();
        wordsThatAreNone();
        worldOnceAndFirst();
        numbersOfMoreThanTwoFigures();
        bytesThatBeginNone();
        tokensInTheWrongPlace();
        blanksBetween();
        theFirstItemRefused();
        itemsInTheirOrder();
        faultsComeBeforeRefusals();
        toldAnewByTheseAlone();
        imagesOfNone();
        imagesKeepAllBut();
        imagesKeepEveningsThatMayBeUndone();
        imagesAreNotTouched();
        statusCountsEach();
        statusCountsNoItems();
        statusOfAnother();
        countsFromNoneToAll();
        digestWrapsAround();
        check.end();
    }

    private static RavenSupper one(int u, int d) {
        RavenSupper x = new RavenSupper();
        x.world(1);
        x.change(0, u, d);
        return x;
    }

    private static void mornings(RavenSupper x, int m, int seed, int due) {
        check.asks(x, "mornings(" + m + ", " + seed + ")", () -> x.mornings(m, seed), due);
    }

    /** "m (0 .. 60)"; "a SEED (0 .. 999999)". */
    private static void morningsOfNone() {
        RavenSupper x = one(16, 0);
        mornings(x, 0, 0, 0);
        mornings(x, 0, 999999, 0);
        mornings(x, 1, 0, 1);
        mornings(x, 60, 999999, 60);
        check.bad(x, "mornings(61, 0)", () -> x.mornings(61, 0), -2);
        check.bad(x, "mornings(-1, 0)", () -> x.mornings(-1, 0), -2);
        check.bad(x, "mornings(0, 1000000)", () -> x.mornings(0, 1000000), -2);
        check.bad(x, "mornings(0, -1)", () -> x.mornings(0, -1), -2);
    }

    /** "by 16 left over, less than u, if it is QUIET (d, if there is WAR)". */
    private static void morningsAreStrict() {
        // by SEED 0 these are drawn: 0, 12, 4, 5; by 1: 6, 14, 1, 11; by 7: 12, 14, 4, 2
        mornings(one(0, 16), 1, 0, 0);
        mornings(one(1, 16), 1, 0, 1);
        mornings(one(6, 16), 1, 1, 0);
        mornings(one(7, 16), 1, 1, 1);
        mornings(one(12, 0), 2, 7, 0);
        mornings(one(13, 0), 2, 7, 2);
        // war, and then as 12 is drawn
        mornings(one(1, 12), 2, 0, 2);
        mornings(one(1, 13), 2, 0, 1);
        mornings(one(16, 14), 2, 1, 2);
        mornings(one(16, 15), 2, 1, 1);
    }

    /** "all LANDS are QUIET; in each morning, for each LAND in order, X becomes .."; "all together". */
    private static void morningsGoOn() {
        RavenSupper x = new RavenSupper();
        x.world(2);
        x.belief(0, 16);
        x.belief(1, 16);
        // by SEED 0: land 0 draws 0, 4, 10; land 1 draws 12, 5, 15
        x.change(0, 5, 4);
        x.change(1, 12, 0);
        mornings(x, 1, 0, 1);
        mornings(x, 2, 0, 1 + 2);
        mornings(x, 3, 0, 1 + 2 + 2);
        x.change(0, 5, 5);
        mornings(x, 2, 0, 1 + 1);
        x.change(1, 13, 6);
        mornings(x, 1, 0, 2);
        mornings(x, 2, 0, 2 + 0);
    }

    /** "by 2147483648 what is left over". */
    private static void morningsWrapAround() {
        RavenSupper x = new RavenSupper();
        mornings(x, 60, 999999, 87);
        mornings(x, 1, 0, 1);
        x.world(6);
        mornings(x, 60, 0, 178);
        mornings(x, 60, 999999, 194);
        mornings(one(1, 0), 60, 999999, 33);
        BigInteger drawn = BigInteger.valueOf(999999).multiply(BigInteger.valueOf(1103515245)).add(BigInteger.valueOf(12345));
        int first = drawn.mod(BigInteger.TWO.pow(31)).divide(BigInteger.TWO.pow(16)).intValue() % 16;
        mornings(one(first, 0), 1, 999999, 0);
        mornings(one(first + 1, 0), 1, 999999, 1);
    }

    private static void morningsChangeNothing() {
        RavenSupper x = one(16, 16);
        x.mornings(60, 5);
        check.due("belief", x.of(0, 0), 8);
        check.due("day", x.count(1), 0);
        mornings(x, 60, 5, 30);
        mornings(x, 60, 5, 30);
    }

    private static void undoOfNoEvening() {
        RavenSupper x = new RavenSupper();
        check.no(x, "undo()", x::undo, -3);
        x.tell(0, 0, 0, true);
        check.no(x, "undo()", x::undo, -3);
        x.evening();
        check.due("undo()", x.undo(), 1);
        check.no(x, "undo()", x::undo, -3);
    }

    /** "(8 at most ..)". */
    private static void undoOfEightAtMost() {
        for (int evenings = 7; evenings <= 10; evenings++) {
            RavenSupper x = new RavenSupper();
            for (int day = 1; day <= evenings; day++) {
                x.evening();
                check.due("that may be undone", x.count(4), Math.min(day, 8));
            }
            for (int left = Math.min(evenings, 8); left > 0; left--) {
                check.due("that may be undone", x.count(4), left);
                check.due("undo()", x.undo(), 1);
            }
            check.due("the day", x.count(1), Math.max(0, evenings - 8));
            check.no(x, "undo()", x::undo, -3);
            x.evening();
            check.due("one more", x.count(4), 1);
        }
    }

    /** "BELIEFS, the DAY's number, what is told for the EVENING, as ahead of the last EVENING". */
    private static void undoBringsBackThese() {
        RavenSupper x = new RavenSupper();
        for (int land = 0; land < 4; land++) {
            x.belief(land, 3 * land + 4);
            x.change(land, 3, land);
        }
        x.tell(1, 0, 4, true);
        long before = x.digest();
        x.evening();
        long behind = x.digest();
        x.tell(0, 0, 1, true);
        check.due("undo()", x.undo(), 1);
        check.due("as it was", x.digest(), before);
        check.due("bird 0 tells nothing", x.about(0, 3), -1);
        check.due("bird 1 tells of home", x.about(1, 3), 0);
        x.evening();
        check.due("the same evening once more", x.digest(), behind);
        x.undo();
        check.due("in place of what it told", x.tell(1, 0, 4, false), 11);
        x.evening();
        check.due("another evening", x.digest() == behind ? 1 : 0, 0);
    }

    private static RavenSupper twoEvenings() {
        RavenSupper x = new RavenSupper();
        x.evening();
        x.evening();
        return x;
    }

    /** "tell() leaves it". */
    private static void tellLeavesWhatMayBeUndone() {
        RavenSupper x = twoEvenings();
        x.tell(0, 0, 0, true);
        x.tell(1, 0, 0, true);
        x.tell(0, 0, 5, false);
        check.due("that may be undone", x.count(4), 2);
        check.due("undo()", x.undo(), 1);
        check.due("the day", x.count(1), 1);
    }

    private interface Told {
        void to(RavenSupper x);
    }

    private static void undone(String behind, Told told, int due) {
        RavenSupper x = twoEvenings();
        told.to(x);
        check.due("that may be undone behind " + behind, x.count(4), due);
        check.due("undo() behind " + behind, x.undo(), due > 0 ? 1 : -3);
    }

    /** "all else that is told leaves none": even if it is told as it was. */
    private static void allElseToldLeavesNone() {
        undone("world", x -> x.world(4), 0);
        undone("belief", x -> x.belief(0, 8), 0);
        undone("change", x -> x.change(0, 2, 2), 0);
        undone("way", x -> x.way(0, 1, 0), 0);
        undone("bird", x -> x.bird(0, 12, 4), 0);
        undone("crow", x -> x.crow(0, 0, true), 0);
        undone("read", x -> {
            check.type(x, "world 4;");
            x.read();
        }, 0);
        undone("an image from before", x -> {
            x.world(4);
            x.image(0);
            x.evening();
            x.from(0);
        }, 0);
        undone("type", x -> x.type('w'), 2);
        undone("clear", RavenSupper::clear, 2);
        undone("image", x -> x.image(1), 2);
        undone("an image of now", x -> {
            x.image(1);
            x.from(1);
        }, 2);
    }

    private static void whatIsRefusedLeavesWhatMayBeUndone() {
        undone("world(7)", x -> x.world(7), 2);
        undone("belief(0, 17)", x -> x.belief(0, 17), 2);
        undone("change(4, 0, 0)", x -> x.change(4, 0, 0), 2);
        undone("way(1, 1, 1)", x -> x.way(1, 1, 1), 2);
        undone("bird(0, 12, 0)", x -> x.bird(0, 12, 0), 2);
        undone("crow(0, 4, true)", x -> x.crow(0, 4, true), 2);
        undone("tell(0, 1, 0, true)", x -> x.tell(0, 1, 0, true), 2);
        undone("from(0)", x -> x.from(0), 2);
        undone("a text that ends too early", x -> {
            check.type(x, "world 4");
            x.read();
        }, 2);
        undone("an item that is refused", x -> {
            check.type(x, "world 4;belief 4 1;");
            x.read();
        }, 2);
    }

    private static RavenSupper texted(String text) {
        RavenSupper x = new RavenSupper();
        x.world(5);
        x.way(0, 4, 3);
        x.crow(1, 2, true);
        x.evening();
        x.tell(1, 4, 5, false);
        check.type(x, text);
        return x;
    }

    private static void read(String text, int due) {
        RavenSupper x = texted(text);
        int[] before = {x.status(0), x.status(1), x.status(2)};
        check.due("read() of <" + text + ">", x.read(), due);
        for (int what = 0; what < 3; what++) {
            check.due("status(" + what + ") behind <" + text + ">", x.status(what), before[what]);
        }
    }

    /** There is a FAULT, and nothing changes: what is there is as it is where the text was not read. */
    private static void fault(String text, int place) {
        read(text, -10 - place);
        RavenSupper x = texted(text);
        x.read();
        boolean same = Probe.of(x).equals(Probe.of(texted(text)));
        check.due("what is there behind read() of <" + text + "> is as it was", same ? 1 : 0, 1);
    }

    private static void refusedItem(String text, int item) {
        fault(text, 990 + item);
    }

    /** "THE WORLD is a TEXT (150 bytes at most)". */
    private static void textIsOf150Bytes() {
        String full = "world6;" + "way0 1 1;".repeat(15);
        RavenSupper x = new RavenSupper();
        check.type(x, full + " ".repeat(MOST_BYTES - full.length()));
        check.due("bytes", x.count(5), 150);
        check.full(x, "a byte more", () -> x.type(';'), -4);
        check.due("read()", x.read(), 16);
        String blanks = " ".repeat(MOST_BYTES - 8);
        read(blanks + "world 1;", 1);
        read("world 1;" + blanks, 1);
        fault("world 1;" + blanks.substring(1) + ";", 149);
        fault("world 1;" + blanks.substring(1) + "w", 149);
        fault("world 1;" + blanks.substring(4) + "bird", 150);
        fault("world 1;" + blanks.substring(4) + "bord", 146);
        fault("world 1" + blanks + " ", 150);
        fault("x".repeat(MOST_BYTES), 0);
        fault("world " + "1".repeat(MOST_BYTES - 6), 6);
        fault(" ".repeat(MOST_BYTES), 150);
        x.clear();
        check.due("a byte behind none", x.type(127), 1);
    }

    /** "the TEXT's length, if it ends too early (an empty one, too)". */
    private static void textIsEmpty() {
        fault("", 0);
        fault(" ", 1);
        RavenSupper x = texted("world 1;");
        check.due("clear()", x.clear(), 8);
        check.asks(x, "read()", x::read, -10);
        check.due("clear()", x.clear(), 0);
    }

    private static void textEndsTooEarly() {
        fault("world", 5);
        fault("world ", 6);
        fault("world 1", 7);
        fault("world 12", 8);
        fault("world 1 ", 8);
        fault("world 1;belief", 14);
        fault("world 1;belief 0", 16);
        fault("world 1;belief 0 1", 18);
        fault("world 1;change", 14);
        fault("world 1;change 0", 16);
        fault("world 1;change 0 1", 18);
        fault("world 1;change 0 1 1", 20);
        fault("world 2;way", 11);
        fault("world 2;way 0", 13);
        fault("world 2;way 0 1", 15);
        fault("world 2;way 0 1 1 ", 18);
        fault("world 1;bird", 12);
        fault("world 1;bird 0 1", 16);
        fault("world 1;bird 0 1 1", 18);
        read("world 1; ", 1);
    }

    /** "(a word that is none ..)". */
    private static void wordsThatAreNone() {
        for (String word : new String[] {"worl", "worlds", "worldz", "worldworld", "torld", "wordl", "worlf", "w", "a", "z"}) {
            fault(word + " 1;", 0);
            fault(" " + word, 1);
        }
        for (String word : new String[] {"belief", "change", "way", "bird"}) {
            String rest = word.equals("belief") ? " 0 1;" : " 0 1 1;";
            read("world 2;" + word + rest, 2);
            fault("world 2;" + word.substring(0, word.length() - 1) + rest, 8);
            fault("world 2;" + word.substring(1) + rest, 8);
            fault("world 2;z" + word.substring(1) + rest, 8);
            fault("world 2;" + word.substring(0, word.length() - 1) + "z" + rest, 8);
            fault("world 2; " + word + "z" + rest, 9);
            fault("world 2; a" + word + rest, 9);
            fault("world 2;" + word.substring(0, 2) + " " + word.substring(2) + rest, 8);
        }
    }

    /** "world n (once, first of all)"; "(.. world again, anything ahead of it ..)". */
    private static void worldOnceAndFirst() {
        fault("world 1;world 1;", 8);
        fault("world 1; world 1;", 9);
        fault("world 2;belief 1 2;world 2;", 19);
        fault("belief 0 1;world 1;", 0);
        fault("  change 0 1 1;", 2);
        fault("way 0 1 1;", 0);
        fault("bird 0 1 1;", 0);
        fault(";world 1;", 0);
        fault("1 world 1;", 0);
        fault(" #world 1;", 1);
    }

    /** "figures that stand together (a number; of more than 2 it is none)". */
    private static void numbersOfMoreThanTwoFigures() {
        read("world 6;", 1);
        read("world 06;", 1);
        fault("world 006;", 6);
        fault("world 100;", 6);
        fault("world 000000006;", 6);
        fault("world  600", 7);
        read("world 2;belief 01 07;change 01 00 16;way 00 01 09;bird 01 40 09;", 5);
        fault("world 2;belief 001 07;", 15);
        fault("world 2;belief 1 007;", 17);
        fault("world 2;change 1 1 001;", 19);
        fault("world 2;way 000 1 1;", 12);
        fault("world 2;bird 1 123 1;", 15);
        // two numbers that stand apart are two
        fault("world 0 6;", 8);
    }

    /** "a byte that begins none". */
    private static void bytesThatBeginNone() {
        for (int c = 0; c < 128; c++) {
            boolean begins = c >= 'a' && c <= 'z' || c >= '0' && c <= '9' || c == ';' || c == ' ';
            if (!begins) {
                char sign = (char) c;
                fault(sign + "world 1;", 0);
                fault("world" + sign + "1;", 5);
                fault("world 1" + sign + ";", 7);
                fault("world 1;" + sign, 8);
            }
        }
        for (char letter = 'a'; letter <= 'z'; letter++) {
            fault(letter + "world 1;", 0);
            fault("world" + letter + " 1;", 0);
            fault("world 1" + letter + ";", 7);
            fault("world 1;" + letter, 8);
        }
        for (char figure = '0'; figure <= '9'; figure++) {
            fault(figure + "world 1;", 0);
            fault("world 1;" + figure, 8);
        }
    }

    private static void tokensInTheWrongPlace() {
        fault("world;", 5);
        fault("world world 1;", 6);
        fault("world 1 2;", 8);
        fault("world 1;;", 8);
        fault("world 1; ;", 9);
        fault("world 2;belief;", 14);
        fault("world 2;belief 1;", 16);
        fault("world 2;belief 1 2 3;", 19);
        fault("world 2;change 1 2;", 18);
        fault("world 2;change 1 2 3 4;", 21);
        fault("world 2;way 0 1;", 15);
        fault("world 2;way 0 1 2 3;", 18);
        fault("world 2;bird 0;", 14);
        fault("world 2;bird 0 1 2 3;", 19);
        fault("world 2;bird bird 0 1 2;", 13);
        fault("world 2;belief 1 way", 17);
    }

    /** "blanks (32) between". */
    private static void blanksBetween() {
        read("world 2;belief 1 3;", 2);
        read("   world   2   ;   belief   1   3   ;   ", 2);
        read("world2;belief1 3;", 2);
        fault("world 2;belief 13;", 17);
        fault("wor ld 2;", 0);
    }

    /** "the first ITEM (0 on) that is refused (as its call is)". */
    private static void theFirstItemRefused() {
        refusedItem("world 0;", 0);
        refusedItem("world 7;", 0);
        refusedItem("world 99;", 0);
        read("world 1;belief 0 0;belief 0 16;", 3);
        refusedItem("world 1;belief 1 0;", 1);
        refusedItem("world 1;belief 0 17;", 1);
        read("world 1;change 0 0 0;change 0 16 16;", 3);
        refusedItem("world 1;change 1 0 0;", 1);
        refusedItem("world 1;change 0 17 0;", 1);
        refusedItem("world 1;change 0 0 17;", 1);
        read("world 6;way 0 5 0;way 5 0 9;", 3);
        refusedItem("world 6;way 0 6 1;", 1);
        refusedItem("world 6;way 6 0 1;", 1);
        refusedItem("world 6;way 0 5 10;", 1);
        refusedItem("world 6;way 0 0 1;", 1);
        read("world 1;bird 0 0 1;bird 1 40 9;", 3);
        refusedItem("world 1;bird 2 0 1;", 1);
        refusedItem("world 1;bird 0 41 1;", 1);
        refusedItem("world 1;bird 0 0 0;", 1);
        refusedItem("world 1;bird 0 0 10;", 1);
    }

    private static void itemsInTheirOrder() {
        refusedItem("world 3;belief 2 1;belief 3 1;belief 4 1;", 2);
        refusedItem("world 7;belief 9 9;", 0);
        refusedItem("world 2;way 0 1 9;way 0 1 8;way 1 1 7;", 3);
        RavenSupper x = texted("world 3;belief 2 1;belief 2 5;way 0 2 3;way 2 0 4;bird 0 1 1;bird 0 8 2;");
        check.due("read()", x.read(), 7);
        check.due("the last belief", x.of(2, 0), 5);
        check.due("the last way", x.hours(0, 2), 4);
        check.due("the last bird", x.about(0, 2), 5);
    }

    private static void faultsComeBeforeRefusals() {
        fault("world 9;belief", 14);
        fault("world 9;belief 9 9", 18);
        fault("world 9;belief 99 99;x", 21);
        fault("world 2;belief 9 9;world 2;", 19);
    }

    /** "A WORLD without a FAULT is told anew by these alone". */
    private static void toldAnewByTheseAlone() {
        RavenSupper x = texted("world 5;change 3 4 5;");
        x.evening();
        x.image(1);
        long kept = x.digest();
        x.world(9);
        check.due("read()", x.read(), 2);
        RavenSupper y = new RavenSupper();
        y.world(5);
        y.change(3, 4, 5);
        check.type(y, "world 5;change 3 4 5;");
        check.due("all else is as at first", x.digest(), y.digest());
        check.due("no way", x.of(4, 4), -1);
        check.no(x, "no evening to undo", x::undo, -3);
        check.due("STATUS stays", x.status(0), 1);
        check.due("THE TEXT stays", x.read(), 2);
        check.due("the image stays", x.from(1), 1);
        check.due("as it was", x.digest(), kept);
    }

    /** "NO: none was kept." */
    private static void imagesOfNone() {
        RavenSupper x = new RavenSupper();
        check.no(x, "from(0)", () -> x.from(0), -3);
        check.no(x, "from(1)", () -> x.from(1), -3);
        check.due("image(1)", x.image(1), 1);
        check.no(x, "from(0)", () -> x.from(0), -3);
        check.due("from(1)", x.from(1), 1);
        check.due("from(1)", x.from(1), 1);
        check.bad(x, "image(2)", () -> x.image(2), -2);
        check.bad(x, "from(2)", () -> x.from(2), -2);
        check.bad(x, "image(-1)", () -> x.image(-1), -2);
        check.bad(x, "from(-1)", () -> x.from(-1), -2);
        check.bad(x, "from(MOST)", () -> x.from(MOST), -2);
    }

    /** "IMAGES 0, 1 keep all but them, THE TEXT and STATUS". */
    private static void imagesKeepAllBut() {
        RavenSupper x = texted("world 1;");
        x.image(0);
        x.world(2);
        long second = x.digest();
        x.image(1);
        x.from(0);
        check.due("image 0 holds no image 1", x.from(1), 1);
        check.due("image 1", x.digest(), second);
        x.clear();
        check.type(x, "world 3;belief 0 1;");
        x.world(0);
        x.undo();
        x.from(0);
        check.due("THE TEXT stays", x.count(5), 19);
        check.due("THE TEXT stays", x.read(), 2);
        check.due("BAD stays", x.status(0), 1);
        check.due("NO stays", x.status(1), 1);
        x.from(0);
        RavenSupper y = texted("world 3;belief 0 1;");
        check.due("all else is as it was", x.digest(), y.digest());
        check.due("far", x.of(4, 4), 3);
        check.due("caws", x.count(3), 1);
        check.due("the day", x.count(1), 1);
        check.due("what bird 1 tells", x.about(1, 3), 4);
    }

    /** "EVENINGS that may be undone they keep". */
    private static void imagesKeepEveningsThatMayBeUndone() {
        RavenSupper x = new RavenSupper();
        x.image(0);
        for (int day = 0; day < 9; day++) {
            x.tell(0, 0, day % 6, day % 2 == 0);
            x.evening();
        }
        x.image(1);
        x.belief(0, 3);
        check.due("none", x.count(4), 0);
        x.from(1);
        for (int left = 8; left > 0; left--) {
            check.due("that may be undone", x.count(4), left);
            check.due("undo()", x.undo(), 1);
            check.due("what was told", x.about(0, 3), 0);
        }
        check.no(x, "undo()", x::undo, -3);
        check.due("the day", x.count(1), 1);
        x.from(0);
        check.no(x, "undo()", x::undo, -3);
        x.from(1);
        check.due("eight still", x.count(4), 8);
    }

    /** It goes on from an image, and the image stays as it is. */
    private static void imagesAreNotTouched() {
        RavenSupper x = States.RICH.make();
        x.image(0);
        long kept = x.digest();
        for (int time = 0; time < 3; time++) {
            x.from(0);
            check.due("as it was kept", x.digest(), kept);
            x.belief(1, 1);
            x.change(1, 1, 1);
            x.way(0, 4, 1);
            x.bird(0, 1, 1);
            x.crow(0, 0, true);
            x.tell(0, 0, 0, true);
            x.evening();
            x.undo();
            x.evening();
        }
        x.from(0);
        x.image(1);
        x.world(1);
        x.from(1);
        check.due("an image of what went on from one", x.digest(), kept);
        x.undo();
        x.image(1);
        x.from(0);
        check.due("another image leaves it", x.digest(), kept);
        check.due("kept anew", x.from(1), 1);
        check.due("in place of what it kept", x.digest() == kept ? 1 : 0, 0);
    }

    /** "STATUS: how many calls were refused as BAD, NO, FULL". */
    private static void statusCountsEach() {
        RavenSupper x = new RavenSupper();
        for (int what = 0; what < 3; what++) {
            check.due("none at first", x.status(what), 0);
        }
        x.world(7);
        statusIs(x, 1, 0, 0);
        x.undo();
        statusIs(x, 1, 1, 0);
        x.worth(0, 9);
        statusIs(x, 2, 1, 0);
        x.worth(0, 1);
        statusIs(x, 2, 2, 0);
        for (int caw = 0; caw < 9; caw++) {
            x.crow(1, 1, true);
        }
        statusIs(x, 2, 2, 1);
        x.crow(4, 1, true);
        statusIs(x, 3, 2, 1);
        x.liars(2);
        x.plan(0, 0, 0);
        x.round(0, 0, 0, 0);
        x.mixed(100, 0, 0, 0);
        statusIs(x, 7, 2, 1);
        x.world(2);
        x.image(0);
        x.from(0);
        x.clear();
        x.hush();
        statusIs(x, 7, 2, 1);
    }

    private static void statusIs(RavenSupper x, int bad, int no, int full) {
        int[] due = {bad, no, full};
        for (int what = 0; what < 3; what++) {
            check.due("status(" + what + ")", x.status(what), due[what]);
        }
    }

    /** "(.. ITEMS are none)". */
    private static void statusCountsNoItems() {
        RavenSupper x = new RavenSupper();
        check.type(x, "world 9;belief 9 99;");
        check.due("read()", x.read(), -1000);
        statusIs(x, 0, 0, 0);
        x.clear();
        check.type(x, "world 2;belief 9 99;");
        check.due("read()", x.read(), -1001);
        statusIs(x, 0, 0, 0);
        x.clear();
        check.due("read()", x.read(), -10);
        statusIs(x, 0, 0, 0);
    }

    /** "-1: another what (counts as BAD)." */
    private static void statusOfAnother() {
        RavenSupper x = new RavenSupper();
        check.due("status(3)", x.status(3), -1);
        statusIs(x, 1, 0, 0);
        check.due("status(-1)", x.status(-1), -1);
        statusIs(x, 2, 0, 0);
        check.due("status(MOST)", x.status(MOST), -1);
        statusIs(x, 3, 0, 0);
    }

    private static void countsFromNoneToAll() {
        RavenSupper x = new RavenSupper();
        int[] first = {4, 0, 0, 0, 0, 0};
        int[] most = {6, 9, 15, 8, 8, 150};
        for (int what = 0; what < 6; what++) {
            check.due("at first count(" + what + ")", x.count(what), first[what]);
        }
        x.world(6);
        for (int a = 0; a < 6; a++) {
            for (int b = a + 1; b < 6; b++) {
                x.way(b, a, 9);
            }
        }
        for (int i = 0; i < 9; i++) {
            x.crow(3, 5, true);
        }
        for (int i = 0; i < 9; i++) {
            x.evening();
        }
        for (int i = 0; i < 151; i++) {
            x.type(127);
        }
        for (int what = 0; what < 6; what++) {
            check.due("at most count(" + what + ")", x.count(what), most[what]);
        }
        check.bad(x, "count(6)", () -> x.count(6), -2);
        check.bad(x, "count(-1)", () -> x.count(-1), -2);
        x.world(1);
        check.due("no pair of lands, no way", x.count(2), 0);
    }

    /** "h = 911; then h = 31 h + v for each v": it wraps around, as a long does. */
    private static void digestWrapsAround() {
        RavenSupper x = new RavenSupper();
        x.world(1);
        check.due("one land", x.digest(), digestOf(1, 0, 0, 0, 0, 0, 8, 2, 2, 12, 4, -1, 0, 0, 12, 4, -1, 0, 0));
        x.belief(0, 16);
        x.change(0, 16, 0);
        for (int caw = 0; caw < 8; caw++) {
            x.crow(3, 0, caw % 2 == 0);
        }
        x.bird(1, 40, 9);
        x.tell(1, 0, 5, true);
        x.tell(0, 0, 3, false);
        check.due("eight caws", x.digest(), digestOf(1, 0, 0, 8, 0, 0, 16, 16, 0, 12, 4, 0, 3, 0, 40, 9, 0, 5, 1,
            3, 0, 1, 3, 0, 0, 3, 0, 1, 3, 0, 0, 3, 0, 1, 3, 0, 0, 3, 0, 1, 3, 0, 0));
    }

    private static long digestOf(int... values) {
        BigInteger h = BigInteger.valueOf(911);
        for (int v : values) {
            h = h.multiply(BigInteger.valueOf(31)).add(BigInteger.valueOf(v));
        }
        return h.longValue();
    }
}
