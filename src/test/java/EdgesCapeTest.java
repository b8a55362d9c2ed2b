// The edges of promises 1 to 8 and 29: a new object, the text, its faults, the cape.
public final class EdgesCapeTest {
    private static final int BAD = Edges.BAD, FULL = Edges.FULL, STATE = Edges.STATE, NO = Edges.NO;
    private static final int LEAST = Edges.LEAST, GREATEST = Edges.GREATEST;

    private static final String NUMBERS = "a fifth place, a sixth SOUND, a fifth person, an N beyond what is left of 24 HOURS,"
        + " a PLACE that was not told, a NUMBER beyond what it may be, too";
    private static final String TOKENS = "of a byte that begins none, a word that is none of these, a NUMBER above 99 or with"
        + " a 0 ahead of others, that TOKEN's";
    private static final String TOO_EARLY = "the text's length, if it ends too early";
    private static final String FIRST_TOKEN = "the place of the first byte of the first TOKEN that can't stand there";
    private static final String WEATHER = "frost W N, warm W N (N HOURS more, 1 .. 24, of WARMTH 0 less W, W; W 0 .. 20)";
    private static final String SOUNDS = "cold W, sound W (a SOUND that MELTS at 0 less W, at W; W 0 .. 9)";
    private static final String BLANKS = "blanks (32), any number, ahead of, between, behind TOKENS"
        + " (needed only between two rows of letters, two NUMBERS)";
    private static final String FOUR_PLACES = "place 1;place 1;place 1;place 1;";
    private static final String FIVE_SOUNDS = "cold 1;sound 1;cold 1;sound 1;cold 1;";

    private static final Edges t = new Edges();

    public static void main(String[] args) {
        newObject();
        typeTakesBytes();
        typeIsFull();
        clear();
        blanks();
        items();
        limitsOfItems();
        numbersOfItems();
        tokens();
        endsTooEarly();
        longTexts();
        faultChangesNothing();
        readAnew();
        place();
        air();
        warmth();
        melts();
        person();
        count();
        t.end(1, 2, 3, 4, 5, 6, 7, 8, 29);
    }

    private static void newObject() {
        t.edge(1, "no PLACES, no SOUNDS, nobody", "no place", () -> {
            ThawWords x = new ThawWords();
            t.due("count(0)", x.count(0), 0);
            for (int what = 0; what < 4; what++) t.due("place(0, " + what + ")", x.place(0, what), NO);
            t.due("lantern(0)", x.lantern(0), BAD);
        });
        t.edge(1, "no PLACES, no SOUNDS, nobody", "no sound", () -> {
            ThawWords x = new ThawWords();
            t.due("count(2)", x.count(2), 0);
            t.due("melts(0)", x.melts(0), NO);
            t.due("hours(0, 0, 0)", x.hours(0, 0, 0), BAD);
            t.due("odds(0, 0, 0, 1, 0)", x.odds(0, 0, 0, 1, 0), NO);
        });
        t.edge(1, "no PLACES, no SOUNDS, nobody", "nobody", () -> {
            ThawWords x = new ThawWords();
            t.due("count(3)", x.count(3), 0);
            for (int what = 0; what < 3; what++) t.due("person(0, " + what + ")", x.person(0, what), BAD);
            t.due("says(0, 1, 1)", x.says(0, 1, 1), BAD);
            t.due("goes(0, 0)", x.goes(0, 0), BAD);
            t.due("heard(0, 0, 0)", x.heard(0, 0, 0), BAD);
            t.due("fits(0)", x.fits(0), BAD);
        });
        t.edge(1, "HOUR 0 at first, 99 at most.", "at first", () -> t.due("now(0)", new ThawWords().now(0), 0));
        t.edge(1, "`ThawWords()`: As told", "nothing was said yet", () -> {
            ThawWords x = new ThawWords();
            for (int what = 1; what < 4; what++) t.due("now(" + what + ")", x.now(what), 0);
            t.due("saying(0, 0)", x.saying(0, 0), BAD);
            t.due("whole(0)", x.whole(0), BAD);
            t.due("lanterns(-1, -1)", x.lanterns(-1, -1), 0);
        });
        t.edge(1, "STATE: none was kept", "no image yet", () -> {
            ThawWords x = new ThawWords();
            t.due("back(0)", x.back(0), STATE);
            t.due("back(1)", x.back(1), STATE);
        });
        t.edge(1, "THE TRACE, 0 at first", "at first", () -> t.due("trace()", new ThawWords().trace(), 0));
        t.edge(1, "(none told: 0)", "no hour was told yet", () -> {
            ThawWords x = new ThawWords();
            t.due("count(1)", x.count(1), 0);
            t.due("warmth(0)", x.warmth(0), 0);
            t.due("warmth(99)", x.warmth(99), 0);
        });
        t.edge(1, "`ThawWords()`: As told", "an empty text", () -> {
            ThawWords x = new ThawWords();
            t.due("count(4)", x.count(4), 0);
            t.due("clear()", x.clear(), 0);
            t.due("cape()", x.cape(), 0);
        });
        t.edge(1, "`ThawWords()`: As told", "another object was used ahead of it", () -> {
            ThawWords other = Check.capeOf("place 1;warm 3 3;sound 0;person 1 0;");
            other.says(0, 1, 1);
            other.rate(0, 0);
            other.keep(0);
            other.go(3);
            other.type('a', 1);
            t.alike("as new", Seen.all(new ThawWords()), "bytes 0; places 0; hours 0; sounds 0; people 0; trace 0; hour 0; "
                + "hanging 0; lanterns 0; people 0; sayings 0; back to an image -2; back to an image -2; reads the text 0; "
                + "bytes 0; places 0; hours 0; sounds 0; people 0; trace 0; ");
        });
        t.edge(1, "An object is used for at most 512 calls after it has been made", "the 512th call", () -> {
            ThawWords x = new ThawWords();
            String text = "place 0;sound 0;person 0 0;";
            int calls = Check.typeByEights(x, text) + 2;
            t.due("cape()", x.cape(), 3);
            t.due("says(0, 1, 1)", x.says(0, 1, 1), 0);
            long trace = 0;
            for (; calls < 511; calls++) {
                t.due("rate(5, 0), call " + (calls + 1), x.rate(5, 0), 1);
                trace += 100001;
            }
            t.due("trace()", x.trace(), trace);
        });
    }

    private static void typeTakesBytes() {
        String lowest = "The lowest n (1 .. 8) bytes of v, the highest of them first, come to THE TEXT";
        t.edge(2, lowest, "n too small: 0 and below", () -> {
            ThawWords x = new ThawWords();
            for (int n : new int[] {0, -1, -8, LEAST}) t.due("type(97, " + n + ")", x.type(97, n), BAD);
            t.due("count(4)", x.count(4), 0);
        });
        t.edge(2, lowest, "n too large: 9 and above", () -> {
            ThawWords x = new ThawWords();
            for (int n : new int[] {9, 10, 16, 64, 257, GREATEST}) t.due("type(97, " + n + ")", x.type(97, n), BAD);
            t.due("count(4)", x.count(4), 0);
        });
        t.edge(2, lowest, "each n that may be", () -> {
            ThawWords x = new ThawWords();
            int had = 0;
            for (int n = 1; n <= 8; n++) {
                had += n;
                t.due("type(.., " + n + ")", x.type(0x2020202020202020L, n), had);
            }
            t.due("cape() of blanks", x.cape(), 0);
        });
        t.edge(2, lowest, "n = 1: the bytes above the lowest are left", () -> {
            ThawWords x = new ThawWords();
            for (char sign : "place 6;".toCharArray()) x.type(0x7a7a7a7a7a7a7a00L | sign, 1);
            t.due("cape()", x.cape(), 1);
            t.due("place(0, 0)", x.place(0, 0), 6);
        });
        t.edge(2, lowest, "n = 8: all of them, the highest first", () -> {
            ThawWords x = new ThawWords();
            t.due("type(\"place 6;\", 8)", x.type(0x706c61636520363bL, 8), 8);
            t.due("cape()", x.cape(), 1);
            t.due("place(0, 0)", x.place(0, 0), 6);
        });
        t.edge(2, lowest, "n = 5: those above the lower half of v, too", () -> {
            ThawWords x = new ThawWords();
            t.due("type(\"..place\", 5)", x.type(0xffffff706c616365L, 5), 5);
            t.due("type(\"..4;\", 2)", x.type(0xffffffffffff343bL, 2), 7);
            t.due("cape()", x.cape(), 1);
            t.due("place(0, 0)", x.place(0, 0), 4);
        });
        t.edge(2, lowest, "v below 0: bytes of 255", () -> {
            ThawWords x = new ThawWords();
            t.due("type(-1, 8)", x.type(-1, 8), 8);
            t.due("cape()", x.cape(), -10);
            t.due("count(4)", x.count(4), 8);
        });
        t.edge(2, lowest, "a byte above 127 is no letter, figure or blank", () -> {
            for (int sign : new int[] {'p' + 128, '1' + 128, ' ' + 128, ';' + 128}) {
                ThawWords x = new ThawWords();
                x.type(sign, 1);
                x.type(0x6c61636520363bL, 7);
                t.due("cape() behind byte " + sign, x.cape(), -10);
            }
        });
    }

    // A text of so many blanks.
    private static ThawWords blank(int bytes) {
        ThawWords x = new ThawWords();
        typeBlanks(x, bytes);
        return x;
    }

    private static void typeBlanks(ThawWords x, int bytes) {
        for (int left = bytes; left > 0; left -= 8) x.type(0x2020202020202020L, Math.min(left, 8));
    }

    private static void typeIsFull() {
        String most = "They are a text (300 bytes at most)";
        t.edge(2, most, "just 300", () -> {
            t.due("type the 300th", blank(299).type(32, 1), 300);
            t.due("type the last eight", blank(292).type(0x2020202020202020L, 8), 300);
        });
        t.edge(2, most, "one more is FULL, and none comes", () -> {
            ThawWords x = blank(300);
            t.due("type the 301st", x.type('x', 1), FULL);
            t.due("count(4)", x.count(4), 300);
            t.due("cape()", x.cape(), 0);
        });
        t.edge(2, most, "eight of which seven fit: FULL, and none comes", () -> {
            ThawWords x = blank(293);
            t.due("type eight", x.type(0x7878787878787878L, 8), FULL);
            t.due("count(4)", x.count(4), 293);
            t.due("type seven", x.type(0x20202020202020L, 7), 300);
            t.due("cape()", x.cape(), 0);
        });
        t.edge(2, "Refused, and nothing changes, the first of these: BAD", "BAD is ahead of FULL", () -> {
            ThawWords x = blank(300);
            for (int n : new int[] {0, 9, -1, LEAST, GREATEST}) t.due("type(32, " + n + ")", x.type(32, n), BAD);
            t.due("count(4)", x.count(4), 300);
        });
    }

    private static void clear() {
        String had = "THE TEXT is empty: how many bytes it had.";
        t.edge(3, had, "it was empty", () -> {
            ThawWords x = new ThawWords();
            t.due("clear()", x.clear(), 0);
            x.type('a', 1);
            t.due("clear() of one", x.clear(), 1);
            t.due("clear() again", x.clear(), 0);
        });
        t.edge(3, had, "it was full", () -> {
            ThawWords x = blank(300);
            t.due("clear()", x.clear(), 300);
            t.due("count(4)", x.count(4), 0);
            typeBlanks(x, 299);
            t.due("300 fit again", x.type(32, 1), 300);
            t.due("and no more", x.type(32, 1), FULL);
        });
        t.edge(3, had, "nothing else is cleared", () -> {
            ThawWords x = Check.capeOf("place 4;warm 2 1;sound 3;person 1 0;");
            x.says(0, 1, 1);
            x.rate(0, 0);
            x.keep(1);
            x.type('x', 1);
            t.due("clear()", x.clear(), 1);
            t.due("count(0)", x.count(0), 1);
            t.due("now(2)", x.now(2), 1);
            t.due("trace()", x.trace(), 1);
            t.due("back(1)", x.back(1), 0);
        });
        t.edge(3, had, "a text with a fault", () -> {
            ThawWords x = new ThawWords();
            x.type('x', 1);
            t.due("cape()", x.cape(), -10);
            t.due("clear()", x.clear(), 1);
            t.due("cape() of nothing", x.cape(), 0);
        });
    }

    private static void reads(String text, int items) {
        ThawWords x = new ThawWords();
        Check.typeByEights(x, text);
        t.due("cape() of '" + text + "'", x.cape(), items);
    }

    private static void fault(String text, int at) {
        reads(text, -10 - at);
    }

    private static void blanks() {
        t.edge(4, BLANKS, "none", () -> {
            reads("place0;frost0 1;warm0 1;cold0;sound0;person0 0;", 6);
            ThawWords x = Check.capeOf("place7;warm12 3;");
            t.due("place(0, 0)", x.place(0, 0), 7);
            t.due("warmth(0)", x.warmth(0), 12);
            t.due("count(1)", x.count(1), 3);
        });
        t.edge(4, BLANKS, "several, ahead of, between, behind", () -> reads("   place   0   ;   warm   0    1  ;   ", 2));
        t.edge(4, BLANKS, "blanks alone", () -> {
            reads(" ", 0);
            reads("        ", 0);
        });
        t.edge(4, BLANKS, "needed between two numbers", () -> {
            fault("warm 512;", 5);
            fault("warm 51;", 5);
            fault("warm 11;", 7);
            fault("place 1;person 10;", 15);
            reads("place 1;person 1 0;", 2);
        });
        t.edge(4, BLANKS, "needed between two rows of letters", () -> {
            fault("placeplace 1;", 0);
            fault("place place 1;", 6);
        });
        t.edge(4, BLANKS, "none may be within a token", () -> {
            fault("pla ce 1;", 0);
            fault("warm 1 2 3;", 9);
            fault("place 1 0;", 8);
        });
        t.edge(4, BLANKS, "no other byte is one", () -> {
            for (char sign : new char[] {0, 9, 10, 11, 12, 13, 31, 33, 160, 255}) {
                fault(sign + "place 1;", 0);
                fault("place" + sign + "1;", 5);
                fault("place 1" + sign + ";", 7);
                fault("place 1;" + sign, 8);
            }
        });
    }

    private static void items() {
        t.edge(4, "ITEMS (none, too), each ended by ;", "none", () -> reads("", 0));
        t.edge(4, "ITEMS (none, too), each ended by ;", "one of each, in whichever order", () -> {
            reads("place 0;", 1);
            reads("frost 0 1;", 1);
            reads("warm 0 1;", 1);
            reads("cold 0;", 1);
            reads("sound 0;", 1);
            reads("sound 0;place 1;warm 1 1;person 1 0;frost 2 2;cold 1;place 3;person 1 1;", 8);
        });
        t.edge(4, "ITEMS (none, too), each ended by ;", "a ; too many", () -> {
            fault(";", 0);
            fault("  ;", 2);
            fault("place 1;;", 8);
            fault(";place 1;", 0);
        });
        t.edge(4, "ITEMS (none, too), each ended by ;", "a ; too few", () -> {
            fault("place 1 place 1;", 8);
            fault("warm 1 1 warm 1 1;", 9);
            fault("cold 1 cold 1;", 7);
            fault("place 1;person 1 0 person 1 0;", 19);
        });
        t.edge(4, "`int cape()`: THE TEXT tells all, and is empty then: how many ITEMS.", "as many as there can be", () -> {
            ThawWords x = Check.capeOf(most());
            t.due("places", x.count(0), 4);
            t.due("hours", x.count(1), 24);
            t.due("sounds", x.count(2), 5);
            t.due("people", x.count(3), 4);
            t.due("bytes", x.count(4), 0);
            reads(most(), 37);
        });
        t.edge(4, FIRST_TOKEN, "of several that can't, the first one", () -> {
            fault("place 99;place 99;;", 6);
            fault("place 1;warm 99 99;place 99;", 13);
            fault("x 1;place 99;", 0);
        });
        t.edge(4, FIRST_TOKEN, "a word, a number or ; where another token is due", () -> {
            fault("1;", 0);
            fault("place ;", 6);
            fault("place place;", 6);
            fault("place 1 2;", 8);
            fault("place 1 warm;", 8);
            fault("warm 1;", 6);
            fault("warm 1 warm;", 7);
            fault("frost ;", 6);
            fault("cold;", 4);
            fault("sound sound;", 6);
            fault("place 1;person;", 14);
            fault("place 1;person 1;", 16);
            fault("place 1;person 1 person;", 17);
        });
    }

    // All that a cape can hold, in as many items as can be.
    private static String most() {
        return "place1;".repeat(4) + "warm1 1;".repeat(24) + "cold1;".repeat(5) + "person1 0;".repeat(4);
    }

    private static void limitsOfItems() {
        t.edge(4, NUMBERS, "a fourth place", () -> reads(FOUR_PLACES, 4));
        t.edge(4, NUMBERS, "a fifth place", () -> {
            fault(FOUR_PLACES + "place 1;", 32);
            fault(FOUR_PLACES + "  place", 34);
            fault(FOUR_PLACES + "place 99;", 32);
        });
        t.edge(4, NUMBERS, "a fifth SOUND", () -> {
            reads(FIVE_SOUNDS, 5);
            reads("cold 1;".repeat(5), 5);
            reads("sound 1;".repeat(5), 5);
        });
        t.edge(4, NUMBERS, "a sixth SOUND", () -> {
            fault(FIVE_SOUNDS + "cold 1;", 37);
            fault(FIVE_SOUNDS + "sound 1;", 37);
            fault("cold 1;".repeat(6), 35);
            fault("sound 1;".repeat(6), 40);
            fault(FIVE_SOUNDS + " sound 99;", 38);
        });
        t.edge(4, NUMBERS, "a fourth person", () -> reads("place 1;" + "person 1 0;".repeat(4), 5));
        t.edge(4, NUMBERS, "a fifth person", () -> {
            fault("place 1;" + "person 1 0;".repeat(5), 52);
            fault("place 1;" + "person 1 0;".repeat(4) + " person 99 9;", 53);
        });
        t.edge(4, NUMBERS, "N that takes all that is left", () -> {
            reads("warm 1 24;", 1);
            reads("frost 1 24;", 1);
            reads("warm 1 23;frost 1 1;", 2);
            reads("frost 1 1;warm 1 23;", 2);
            reads("warm 1 8;frost 1 8;warm 1 8;", 3);
        });
        t.edge(4, NUMBERS, "N one beyond what is left", () -> {
            fault("warm 1 25;", 7);
            fault("frost 1 25;", 8);
            fault("warm 1 23;frost 1 2;", 18);
            fault("frost 1 1;warm 1 24;", 17);
            fault("warm 1 8;frost 1 8;warm 1 9;", 26);
        });
        t.edge(4, NUMBERS, "N when nothing is left", () -> {
            fault("warm 1 24;warm 1 1;", 17);
            fault("warm 1 24;frost 1 1;", 18);
            fault("frost 1 24;warm 1 0;", 18);
        });
        t.edge(4, NUMBERS, "a PLACE that was not told", () -> {
            fault("person 1 0;", 9);
            fault("place 1;person 1 1;", 17);
            fault(FOUR_PLACES + "person 1 4;", 41);
            fault("place 1;person 1 99;", 17);
        });
        t.edge(4, NUMBERS, "a PLACE that was just told", () -> {
            reads("place 1;person 1 0;", 2);
            reads(FOUR_PLACES + "person 1 3;", 5);
            t.due("person(0, 1)", Check.capeOf(FOUR_PLACES + "person 1 3;").person(0, 1), 3);
        });
        t.edge(4, NUMBERS, "a PLACE that is told only later", () -> {
            fault("person 1 0;place 1;", 9);
            fault("place 1;person 1 1;place 1;", 17);
        });
    }

    private static void numbersOfItems() {
        String places = "(4 at most) are each so much COLDER (0 .. 9)";
        t.edge(4, places, "C from 0 to 9", () -> {
            for (int much = 0; much < 10; much++) {
                t.due("COLDER", Check.capeOf("place " + much + ";").place(0, 0), much);
            }
        });
        t.edge(4, places, "C too large: 10 and above", () -> {
            fault("place 10;", 6);
            fault("place 99;", 6);
        });
        t.edge(4, WEATHER, "W 0 and 20", () -> {
            ThawWords x = Check.capeOf("frost 20 1;warm 20 1;frost 0 1;warm 0 1;");
            int[] told = {-20, 20, 0, 0};
            for (int hour = 0; hour < 4; hour++) t.due("warmth(" + hour + ")", x.warmth(hour), told[hour]);
        });
        t.edge(4, WEATHER, "W too large: 21 and above", () -> {
            fault("frost 21 1;", 6);
            fault("warm 21 1;", 5);
            fault("frost 99 1;", 6);
            fault("warm 99 1;", 5);
        });
        t.edge(4, WEATHER, "N too small: 0", () -> {
            fault("frost 1 0;", 8);
            fault("warm 1 0;", 7);
        });
        t.edge(4, WEATHER, "N 1 and 24", () -> {
            t.due("count(1)", Check.capeOf("frost 1 1;").count(1), 1);
            t.due("count(1)", Check.capeOf("warm 1 24;").count(1), 24);
        });
        t.edge(4, WEATHER, "N too large: 25 and above", () -> {
            fault("frost 1 25;", 8);
            fault("warm 1 25;", 7);
            fault("frost 1 99;", 8);
        });
        t.edge(4, SOUNDS, "W 0 and 9", () -> {
            ThawWords x = Check.capeOf("cold 9;sound 9;cold 0;sound 0;");
            int[] told = {-9, 9, 0, 0};
            for (int sound = 0; sound < 4; sound++) t.due("melts(" + sound + ")", x.melts(sound), told[sound]);
        });
        t.edge(4, SOUNDS, "W too large: 10 and above", () -> {
            fault("cold 10;", 5);
            fault("sound 10;", 6);
            fault("cold 99;", 5);
            fault("sound 20;", 6);
        });
        String people = "PEOPLE 0 .. (4 at most) have a PITCH (0 .. 9) and stand at a PLACE.";
        t.edge(4, people, "T 0 and 9", () -> {
            ThawWords x = Check.capeOf("place 1;person 0 0;person 9 0;");
            t.due("person(0, 0)", x.person(0, 0), 0);
            t.due("person(1, 0)", x.person(1, 0), 9);
        });
        t.edge(4, people, "T too large: 10 and above", () -> {
            fault("place 1;person 10 0;", 15);
            fault("place 1;person 99 0;", 15);
            fault("person 10 0;", 7);
        });
    }

    private static void tokens() {
        t.edge(4, TOKENS, "a NUMBER of 99 stands or falls by what it may be", () -> fault("place 1;person 99 0;", 15));
        t.edge(4, TOKENS, "a NUMBER above 99", () -> {
            fault("place 100;", 6);
            fault("place 999;", 6);
            fault("warm 1 100;", 7);
            fault("place 1;person 1 100;", 17);
        });
        t.edge(4, TOKENS, "a NUMBER that would wrap around", () -> {
            fault("place 256;", 6);
            fault("place 65537;", 6);
            fault("place 2147483648;", 6);
            fault("place 4294967297;", 6);
            fault("warm 1 4294967297;", 7);
            fault("place 18446744073709551617;", 6);
            fault("place 340282366920938463463374607431768211457;", 6);
        });
        t.edge(4, TOKENS, "a 0 alone", () -> reads("place 0;", 1));
        t.edge(4, TOKENS, "a 0 ahead of others", () -> {
            fault("place 00;", 6);
            fault("place 01;", 6);
            fault("place 001;", 6);
            fault("warm 020 1;", 5);
            fault("warm 1 01;", 7);
            fault("warm 1 024;", 7);
            fault("place 1;person 1 00;", 17);
        });
        t.edge(4, TOKENS, "a NUMBER that is none where no number is due: the same place", () -> {
            fault("00;", 0);
            fault("100;", 0);
            fault("place 1 00;", 8);
        });
        t.edge(4, TOKENS, "a byte that begins none", () -> {
            for (char sign : new char[] {0, 1, 31, 33, '-', '+', '/', ':', '<', '@', 'A', 'Z', '`', '{', 127, 128, 160, 255}) {
                fault("" + sign, 0);
                fault("place 1; " + sign, 9);
                fault("place 1" + sign + ";", 7);
                fault("place " + sign + "1;", 6);
                fault("place" + sign + " 1;", 5);
            }
        });
        t.edge(4, TOKENS, "a word that is none of these", () -> {
            for (String word : new String[] {"p", "plac", "places", "frosts", "fros", "war", "warmer", "col", "colder", "soun",
                "sounds", "perso", "persons", "a", "z", "xplace", "thaw"}) {
                fault(word + " 1;", 0);
                fault("place 1; " + word + " 1;", 9);
            }
        });
        t.edge(4, TOKENS, "a word with one other letter", () -> {
            for (String word : new String[] {"place", "frost", "warm", "cold", "sound", "person"}) {
                for (int i = 0; i < word.length(); i++) {
                    fault(word.substring(0, i) + "q" + word.substring(i + 1) + " 1;", 0);
                }
            }
        });
        t.edge(4, TOKENS, "a word in capitals", () -> {
            fault("Place 1;", 0);
            fault("PLACE 1;", 0);
            fault("plaCe 1;", 0);
        });
    }

    private static void endsTooEarly() {
        String[] texts = {"place 1;", "frost 2 3;", "warm 2 3;", "cold 4;", "sound 4;", "place 1;person 5 0;"};
        t.edge(4, TOO_EARLY, "behind each token but the last", () -> {
            for (String text : texts) {
                for (int end = 1; end < text.length(); end++) {
                    boolean behindToken = " ;".indexOf(text.charAt(end)) >= 0 && " ;".indexOf(text.charAt(end - 1)) < 0;
                    if (behindToken) fault(text.substring(0, end), end);
                }
            }
        });
        t.edge(4, TOO_EARLY, "blanks at its end count", () -> {
            fault("place ", 6);
            fault("place 1   ", 10);
            fault("warm 1 ", 7);
            fault("warm 1 2  ", 10);
        });
        t.edge(4, TOO_EARLY, "a word that isn't ended is none of these: that word's", () -> {
            fault("plac", 0);
            fault("place 1;fros", 8);
        });
        t.edge(4, TOO_EARLY, "no item is open: it doesn't", () -> reads("place 1;  ", 1));
    }

    private static void longTexts() {
        String most = "They are a text (300 bytes at most)";
        t.edge(4, most, "an item that ends with byte 300", () -> {
            ThawWords x = blank(292);
            Check.type(x, "place 7;");
            t.due("count(4)", x.count(4), 300);
            t.due("cape()", x.cape(), 1);
            t.due("place(0, 0)", x.place(0, 0), 7);
        });
        t.edge(4, most, "an item that doesn't end by byte 300", () -> {
            ThawWords x = blank(293);
            Check.type(x, "place 7");
            t.due("cape()", x.cape(), -310);
            ThawWords y = blank(295);
            Check.type(y, "place");
            t.due("cape() behind a word", y.cape(), -310);
        });
        t.edge(4, most, "a fault at byte 300", () -> {
            ThawWords x = blank(299);
            x.type(';', 1);
            t.due("cape()", x.cape(), -309);
        });
        t.edge(4, most, "a row of 300 letters, of 300 figures", () -> {
            ThawWords x = new ThawWords();
            for (int i = 0; i < 300; i++) x.type('a' + i % 26, 1);
            t.due("cape() of letters", x.cape(), -10);
            ThawWords y = new ThawWords();
            Check.type(y, "place ");
            for (int i = 6; i < 300; i++) y.type('1', 1);
            t.due("cape() of figures", y.cape(), -16);
        });
        t.edge(4, most, "300 times ;", () -> {
            ThawWords x = new ThawWords();
            for (int i = 0; i < 300; i++) x.type(';', 1);
            t.due("cape()", x.cape(), -10);
        });
    }

    private static ThawWords used() {
        ThawWords x = Check.capeOf("place 3;place 0;warm 7 2;sound 4;sound 9;person 6 0;person 5 1;");
        x.says(0, 5, 12);
        x.says(1, 2, 21);
        x.rate(4, 0);
        x.keep(1);
        x.goes(1, 0);
        x.lantern(0);
        return x;
    }

    private static void faultChangesNothing() {
        String fault = "-10 less FAULT: nothing changes (THE TEXT stays, too).";
        t.edge(4, fault, "a fault behind items that stand", () -> {
            String text = "place 9;place 8;place 7;frost 20 24;cold 1;person 1 2;x";
            ThawWords x = used();
            ThawWords y = used();
            Check.typeByEights(x, text);
            Check.typeByEights(y, text);
            t.due("cape()", x.cape(), -64);
            t.due("cape(), asked again", x.cape(), -64);
            t.alike("all that is seen", Seen.all(x), Seen.all(y));
        });
        t.edge(4, fault, "the text that stays may be ended", () -> {
            ThawWords x = new ThawWords();
            Check.type(x, "place 4");
            t.due("cape()", x.cape(), -17);
            t.due("type(\";\", 1)", x.type(';', 1), 8);
            t.due("cape() again", x.cape(), 1);
            t.due("place(0, 0)", x.place(0, 0), 4);
        });
        t.edge(4, fault, "FAULT 0", () -> fault("x", 0));
        t.edge(4, fault, "an image is kept on", () -> {
            ThawWords x = used();
            x.type(';', 1);
            t.due("cape()", x.cape(), -10);
            t.due("back(1)", x.back(1), 0);
            t.due("now(3)", x.now(3), 0);
        });
    }

    private static void readAnew() {
        String anew = "(Read anew: NOW is as at first, IMAGES are gone; THE TRACE goes on, as behind back().)";
        t.edge(4, anew, "NOW", () -> {
            ThawWords x = used();
            x.go(5);
            x.goes(0, 1);
            x.lantern(1);
            Check.type(x, "place 2;place 1;cold 9;person 3 1;");
            t.due("cape()", x.cape(), 4);
            for (int what = 0; what < 4; what++) t.due("now(" + what + ")", x.now(what), 0);
            t.due("saying(0, 0)", x.saying(0, 0), BAD);
            t.due("person(0, 1)", x.person(0, 1), 1);
            t.due("person(0, 2)", x.person(0, 2), 0);
            t.due("place(1, 1)", x.place(1, 1), -1);
            t.due("place(1, 3)", x.place(1, 3), 0);
        });
        t.edge(4, anew, "images", () -> {
            ThawWords x = used();
            x.keep(0);
            t.due("cape() of nothing", x.cape(), 0);
            t.due("back(0)", x.back(0), STATE);
            t.due("back(1)", x.back(1), STATE);
        });
        t.edge(4, anew, "the trace", () -> {
            ThawWords x = used();
            t.due("cape() of nothing", x.cape(), 0);
            t.due("trace()", x.trace(), 10101);
        });
        t.edge(4, "THE TEXT tells all, and is empty then", "nothing told ahead stays", () -> {
            ThawWords x = used();
            Check.type(x, "sound 2;");
            t.due("cape()", x.cape(), 1);
            t.due("places", x.count(0), 0);
            t.due("hours", x.count(1), 0);
            t.due("warmth(0)", x.warmth(0), 0);
            t.due("sounds", x.count(2), 1);
            t.due("people", x.count(3), 0);
            t.due("person(0, 0)", x.person(0, 0), BAD);
            t.due("bytes", x.count(4), 0);
        });
        t.edge(4, "THE TEXT tells all, and is empty then", "an empty text tells that there is nothing", () -> {
            ThawWords x = used();
            t.due("cape()", x.cape(), 0);
            t.alike("as new", Seen.all(x).replace("trace 10101;", "trace 0;"), Seen.all(new ThawWords()));
        });
    }

    private static void place() {
        String place = "Of a PLACE: 0 COLDER, 1 AIR NOW, 2 how many SOUNDS HANG there, 3 whether a LANTERN is held. NO: BAD.";
        t.edge(5, place, "what too small", () -> {
            for (int what : new int[] {-1, LEAST}) t.due("place(0, " + what + ")", used().place(0, what), NO);
        });
        t.edge(5, place, "what too large", () -> {
            for (int what : new int[] {4, 5, GREATEST}) t.due("place(0, " + what + ")", used().place(0, what), NO);
        });
        t.edge(5, place, "a place below 0", () -> {
            for (int p : new int[] {-1, LEAST}) {
                for (int what = 0; what < 4; what++) t.due("place(" + p + ", " + what + ")", used().place(p, what), NO);
            }
        });
        t.edge(5, place, "the first place that was not told", () -> {
            for (int what = 0; what < 4; what++) t.due("place(2, " + what + ")", used().place(2, what), NO);
            ThawWords most = Check.capeOf(most());
            t.due("place(3, 0)", most.place(3, 0), 1);
            for (int p : new int[] {4, 5, GREATEST}) t.due("place(" + p + ", 0)", most.place(p, 0), NO);
        });
        t.edge(5, place, "a number of the cape that was told ahead", () -> {
            ThawWords x = used();
            Check.type(x, "place 1;");
            x.cape();
            t.due("place(1, 0)", x.place(1, 0), NO);
        });
        t.edge(5, place, "none hangs; all hang", () -> {
            ThawWords x = Check.capeOf("place 0;place 0;sound 1;person 0 0;");
            t.due("place(0, 2)", x.place(0, 2), 0);
            for (int k = 0; k < 8; k++) x.says(0, 1, 1111);
            t.due("place(0, 2) of eight", x.place(0, 2), 32);
            t.due("place(1, 2)", x.place(1, 2), 0);
        });
        t.edge(5, place, "a lantern is held at one of them", () -> {
            ThawWords x = used();
            t.due("place(0, 3)", x.place(0, 3), 1);
            t.due("place(1, 3)", x.place(1, 3), 0);
        });
    }

    private static void air() {
        String air = "AIR at a PLACE in an HOUR: WARMTH less COLDER; where a LANTERN is held in this HOUR, 5 more in it.";
        t.edge(5, air, "the lowest", () -> t.due("place(0, 1)", Check.capeOf("place 9;frost 20 1;").place(0, 1), -29));
        t.edge(5, air, "the highest", () -> {
            ThawWords x = Check.capeOf("place 0;warm 20 1;");
            t.due("place(0, 1)", x.place(0, 1), 20);
            x.lantern(0);
            t.due("place(0, 1) by a lantern", x.place(0, 1), 25);
        });
        t.edge(5, air, "a lantern, here, not elsewhere", () -> {
            ThawWords x = Check.capeOf("place 1;place 2;place 3;");
            x.lantern(1);
            t.due("place(0, 1)", x.place(0, 1), -1);
            t.due("place(1, 1)", x.place(1, 1), 3);
            t.due("place(2, 1)", x.place(2, 1), -3);
        });
        t.edge(5, air, "a lantern of the hour ahead", () -> {
            ThawWords x = Check.capeOf("place 1;warm 4 1;warm 8 1;");
            x.lantern(0);
            x.go(1);
            t.due("place(0, 1)", x.place(0, 1), 7);
        });
        t.edge(5, air, "in HOUR 99", () -> {
            ThawWords x = Check.capeOf("place 1;warm 4 1;warm 8 1;");
            x.go(99);
            t.due("place(0, 1)", x.place(0, 1), 7);
            x.lantern(0);
            t.due("place(0, 1) by a lantern", x.place(0, 1), 12);
        });
    }

    private static void warmth() {
        String warmth = "WARMTH of an HOUR (0 .. 99). NO: BAD.";
        String last = "behind them that of the last one (none told: 0)";
        t.edge(6, warmth, "too small", () -> {
            for (int hour : new int[] {-1, LEAST}) t.due("warmth(" + hour + ")", used().warmth(hour), NO);
        });
        t.edge(6, warmth, "too large", () -> {
            for (int hour : new int[] {100, 101, GREATEST}) t.due("warmth(" + hour + ")", used().warmth(hour), NO);
        });
        t.edge(6, warmth, "0 and 99", () -> {
            ThawWords x = Check.capeOf("frost 1 1;warm 2 1;");
            t.due("warmth(0)", x.warmth(0), -1);
            t.due("warmth(99)", x.warmth(99), 2);
        });
        t.edge(6, last, "none told", () -> {
            ThawWords x = Check.capeOf("place 1;");
            t.due("warmth(0)", x.warmth(0), 0);
            t.due("warmth(99)", x.warmth(99), 0);
        });
        t.edge(6, last, "the last one told and the first one behind", () -> {
            ThawWords x = Check.capeOf("warm 3 2;frost 4 1;");
            int[] told = {3, 3, -4, -4, -4};
            for (int hour = 0; hour < 5; hour++) t.due("warmth(" + hour + ")", x.warmth(hour), told[hour]);
        });
        t.edge(6, "THE WEATHER: HOURS 0 .. (24 at most) of WARMTH (-20 .. 20)", "all 24", () -> {
            ThawWords x = Check.capeOf("frost 20 1;warm 1 22;warm 20 1;");
            t.due("warmth(0)", x.warmth(0), -20);
            t.due("warmth(1)", x.warmth(1), 1);
            t.due("warmth(22)", x.warmth(22), 1);
            t.due("warmth(23)", x.warmth(23), 20);
            t.due("warmth(24)", x.warmth(24), 20);
        });
        t.edge(6, warmth, "it is told whichever HOUR is NOW", () -> {
            ThawWords x = Check.capeOf("frost 1 1;warm 2 1;");
            x.go(9);
            t.due("warmth(0)", x.warmth(0), -1);
        });
    }

    private static void melts() {
        String melts = "MELT of a SOUND. NO: BAD.";
        t.edge(7, melts, "below 0", () -> {
            for (int sound : new int[] {-1, LEAST}) t.due("melts(" + sound + ")", used().melts(sound), NO);
        });
        t.edge(7, melts, "the first one that was not told", () -> {
            t.due("melts(2)", used().melts(2), NO);
            ThawWords most = Check.capeOf(most());
            t.due("melts(4)", most.melts(4), -1);
            for (int sound : new int[] {5, 6, GREATEST}) t.due("melts(" + sound + ")", most.melts(sound), NO);
        });
        t.edge(7, "SOUNDS 0 .. (5 at most) MELT at a WARMTH (-9 .. 9).", "lowest and highest", () -> {
            ThawWords x = Check.capeOf("cold 9;sound 9;");
            t.due("melts(0)", x.melts(0), -9);
            t.due("melts(1)", x.melts(1), 9);
        });
        t.edge(7, melts, "a number of the cape that was told ahead", () -> {
            ThawWords x = used();
            Check.type(x, "sound 1;");
            x.cape();
            t.due("melts(1)", x.melts(1), NO);
        });
    }

    private static void person() {
        String person = "Of one: 0 PITCH, 1 its PLACE NOW, 2 how many SOUNDS it HEARD. BAD.";
        t.edge(8, person, "what too small", () -> {
            for (int what : new int[] {-1, LEAST}) t.due("person(0, " + what + ")", used().person(0, what), BAD);
        });
        t.edge(8, person, "what too large", () -> {
            for (int what : new int[] {3, 4, GREATEST}) t.due("person(0, " + what + ")", used().person(0, what), BAD);
        });
        t.edge(8, person, "one below 0", () -> {
            for (int p : new int[] {-1, LEAST}) {
                for (int what = 0; what < 3; what++) t.due("person(" + p + ", " + what + ")", used().person(p, what), BAD);
            }
        });
        t.edge(8, person, "the first one that was not told", () -> {
            for (int what = 0; what < 3; what++) t.due("person(2, " + what + ")", used().person(2, what), BAD);
            ThawWords most = Check.capeOf(most());
            t.due("person(3, 0)", most.person(3, 0), 1);
            for (int p : new int[] {4, 5, GREATEST}) t.due("person(" + p + ", 0)", most.person(p, 0), BAD);
        });
        t.edge(8, person, "nothing heard; all that can be", () -> {
            ThawWords x = Check.capeOf("place 0;sound 0;person 0 0;");
            t.due("person(0, 2)", x.person(0, 2), 0);
            for (int k = 0; k < 8; k++) x.says(0, 1, 1111);
            t.due("person(0, 2) of eight", x.person(0, 2), 32);
        });
        t.edge(8, person, "it went to another place", () -> {
            ThawWords x = used();
            t.due("person(1, 1)", x.person(1, 1), 0);
            x.goes(1, 1);
            t.due("person(1, 1)", x.person(1, 1), 1);
        });
    }

    private static void count() {
        String count = "0 PLACES, 1 HOURS told, 2 SOUNDS, 3 PEOPLE, 4 bytes of THE TEXT. BAD.";
        t.edge(29, count, "what too small", () -> {
            for (int what : new int[] {-1, LEAST}) t.due("count(" + what + ")", used().count(what), BAD);
        });
        t.edge(29, count, "what too large", () -> {
            for (int what : new int[] {5, 6, GREATEST}) t.due("count(" + what + ")", used().count(what), BAD);
        });
        t.edge(29, count, "empty", () -> {
            ThawWords x = new ThawWords();
            for (int what = 0; what < 5; what++) t.due("count(" + what + ")", x.count(what), 0);
        });
        t.edge(29, count, "as many as can be", () -> {
            ThawWords x = Check.capeOf(most());
            typeBlanks(x, 300);
            int[] told = {4, 24, 5, 4, 300};
            for (int what = 0; what < 5; what++) t.due("count(" + what + ")", x.count(what), told[what]);
        });
        t.edge(29, count, "HOURS told, not items of weather", () -> {
            t.due("count(1)", Check.capeOf("warm 1 5;frost 1 6;").count(1), 11);
        });
        t.edge(29, count, "HOURS told stay as HOURS go by", () -> {
            ThawWords x = Check.capeOf("warm 1 5;");
            x.go(50);
            t.due("count(1)", x.count(1), 5);
        });
    }
}
