// Promises 1 to 8 and 29: a new object, the text, what it tells of the cape.
public final class CapeTest {
    private static final Check c = new Check();

    public static void main(String[] args) {
        constants();
        newObject();
        typing();
        clearing();
        readings();
        faults();
        faultsChangeNothing();
        readAnew();
        places();
        weather();
        sounds();
        people();
        counts();
        c.end();
    }

    private static void constants() {
        c.due("BAD", ThawWords.BAD, -1);
        c.due("STATE", ThawWords.STATE, -2);
        c.due("FULL", ThawWords.FULL, -3);
        c.due("NONE", ThawWords.NONE, -9);
        c.due("NO", ThawWords.NO, -1000000);
    }

    private static void newObject() {
        ThawWords x = new ThawWords();
        for (int what = 0; what < 5; what++) c.due("new: count(" + what + ")", x.count(what), 0);
        for (int what = 0; what < 4; what++) c.due("new: now(" + what + ")", x.now(what), 0);
        for (int what = 0; what < 4; what++) c.due("new: place(0, " + what + ")", x.place(0, what), -1000000);
        for (int what = 0; what < 3; what++) c.due("new: person(0, " + what + ")", x.person(0, what), -1);
        c.due("new: melts(0)", x.melts(0), -1000000);
        c.due("new: warmth(0)", x.warmth(0), 0);
        c.due("new: warmth(99)", x.warmth(99), 0);
        c.due("new: says", x.says(0, 1, 1), -1);
        c.due("new: goes", x.goes(0, 0), -1);
        c.due("new: lantern", x.lantern(0), -1);
        c.due("new: saying", x.saying(0, 0), -1);
        c.due("new: heard", x.heard(0, 0, 0), -1);
        c.due("new: fits", x.fits(0), -1);
        c.due("new: lanterns", x.lanterns(255, 255), 0);
        c.due("new: back(0)", x.back(0), -2);
        c.due("new: back(1)", x.back(1), -2);
        c.due("new: trace", x.trace(), 0);
        c.due("new: anew", x.anew(), 0);
    }

    private static void typing() {
        ThawWords x = new ThawWords();
        c.due("type(0, 0)", x.type(0, 0), -1);
        c.due("type(0, 9)", x.type(0, 9), -1);
        c.due("type(0, -1)", x.type(0, -1), -1);
        c.due("type, least int", x.type(0, Integer.MIN_VALUE), -1);
        c.due("type, greatest int", x.type(0, Integer.MAX_VALUE), -1);
        c.due("nothing came", x.count(4), 0);
        // "place 7;": the highest of the lowest bytes first, those above are left.
        c.due("type pla", x.type(0x7a7a7a7a7a706c61L, 3), 3);
        c.due("type ce", x.type(-1L << 16 | 0x6365, 2), 5);
        c.due("type blank, 7, mark", x.type(0x20373bL, 3), 8);
        c.due("cape", x.cape(), 1);
        c.due("place(0, 0)", x.place(0, 0), 7);

        ThawWords full = new ThawWords();
        for (int i = 1; i <= 37; i++) full.type(0x2020202020202020L, 8);
        c.due("296 bytes", full.count(4), 296);
        c.due("five more", full.type(0, 5), -3);
        c.due("nine is BAD ahead of FULL", full.type(0, 9), -1);
        c.due("nothing came", full.count(4), 296);
        c.due("four more", full.type(0x20202020L, 4), 300);
        c.due("one more", full.type(32, 1), -3);
        c.due("a text of blanks", full.cape(), 0);
        c.due("it is empty", full.count(4), 0);
    }

    private static void clearing() {
        ThawWords x = new ThawWords();
        c.due("clear nothing", x.clear(), 0);
        Check.type(x, "place");
        c.due("clear five", x.clear(), 5);
        c.due("it is empty", x.count(4), 0);
        Check.type(x, "place 1;");
        c.due("the old bytes are gone", x.cape(), 1);
    }

    private static void reads(String text, int items) {
        ThawWords x = new ThawWords();
        Check.typeByEights(x, text);
        c.due("cape of '" + text + "'", x.cape(), items);
    }

    private static void readings() {
        reads("", 0);
        reads("   ", 0);
        reads("place 0;", 1);
        reads("place0;", 1);
        reads("  place   9  ;   ", 1);
        reads("place 1;place 1;place 1;place 1;", 4);
        reads("warm 20 24;", 1);
        reads("frost 20 23;warm 0 1;", 2);
        reads("frost0 1;", 1);
        reads("cold0;sound0;cold9;sound9;cold 1;", 5);
        reads("place 0;person9 0;person 0 0;person 1 0;person 1 0;", 5);
        reads("place 0;place 0;person 3 1;", 3);
        reads("place 3;person 1 0;place 2;person 1 1;", 4);
        reads("warm 5 12;cold 2;place 0;frost 10 12;", 4);
    }

    private static void fault(String text, int at) {
        reads(text, -10 - at);
    }

    private static void faults() {
        fault("place", 5);
        fault("place  ", 7);
        fault("place 1", 7);
        fault("place 1   ", 10);
        fault("plac", 0);
        fault("places 1;", 0);
        fault("placeplace 1;", 0);
        fault("  colder 1;", 2);
        fault("Place 1;", 0);
        fault("plAce 1;", 0);
        fault("p", 0);
        fault(";", 0);
        fault("1;", 0);
        fault("place 1;;", 8);
        fault("place 1; 5", 9);
        fault("place 1; place 1 place 1;", 17);
        fault("place ;", 6);
        fault("place x;", 6);
        fault("place place;", 6);
        fault("place 10;", 6);
        fault("place 100;", 6);
        fault("place 00;", 6);
        fault("place 01;", 6);
        fault("place -1;", 6);
        fault("place +1;", 6);
        fault("place 1 1;", 8);
        fault("place 1 01;", 8);
        fault("place 1\t;", 7);
        fault("place\n1;", 5);
        fault("place 1;#", 8);
        fault("place 1;\u00e9", 8);
        fault("place 1;\0", 8);
        fault("place 99999999999999999999;", 6);
        fault("place 4294967297;", 6);
        fault("place 1;place 1;place 1;place 1;place x;", 32);
        fault("place 1;place 1;place 1;place 1;x;", 32);
        fault("frost", 5);
        fault("frost 5", 7);
        fault("frost 21 1;", 6);
        fault("frost 100 1;", 6);
        fault("frost 05 1;", 6);
        fault("frost 5 0;", 8);
        fault("frost 5 25;", 8);
        fault("frost 5 024;", 8);
        fault("frost 5;", 7);
        fault("frost 5 5 5;", 10);
        fault("warm 21 1;", 5);
        fault("warm 5 24;warm 5 1;", 17);
        fault("warm 5 24;warm 21 1;", 15);
        fault("warm 5 20;frost 5 5;", 18);
        fault("warm 5 24;frost 5;", 17);
        fault("cold 10;", 5);
        fault("cold ;", 5);
        fault("sound 10;", 6);
        fault("sound 1", 7);
        fault("cold 1;cold 1;cold 1;cold 1;sound 1; sound x;", 37);
        fault("cold 1;cold 1;cold 1;cold 1;sound 1;cold 1;", 36);
        fault("person 1 0;", 9);
        fault("person 10 0;", 7);
        fault("person 10 0;place 1;", 7);
        fault("place 1;person 1 1;place 1;", 17);
        fault("place 1;person 1 01;", 17);
        fault("place 1;person 1;", 16);
        fault("place 1;person 1", 16);
        fault("place 1;person 1 0 0;", 19);
        fault("place 1;person;", 14);
        fault("place 1;person 1 0;person 1 0;person 1 0;person 1 0;person 1 0;", 52);
        fault("place 1;  warm;", 14);
    }

    private static void faultsChangeNothing() {
        ThawWords x = Check.capeOf("place 3;warm 7 2;sound 4;cold 5;person 6 0;");
        x.says(0, 5, 12);
        x.rate(0, 0);
        x.keep(1);
        x.go(3);
        Check.type(x, "place 9;place 8;frost 20 24;cold 1;person 1 1;person 2 0;person 3 5;");
        c.due("a fault", x.cape(), -10 - 66);
        c.due("the text stays", x.count(4), 68);
        c.due("the fault, again", x.cape(), -10 - 66);
        c.due("places", x.count(0), 1);
        c.due("hours", x.count(1), 2);
        c.due("sounds", x.count(2), 2);
        c.due("people", x.count(3), 1);
        c.due("colder", x.place(0, 0), 3);
        c.due("warmth", x.warmth(0), 7);
        c.due("melt", x.melts(0), 4);
        c.due("pitch", x.person(0, 0), 6);
        c.due("hour", x.now(0), 3);
        c.due("sayings", x.now(2), 1);
        c.due("heard", x.person(0, 2), 2);
        c.due("trace", x.trace(), 1);
        c.due("the image is there", x.back(1), 0);
        c.due("cleared", x.clear(), 68);
    }

    private static void readAnew() {
        ThawWords x = Check.capeOf("place 3;place 1;warm 7 2;sound 9;person 6 0;person 5 1;");
        x.says(0, 5, 1);
        x.goes(1, 0);
        x.lantern(1);
        x.rate(5, 0);
        x.keep(0);
        x.keep(1);
        x.go(3);
        x.lantern(0);
        Check.type(x, "place 2;cold 3;person 4 0;");
        c.due("read anew", x.cape(), 3);
        c.due("places", x.count(0), 1);
        c.due("hours", x.count(1), 0);
        c.due("sounds", x.count(2), 1);
        c.due("people", x.count(3), 1);
        c.due("bytes", x.count(4), 0);
        c.due("hour", x.now(0), 0);
        c.due("what hangs", x.now(1), 0);
        c.due("sayings", x.now(2), 0);
        c.due("lanterns", x.now(3), 0);
        c.due("colder", x.place(0, 0), 2);
        c.due("no second place", x.place(1, 0), -1000000);
        c.due("warmth", x.warmth(0), 0);
        c.due("melt", x.melts(0), -3);
        c.due("pitch", x.person(0, 0), 4);
        c.due("heard", x.person(0, 2), 0);
        c.due("nobody else", x.person(1, 0), -1);
        c.due("image 0 is gone", x.back(0), -2);
        c.due("image 1 is gone", x.back(1), -2);
        c.due("the trace goes on", x.trace(), 100001);
        c.due("an empty text", x.cape(), 0);
        c.due("no place", x.count(0), 0);
        c.due("nobody", x.person(0, 0), -1);
    }

    private static void places() {
        ThawWords x = Check.capeOf("place 0;place 9;frost 3 1;warm 8 1;sound 5;sound 9;cold 9;person 0 0;person 0 1;");
        c.due("place(0, 0)", x.place(0, 0), 0);
        c.due("place(1, 0)", x.place(1, 0), 9);
        c.due("place(0, 1)", x.place(0, 1), -3);
        c.due("place(1, 1)", x.place(1, 1), -12);
        x.says(0, 1, 12);
        x.says(0, 2, 13);
        x.says(1, 2, 3);
        c.due("place(0, 2)", x.place(0, 2), 3);
        c.due("place(1, 2)", x.place(1, 2), 1);
        c.due("place(0, 3)", x.place(0, 3), 0);
        c.due("lantern(1)", x.lantern(1), 1);
        c.due("place(0, 3) is dark", x.place(0, 3), 0);
        c.due("place(1, 3)", x.place(1, 3), 1);
        c.due("place(1, 1) by a lantern", x.place(1, 1), -7);
        c.due("place(0, 1) without one", x.place(0, 1), -3);
        x.go(1);
        c.due("place(1, 3) an hour on", x.place(1, 3), 0);
        c.due("place(1, 1) an hour on", x.place(1, 1), -1);
        c.due("place(0, 2) an hour on", x.place(0, 2), 1);
        for (int what : new int[] {-1, 4, Integer.MAX_VALUE, Integer.MIN_VALUE}) c.due("place(0, " + what + ")", x.place(0, what), -1000000);
        for (int p : new int[] {-1, 2, 4, Integer.MAX_VALUE, Integer.MIN_VALUE}) c.due("place(" + p + ", 0)", x.place(p, 0), -1000000);
    }

    private static void weather() {
        ThawWords x = Check.capeOf("warm 20 2;frost 20 1;warm 0 1;frost 7 3;");
        int[] told = {20, 20, -20, 0, -7, -7, -7};
        for (int hour = 0; hour < 100; hour++) c.due("warmth(" + hour + ")", x.warmth(hour), told[Math.min(hour, 6)]);
        c.due("hours told", x.count(1), 7);
        for (int hour : new int[] {-1, 100, Integer.MAX_VALUE, Integer.MIN_VALUE}) c.due("warmth(" + hour + ")", x.warmth(hour), -1000000);
        ThawWords longest = Check.capeOf("frost 3 12;warm 4 11;frost 9 1;");
        c.due("warmth(11)", longest.warmth(11), -3);
        c.due("warmth(12)", longest.warmth(12), 4);
        c.due("warmth(23)", longest.warmth(23), -9);
        c.due("warmth(99)", longest.warmth(99), -9);
    }

    private static void sounds() {
        ThawWords x = Check.capeOf("cold 9;sound 9;cold 0;sound 0;cold 4;");
        int[] told = {-9, 9, 0, 0, -4};
        for (int sound = 0; sound < 5; sound++) c.due("melts(" + sound + ")", x.melts(sound), told[sound]);
        for (int sound : new int[] {-1, 5, Integer.MAX_VALUE, Integer.MIN_VALUE}) c.due("melts(" + sound + ")", x.melts(sound), -1000000);
        c.due("melts(1) of one sound", Check.capeOf("sound 3;").melts(1), -1000000);
    }

    private static void people() {
        ThawWords x = Check.capeOf("place 0;place 0;place 0;sound 0;person 9 2;person 0 1;person 5 2;");
        c.due("person(0, 0)", x.person(0, 0), 9);
        c.due("person(1, 0)", x.person(1, 0), 0);
        c.due("person(0, 1)", x.person(0, 1), 2);
        c.due("person(1, 1)", x.person(1, 1), 1);
        x.says(0, 1, 111);
        x.goes(2, 0);
        c.due("person(0, 2)", x.person(0, 2), 3);
        c.due("person(1, 2)", x.person(1, 2), 0);
        c.due("person(2, 2)", x.person(2, 2), 3);
        c.due("person(2, 1)", x.person(2, 1), 0);
        for (int what : new int[] {-1, 3, Integer.MAX_VALUE, Integer.MIN_VALUE}) c.due("person(0, " + what + ")", x.person(0, what), -1);
        for (int p : new int[] {-1, 3, 4, Integer.MAX_VALUE, Integer.MIN_VALUE}) c.due("person(" + p + ", 0)", x.person(p, 0), -1);
    }

    private static void counts() {
        ThawWords x = Check.capeOf("place 1;place 2;frost 1 9;warm 1 9;sound 1;cold 1;sound 2;person 1 1;person 2 1;person 3 1;person 4 1;");
        c.due("count(0)", x.count(0), 2);
        c.due("count(1)", x.count(1), 18);
        c.due("count(2)", x.count(2), 3);
        c.due("count(3)", x.count(3), 4);
        c.due("count(4)", x.count(4), 0);
        Check.type(x, "pl");
        c.due("count(4) of two", x.count(4), 2);
        for (int what : new int[] {-1, 5, Integer.MAX_VALUE, Integer.MIN_VALUE}) c.due("count(" + what + ")", x.count(what), -1);
    }
}
