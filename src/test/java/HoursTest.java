// Promises 9 to 17: what is said, who goes, lanterns, hours that go by, what is heard.
public final class HoursTest {
    private static final int[] FAR = {-1, 1000, Integer.MAX_VALUE, Integer.MIN_VALUE};
    private static final Check c = new Check();

    public static void main(String[] args) {
        saying();
        sayingRefused();
        saidBesideALantern();
        meltingInItsOrder();
        placesInTheirOrder();
        going();
        goingRefused();
        lantern();
        hours();
        hearing();
        anew();
        c.end();
    }

    private static void saying() {
        // Air is 0 at place 0 and -4 at place 1.
        ThawWords x = Check.capeOf("place 0;place 4;sound 0;sound 1;cold 4;cold 3;person 5 0;person 5 1;person 5 0;");
        c.due("the first", x.says(0, 7, 2143), 0);
        c.due("one of four hangs", x.saying(0, 5), 1);
        c.due("three are heard", x.person(0, 2), 3);
        c.due("by another one, too", x.person(2, 2), 3);
        c.due("not elsewhere", x.person(1, 2), 0);
        int[] heard = {0, 3, 2};
        for (int i = 0; i < 3; i++) {
            c.due("heard(0, " + i + ", 0)", x.heard(0, i, 0), 0);
            c.due("heard(0, " + i + ", 1)", x.heard(0, i, 1), heard[i]);
            c.due("heard(2, " + i + ", 1)", x.heard(2, i, 1), heard[i]);
        }
        c.due("heard no more", x.heard(0, 3, 1), -5);
        x.go(2);
        c.due("the second", x.says(1, 9, 34), 1);
        c.due("MELT at AIR is heard, above it hangs", x.saying(1, 5), 1);
        c.due("heard(1, 0, 0)", x.heard(1, 0, 0), 1);
        c.due("heard(1, 0, 1)", x.heard(1, 0, 1), 2);
        int[] told = {1, 1, 2, 9, 2, 1};
        for (int what = 0; what < 6; what++) c.due("saying(1, " + what + ")", x.saying(1, what), told[what]);
        int[] first = {0, 0, 0, 7, 4, 1};
        for (int what = 0; what < 6; what++) c.due("saying(0, " + what + ")", x.saying(0, what), first[what]);
        c.due("saying(0, 6)", x.saying(0, 6), -1);
        c.due("saying(0, -1)", x.saying(0, -1), -1);
        c.due("saying(2, 0)", x.saying(2, 0), -1);
        for (int k : FAR) c.due("saying(" + k + ", 0)", x.saying(k, 0), -1);
        int[] sounds = {1, 0, 3, 2, -5, -5};
        for (int i = 0; i < 6; i++) c.due("soundOf(0, " + i + ")", x.soundOf(0, i), sounds[i]);
        c.due("soundOf(0, -1)", x.soundOf(0, -1), -1);
        c.due("soundOf(0, greatest)", x.soundOf(0, Integer.MAX_VALUE), -5);
        c.due("soundOf(1, 2)", x.soundOf(1, 2), -5);
        c.due("soundOf(2, 0)", x.soundOf(2, 0), -1);
        for (int k : FAR) c.due("soundOf(" + k + ", 0)", x.soundOf(k, 0), -1);
        for (int what = 0; what < 4; what++) c.due("now(" + what + ")", x.now(what), new int[] {2, 2, 2, 0}[what]);
        for (int what : FAR) c.due("now(" + what + ")", x.now(what), -1);
        c.due("now(4)", x.now(4), -1);
    }

    private static void sayingRefused() {
        ThawWords x = Check.capeOf("place 0;sound 1;sound 2;sound 3;person 0 0;");
        for (int p : FAR) c.due("says(" + p + ", 1, 1)", x.says(p, 1, 1), -1);
        c.due("says(1, 1, 1)", x.says(1, 1, 1), -1);
        for (int loud : new int[] {0, -1, 10, Integer.MAX_VALUE, Integer.MIN_VALUE}) {
            c.due("says(0, " + loud + ", 1)", x.says(0, loud, 1), -1);
        }
        int[] none = {0, -1, -11, 4, 5, 6, 9, 10, 101, 1011, 1110, 114, 411, 141, 10000, 11111, 1111111111,
            Integer.MAX_VALUE, Integer.MIN_VALUE};
        for (int sounds : none) c.due("says(0, 1, " + sounds + ")", x.says(0, 1, sounds), -1);
        c.due("none was said", x.now(2), 0);
        for (int k = 0; k < 8; k++) c.due("saying " + k, x.says(0, 1 + k, 3), k);
        c.due("a ninth", x.says(0, 9, 3), -3);
        c.due("BAD ahead of FULL: one", x.says(1, 9, 3), -1);
        c.due("BAD ahead of FULL: loud", x.says(0, 10, 3), -1);
        c.due("BAD ahead of FULL: sounds", x.says(0, 9, 4), -1);
        c.due("eight", x.now(2), 8);
        c.due("eight hang", x.now(1), 8);
    }

    private static void saidBesideALantern() {
        ThawWords x = Check.capeOf("place 2;place 2;sound 3;sound 4;person 0 0;person 0 1;");
        x.lantern(0);
        x.says(0, 1, 12);
        x.says(1, 1, 12);
        c.due("3 is heard by the lantern, 4 hangs", x.saying(0, 5), 1);
        c.due("elsewhere both hang", x.saying(1, 5), 2);
        c.due("heard", x.heard(0, 0, 1), 0);
        x.go(1);
        x.says(0, 1, 1);
        c.due("it is out", x.saying(2, 5), 1);
    }

    private static void meltingInItsOrder() {
        // All hang in hour 0; in hour 1 all melts but sound 2.
        ThawWords x = Check.capeOf("place 0;frost 1 1;warm 5 1;sound 5;sound 0;sound 6;person 0 0;person 0 0;");
        x.says(0, 3, 132);
        x.says(1, 9, 2);
        x.says(0, 3, 21);
        x.says(1, 1, 1223);
        x.says(0, 9, 12);
        c.due("all hang", x.now(1), 12);
        c.due("ten melt", x.go(1), 10);
        int[] sayings = {1, 4, 4, 0, 0, 2, 2, 3, 3, 3};
        int[] sounds = {1, 0, 1, 0, 1, 1, 0, 0, 1, 1};
        for (int p = 0; p < 2; p++) {
            c.due("how many heard", x.person(p, 2), 10);
            for (int i = 0; i < 10; i++) {
                c.due("heard(" + p + ", " + i + ", 0)", x.heard(p, i, 0), sayings[i]);
                c.due("heard(" + p + ", " + i + ", 1)", x.heard(p, i, 1), sounds[i]);
            }
        }
        c.due("two hang on", x.now(1), 2);
        c.due("nothing melts twice", x.go(1), 0);
    }

    private static void placesInTheirOrder() {
        // One that stands at a place hears only what melts there, whatever is loud elsewhere.
        ThawWords x = Check.capeOf("place 0;place 5;frost 1 1;warm 9 1;sound 0;sound 4;person 0 0;person 0 1;person 0 1;");
        x.says(1, 9, 2);
        x.says(0, 1, 1);
        x.goes(1, 0);
        x.goes(0, 1);
        c.due("both melt", x.go(1), 2);
        c.due("the one at 0 heard what was said there", x.heard(1, 0, 0), 1);
        c.due("only that", x.heard(1, 1, 0), -5);
        c.due("the one at 1 heard what was said there", x.heard(0, 0, 0), 0);
        c.due("and so did who stood there", x.heard(2, 0, 0), 0);
        x.goes(1, 1);
        c.due("who comes later hears nothing of it", x.person(1, 2), 1);
    }

    private static void going() {
        ThawWords x = Check.capeOf("place 0;place 1;place 2;sound 1;person 0 2;person 0 0;");
        c.due("goes(0, 0)", x.goes(0, 0), 2);
        c.due("goes(0, 1)", x.goes(0, 1), 0);
        c.due("goes(0, 1) again", x.goes(0, 1), -2);
        c.due("it stands", x.person(0, 1), 1);
        c.due("the other one stays", x.person(1, 1), 0);
        c.due("goes(0, 3)", x.goes(0, 3), -1);
        c.due("goes(2, 0)", x.goes(2, 0), -1);
        for (int p : FAR) c.due("goes(" + p + ", 0)", x.goes(p, 0), -1);
        for (int place : FAR) c.due("goes(0, " + place + ")", x.goes(0, place), -1);
        x.says(0, 1, 1);
        c.due("it says it where it stands", x.saying(0, 1), 1);
        x.goes(0, 2);
        c.due("it stays where it was said", x.saying(0, 1), 1);
    }

    private static void goingRefused() {
        ThawWords x = new ThawWords();
        for (int n : new int[] {0, -1, 100, Integer.MAX_VALUE, Integer.MIN_VALUE}) c.due("go(" + n + ")", x.go(n), -1);
        c.due("no hour went by", x.now(0), 0);
        c.due("go(98)", x.go(98), 0);
        c.due("go(99) from 98", x.go(99), 0);
        c.due("to 99", x.now(0), 99);
        c.due("go(1) at 99", x.go(1), -2);
        c.due("go(100) at 99", x.go(100), -1);
        c.due("still 99", x.now(0), 99);
    }

    private static void lantern() {
        ThawWords x = Check.capeOf("place 0;place 3;frost 5 2;warm 3 1;sound 0;sound 1;cold 5;person 0 0;person 0 1;");
        x.says(0, 1, 12);
        x.says(1, 9, 3);
        x.says(0, 4, 211);
        c.due("hanging", x.now(1), 6);
        c.due("lantern(0)", x.lantern(0), 3);
        c.due("lantern(0) again", x.lantern(0), -2);
        c.due("bits", x.now(3), 1);
        c.due("elsewhere it hangs on", x.place(1, 2), 1);
        c.due("the loud one first", x.heard(0, 0, 0), 2);
        c.due("then again", x.heard(0, 1, 0), 2);
        c.due("then the low one", x.heard(0, 2, 0), 0);
        c.due("lantern(1)", x.lantern(1), 1);
        c.due("bits of both", x.now(3), 3);
        c.due("an hour later", x.go(1), 0);
        c.due("they are out", x.now(3), 0);
        x.goes(0, 1);
        c.due("held anew, with nobody there", x.lantern(0), 0);
        c.due("the rest, with nobody there", x.go(1), 2);
        c.due("nobody heard it", x.person(0, 2), 3);
        for (int place : FAR) c.due("lantern(" + place + ")", x.lantern(place), -1);
        c.due("lantern(2)", x.lantern(2), -1);
    }

    private static void hours() {
        // Warmth 0, 1, 2, 3, then 3: a sound that melts at 3 less colder 1 never does.
        ThawWords x = Check.capeOf("place 1;place 0;warm 0 1;warm 1 1;warm 2 1;warm 3 1;sound 1;sound 2;sound 3;person 0 0;person 0 1;");
        x.says(0, 1, 123);
        x.says(1, 1, 123);
        c.due("go(1)", x.go(1), 1);
        c.due("go(2)", x.go(2), 4);
        c.due("go(96)", x.go(96), 0);
        c.due("one hangs on", x.now(1), 1);
        c.due("at 99", x.now(0), 99);
        ThawWords y = Check.capeOf("place 1;frost 1 3;warm 9 1;frost 9 1;sound 1;person 0 0;");
        y.says(0, 1, 1111);
        c.due("what melts in between counts", y.go(9), 4);
        c.due("hour", y.now(0), 9);
        y.says(0, 1, 11);
        c.due("behind the last hour told", y.go(50), 0);
    }

    private static void hearing() {
        ThawWords x = Check.capeOf("place 0;sound 0;person 0 0;person 0 0;");
        for (int k = 0; k < 8; k++) x.says(0, 1, 1111);
        c.due("all of them", x.person(1, 2), 32);
        c.due("heard(1, 31, 0)", x.heard(1, 31, 0), 7);
        c.due("heard(1, 31, 1)", x.heard(1, 31, 1), 0);
        c.due("heard(1, 32, 0)", x.heard(1, 32, 0), -5);
        c.due("heard(1, 60, 0)", x.heard(1, 60, 0), -5);
        c.due("heard(1, greatest, 0)", x.heard(1, Integer.MAX_VALUE, 0), -5);
        c.due("heard(1, -1, 0)", x.heard(1, -1, 0), -1);
        c.due("heard(1, 0, 2)", x.heard(1, 0, 2), -1);
        c.due("heard(1, 0, -1)", x.heard(1, 0, -1), -1);
        c.due("heard(1, 32, 2)", x.heard(1, 32, 2), -1);
        c.due("heard(2, 0, 0)", x.heard(2, 0, 0), -1);
        c.due("heard(2, 32, 0)", x.heard(2, 32, 0), -1);
        for (int p : FAR) c.due("heard(" + p + ", 0, 0)", x.heard(p, 0, 0), -1);
    }

    private static void anew() {
        ThawWords x = Check.capeOf("place 0;place 1;warm 1 4;sound 0;sound 9;person 0 0;person 3 1;");
        x.says(0, 1, 12);
        x.goes(0, 1);
        x.go(7);
        x.lantern(1);
        x.keep(1);
        x.rate(0, 0);
        Check.type(x, "pla");
        c.due("anew", x.anew(), 7);
        for (int what = 0; what < 4; what++) c.due("now(" + what + ")", x.now(what), 0);
        c.due("it stands where it was", x.person(0, 1), 0);
        c.due("it heard nothing", x.person(0, 2), 0);
        c.due("no saying", x.saying(0, 0), -1);
        c.due("the cape stays", x.count(0), 2);
        c.due("the weather stays", x.count(1), 4);
        c.due("the text stays", x.count(4), 3);
        c.due("the trace stays", x.trace(), 1);
        c.due("anew again", x.anew(), 0);
        c.due("eight may be said anew", x.says(0, 1, 1), 0);
        c.due("the image stays", x.back(1), 7);
        c.due("lantern of the image", x.now(3), 2);
        c.due("saying of the image", x.saying(0, 4), 2);
    }
}
