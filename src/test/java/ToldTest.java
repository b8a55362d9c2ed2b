// Promises 18 to 25: what is told from NOW.
public final class ToldTest {
    private static final int[] FAR = {-1, 1000, Integer.MAX_VALUE, Integer.MIN_VALUE};
    private static final Check c = new Check();

    public static void main(String[] args) {
        whenAndWhole();
        whenAtTheEdge();
        hours();
        hoursAtTheEnd();
        fits();
        lanterns();
        lanternsAgainst();
        answers();
        spoke();
        odds();
        oddsOfWeather();
        c.end();
    }

    private static void whenAndWhole() {
        // Warmth 0, -5, 3, 1, 6, then 6; place 1 is 2 colder.
        ThawWords x = Check.capeOf("place 0;place 2;warm 0 1;frost 5 1;warm 3 1;warm 1 1;warm 6 1;cold 1;sound 3;sound 4;sound 7;person 0 0;person 0 1;");
        x.says(0, 1, 213);
        x.says(1, 9, 12);
        x.says(0, 5, 14);
        int[] first = {2, 0, 4};
        for (int i = 0; i < 3; i++) c.due("when(0, " + i + ")", x.when(0, i), first[i]);
        c.due("the latest, not the last one said", x.whole(0), 4);
        c.due("when(1, 0)", x.when(1, 0), 2);
        c.due("when(1, 1)", x.when(1, 1), 4);
        c.due("whole(1)", x.whole(1), 4);
        c.due("when(2, 0)", x.when(2, 0), 0);
        c.due("when(2, 1)", x.when(2, 1), -9);
        c.due("whole(2)", x.whole(2), -9);
        c.due("nothing is changed: hour", x.now(0), 0);
        c.due("nothing is changed: what hangs", x.now(1), 5);
        c.due("nothing is changed: heard", x.person(0, 2), 2);
        x.says(0, 1, 21);
        c.due("the first one is the latest", x.whole(3), 2);
        x.go(3);
        c.due("when(0, 0), heard by now", x.when(0, 0), 2);
        c.due("when(0, 1), heard by now", x.when(0, 1), 0);
        c.due("when(0, 2), to come", x.when(0, 2), 4);
        c.due("whole(3), heard by now", x.whole(3), 2);
        x.lantern(1);
        c.due("a lantern in hour 3", x.when(1, 1), 3);
        c.due("whole(1) by a lantern", x.whole(1), 3);
        c.due("when(0, 3)", x.when(0, 3), -1);
        c.due("when(0, -1)", x.when(0, -1), -1);
        c.due("when(4, 0)", x.when(4, 0), -1);
        c.due("whole(4)", x.whole(4), -1);
        for (int k : FAR) {
            c.due("when(" + k + ", 0)", x.when(k, 0), -1);
            c.due("when(0, " + k + ")", x.when(0, k), -1);
            c.due("whole(" + k + ")", x.whole(k), -1);
        }
    }

    private static void whenAtTheEdge() {
        ThawWords x = Check.capeOf("place 0;frost 5 23;warm 2 1;sound 2;sound 3;person 0 0;");
        x.says(0, 1, 12);
        c.due("the last hour told", x.when(0, 0), 23);
        c.due("never", x.when(0, 1), -9);
        x.go(22);
        c.due("the next hour", x.when(0, 0), 23);
        x.go(77);
        c.due("hour 99", x.now(0), 99);
        x.lantern(0);
        c.due("heard in hour 99", x.when(0, 1), 99);
        c.due("whole in hour 99", x.whole(0), 99);
        ThawWords y = Check.capeOf("place 0;sound 1;person 0 0;");
        y.go(99);
        y.says(0, 1, 1);
        c.due("no hour is left", y.when(0, 0), -9);
    }

    private static void hours() {
        // Warmth -3, 4, -3, -3, 4, 0, then 0.
        ThawWords x = Check.capeOf("place 0;place 4;frost 3 1;warm 4 1;frost 3 2;warm 4 1;warm 0 1;sound 0;sound 2;cold 4;cold 8;person 0 0;");
        c.due("hours(0, 0, 0)", x.hours(0, 0, 0), 0);
        c.due("hours(0, 0, 1)", x.hours(0, 0, 1), 3);
        c.due("hours(0, 0, 2)", x.hours(0, 0, 2), 0);
        c.due("hours(0, 0, 4)", x.hours(0, 0, 4), 28);
        c.due("hours(0, 0, 5)", x.hours(0, 0, 5), 32);
        c.due("hours(0, 0, 23)", x.hours(0, 0, 23), 1 << 23);
        c.due("hours(0, 0, 24)", x.hours(0, 0, 24), 0);
        c.due("hours(1, 0, 4)", x.hours(1, 0, 4), 28);
        c.due("hours(1, 0, 5)", x.hours(1, 0, 5), 0);
        c.due("a colder place", x.hours(0, 1, 4), 28);
        c.due("a colder place, later", x.hours(0, 1, 5), 0);
        c.due("at once", x.hours(3, 0, 0), 1);
        x.lantern(0);
        c.due("a lantern now", x.hours(0, 0, 0), 1);
        c.due("a lantern now, the next hour", x.hours(0, 0, 1), 2);
        c.due("a lantern elsewhere", x.hours(0, 1, 1), 3);
        c.due("a lantern is not enough", x.hours(1, 0, 1), 2);
        c.due("it goes out", x.hours(0, 0, 4), 28);
        x.go(3);
        c.due("bits from NOW on", x.hours(0, 0, 4), 3);
        c.due("an hour that was", x.hours(0, 0, 1), 0);
        c.due("to NOW and 23", x.hours(0, 0, 26), 1 << 23);
        c.due("no further", x.hours(0, 0, 27), 0);
        c.due("hours(4, 0, 0)", x.hours(4, 0, 0), -1);
        c.due("hours(0, 2, 0)", x.hours(0, 2, 0), -1);
        c.due("hours(0, 0, 100)", x.hours(0, 0, 100), -1);
        for (int far : FAR) {
            c.due("hours(" + far + ", 0, 0)", x.hours(far, 0, 0), -1);
            c.due("hours(0, " + far + ", 0)", x.hours(0, far, 0), -1);
            c.due("hours(0, 0, " + far + ")", x.hours(0, 0, far), -1);
        }
    }

    private static void hoursAtTheEnd() {
        ThawWords x = Check.capeOf("place 0;frost 9 23;warm 0 1;sound 0;sound 1;");
        c.due("24 bits", x.hours(0, 0, 23), (1 << 24) - 1);
        x.go(90);
        c.due("hour 99", x.hours(0, 0, 99), 1 << 9);
        c.due("hour 98", x.hours(0, 0, 98), 1 << 8);
        c.due("never", x.hours(1, 0, 99), 0);
        x.go(9);
        c.due("hour 99 is NOW", x.hours(0, 0, 99), 1);
        x.lantern(0);
        c.due("by a lantern", x.hours(1, 0, 99), 1);
    }

    private static void fits() {
        ThawWords x = Check.capeOf("place 0;place 0;frost 1 1;warm 9 1;frost 1 1;cold 1;sound 0;sound 1;cold 9;person 0 0;person 0 1;person 0 1;");
        c.due("nothing was said", x.fits(0), 0);
        x.says(0, 1, 1234);
        x.says(1, 9, 14);
        x.says(1, 1, 41);
        x.says(0, 2, 2);
        c.due("heard 0, 3", x.fits(0), 2);
        c.due("heard 0, 3, 3, 0", x.fits(1), 6);
        x.goes(2, 0);
        x.go(1);
        // One 0 hears 0 3 and then, loud first, 1 and 1 2.
        c.due("pieces of several", x.fits(0), 2 | 8);
        x.says(0, 1, 4);
        c.due("the last piece: 0 3 1 1 2 3", x.fits(0), 1 | 2 | 8 | 16);
        x.says(0, 1, 1);
        c.due("and 3 0", x.fits(0), 63);
        c.due("one that heard less: 0 3 3 0 and 1 1 2 3 0", x.fits(2), 63);
        c.due("who went away", x.fits(1), 2 | 4 | 16 | 32);
        x.says(1, 1, 1111);
        c.due("each sound is found anew", x.fits(0), 63);
        c.due("six of them", x.fits(1), 2 | 4 | 16 | 32 | 64);
        c.due("fits(3)", x.fits(3), -1);
        for (int p : FAR) c.due("fits(" + p + ")", x.fits(p), -1);
    }

    private static void lanterns() {
        // Air 0, -3, -6: a lantern makes 5, 2, -1 of it.
        ThawWords x = Check.capeOf("place 0;place 3;place 6;sound 2;sound 5;sound 6;cold 1;cold 7;person 0 0;person 0 1;person 0 2;");
        x.says(0, 1, 12);
        x.says(1, 1, 14);
        x.says(2, 1, 4);
        x.says(0, 1, 3);
        x.says(1, 1, 2);
        x.says(2, 1, 5);
        x.goes(0, 2);
        x.says(0, 1, 4);
        c.due("lanterns(1, 0)", x.lanterns(1, 0), 1);
        c.due("lanterns(2, 0)", x.lanterns(2, 0), 2);
        c.due("lanterns(4, 0)", x.lanterns(4, 0), 4);
        c.due("at three places", x.lanterns(7, 0), 7);
        c.due("too high a melt", x.lanterns(8, 0), -9);
        c.due("one of several too high", x.lanterns(9, 0), -9);
        c.due("too cold", x.lanterns(16, 0), -9);
        c.due("it hangs no more", x.lanterns(32, 0), 0);
        c.due("one that hangs no more among others", x.lanterns(33, 0), 1);
        c.due("none told", x.lanterns(0, 255), 0);
        c.due("there are not so many", x.lanterns(128, 0), 0);
        c.due("left out", x.lanterns(1 | 1 << 7 | 1 << 30, 1 << 9), 1);
        c.due("below 0", x.lanterns(Integer.MIN_VALUE | 1, Integer.MIN_VALUE), 1);
        c.due("all bits", x.lanterns(-1, 0), -9);
        x.lantern(1);
        c.due("held there already, and heard", x.lanterns(2, 0), 0);
        c.due("held there already", x.lanterns(16, 0), -9);
        c.due("held elsewhere", x.lanterns(5, 0), 5);
        c.due("with what is heard by now", x.lanterns(7, 0), 5);
        x.go(1);
        c.due("out again", x.lanterns(16, 0), -9);
    }

    private static void lanternsAgainst() {
        ThawWords x = Check.capeOf("place 0;place 3;sound 2;sound 5;sound 6;cold 7;person 0 0;person 0 1;");
        x.says(0, 1, 1);
        x.says(0, 1, 2);
        x.says(0, 1, 32);
        x.says(0, 1, 3);
        x.says(0, 1, 4);
        x.says(1, 1, 1);
        x.says(1, 1, 23);
        c.due("another one would be heard", x.lanterns(1, 2), -9);
        c.due("one of its sounds would be heard", x.lanterns(1, 4), -9);
        c.due("it is too high", x.lanterns(1, 8), 1);
        c.due("it hangs no more", x.lanterns(1, 16), 1);
        c.due("it hangs elsewhere", x.lanterns(1, 32), 1);
        c.due("several", x.lanterns(1, 8 | 16 | 32 | 64), 1);
        c.due("two places", x.lanterns(1 | 32, 8 | 64), 3);
        c.due("two places, one against", x.lanterns(1 | 32, 2), -9);
        c.due("told and not to be heard", x.lanterns(1, 1), -9);
        c.due("told, heard by now, and not to be heard", x.lanterns(16, 16), 0);
        c.due("none of told ones hangs", x.lanterns(16, 2), 0);
        c.due("the same by all bits", x.lanterns(1, -1), -9);
        x.lantern(1);
        c.due("what would be heard is heard by now", x.lanterns(1, 32), 1);
    }

    private static void answers() {
        ThawWords x = Check.capeOf("place 0;frost 1 1;warm 1 1;warm 3 1;sound 1;sound 3;cold 5;person 0 0;");
        x.says(0, 1, 3);
        x.says(0, 1, 13);
        x.says(0, 1, 12);
        x.go(1);
        x.says(0, 1, 3);
        x.go(1);
        x.says(0, 1, 3);
        x.go(1);
        x.says(0, 1, 3);
        c.due("in the same hour", x.answers(1, 0), 0);
        c.due("in a later hour", x.answers(3, 0), 1);
        c.due("the earlier one", x.answers(0, 3), 0);
        c.due("heard in its hour", x.answers(3, 1), 0);
        c.due("heard in the hour ahead", x.answers(4, 1), 1);
        c.due("the latest sound in its hour", x.answers(4, 2), 0);
        c.due("the latest sound in the hour ahead", x.answers(5, 2), 1);
        c.due("alike", x.answers(5, 5), -1);
        c.due("no such one", x.answers(6, 0), -1);
        c.due("no such other one", x.answers(0, 6), -1);
        for (int far : FAR) {
            c.due("answers(" + far + ", 0)", x.answers(far, 0), -1);
            c.due("answers(0, " + far + ")", x.answers(0, far), -1);
            c.due("answers(" + far + ", " + far + ")", x.answers(far, far), -1);
        }
        ThawWords y = Check.capeOf("place 0;cold 5;sound 5;person 0 0;");
        y.says(0, 1, 12);
        y.go(5);
        y.says(0, 1, 1);
        c.due("one still hangs", y.answers(1, 0), 0);
    }

    private static void spoke() {
        ThawWords x = Check.capeOf("place 0;place 0;sound 9;person 5 0;person 6 0;person 4 1;person 7 0;");
        x.says(0, 1, 1);
        x.says(1, 1, 1);
        x.says(3, 1, 1);
        x.says(2, 1, 1);
        c.due("one off", x.spoke(0), 3);
        c.due("one off, both ways", x.spoke(1), 11);
        c.due("one below", x.spoke(2), 10);
        c.due("itself alone", x.spoke(3), 4);
        x.goes(0, 1);
        x.goes(2, 0);
        x.go(4);
        c.due("as it was said", x.spoke(0), 3);
        x.says(0, 1, 1);
        x.says(2, 1, 1);
        c.due("where it stands", x.spoke(4), 1);
        c.due("two off", x.spoke(5), 4);
        x.goes(0, 0);
        x.says(0, 1, 1);
        c.due("one off, below and above", x.spoke(6), 7);
        c.due("spoke(7)", x.spoke(7), -1);
        for (int k : FAR) c.due("spoke(" + k + ")", x.spoke(k), -1);
    }

    private static void fraction(ThawWords x, int sound, int place, int d, int n, long upper, long lower) {
        String call = "odds(" + sound + ", " + place + ", " + d + ", " + n;
        c.due(call + ", 0)", x.odds(sound, place, d, n, 0), upper);
        c.due(call + ", 1)", x.odds(sound, place, d, n, 1), lower);
    }

    private static void odds() {
        // Warmth 0 in each hour; what melts at 1 needs one more.
        ThawWords x = Check.capeOf("place 0;place 2;sound 1;sound 0;sound 3;sound 4;person 0 0;");
        fraction(x, 0, 0, 0, 6, 0, 1);
        fraction(x, 0, 0, 1, 1, 1, 3);
        fraction(x, 0, 0, 1, 2, 5, 9);
        fraction(x, 0, 0, 2, 1, 2, 5);
        fraction(x, 0, 0, 3, 6, 7 * 7 * 7 * 7 * 7 * 7 - 4 * 4 * 4 * 4 * 4 * 4, 7 * 7 * 7 * 7 * 7 * 7);
        fraction(x, 1, 0, 0, 1, 1, 1);
        fraction(x, 1, 0, 1, 1, 2, 3);
        fraction(x, 2, 0, 2, 6, 0, 1);
        fraction(x, 2, 0, 3, 1, 1, 7);
        fraction(x, 3, 0, 3, 6, 0, 1);
        fraction(x, 0, 1, 3, 1, 1, 7);
        fraction(x, 1, 1, 2, 1, 1, 5);
        x.lantern(0);
        fraction(x, 0, 0, 1, 1, 1, 3);
        x.go(99);
        fraction(x, 0, 0, 1, 2, 5, 9);
        c.due("odds, sound 4", x.odds(4, 0, 1, 1, 0), -1000000);
        c.due("odds, place 2", x.odds(0, 2, 1, 1, 0), -1000000);
        c.due("odds, d 4", x.odds(0, 0, 4, 1, 0), -1000000);
        c.due("odds, n 0", x.odds(0, 0, 1, 0, 0), -1000000);
        c.due("odds, n 7", x.odds(0, 0, 1, 7, 0), -1000000);
        c.due("odds, what 2", x.odds(0, 0, 1, 1, 2), -1000000);
        for (int far : FAR) {
            c.due("odds, sound " + far, x.odds(far, 0, 1, 1, 0), -1000000);
            c.due("odds, place " + far, x.odds(0, far, 1, 1, 0), -1000000);
            c.due("odds, d " + far, x.odds(0, 0, far, 1, 0), -1000000);
            c.due("odds, n " + far, x.odds(0, 0, 1, far, 0), -1000000);
            c.due("odds, what " + far, x.odds(0, 0, 1, 1, far), -1000000);
        }
    }

    private static void oddsOfWeather() {
        // Warmth 9, -2, -1, 0, 1, then 1.
        ThawWords x = Check.capeOf("place 0;warm 9 1;frost 2 1;frost 1 1;warm 0 1;warm 1 1;sound 0;sound 1;");
        fraction(x, 0, 0, 1, 1, 0, 1);
        fraction(x, 0, 0, 1, 2, 1, 3);
        fraction(x, 0, 0, 1, 3, 7, 9);
        fraction(x, 0, 0, 1, 4, 1, 1);
        fraction(x, 0, 0, 2, 2, 13, 25);
        fraction(x, 1, 0, 1, 3, 1, 3);
        // 81 less 3 * 3 * 2 * 1 of 81.
        fraction(x, 1, 0, 1, 4, 7, 9);
        x.go(3);
        fraction(x, 1, 0, 1, 1, 2, 3);
        fraction(x, 1, 0, 1, 2, 8, 9);
        ThawWords y = Check.capeOf("place 0;warm 20 24;sound 9;cold 9;");
        fraction(y, 0, 0, 3, 6, 1, 1);
    }
}
