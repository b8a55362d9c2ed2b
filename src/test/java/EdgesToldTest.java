// The edges of promises 18 to 25: what is told from NOW.
public final class EdgesToldTest {
    private static final int BAD = Edges.BAD, NONE = Edges.NONE, NO = Edges.NO;
    private static final int LEAST = Edges.LEAST, GREATEST = Edges.GREATEST;
    private static final int[] BELOW = {-1, LEAST};

    private static final String CHUNG = "(From NOW; nobody moves, nothing more is said, no LANTERN more; nothing is changed.)";
    private static final String WHEN = "WHEN: the HOUR in which SOUND i of a SAYING was or will be heard; NONE: not by HOUR 99.";
    private static final String WHOLE = "WHOLE: the HOUR of the last of its SOUNDS; NONE.";
    private static final String HOURS = "HOURS to say: of HOURS from NOW on (to NOW and 23, 99 at most) those, in which a SOUND said at a PLACE"
        + " would be heard (at once, or later) just in a told HOUR: bits by how many HOURS from NOW.";
    private static final String FITS = "FITS: SAYINGS (bits) all SOUNDS of which are found in their order, others between,"
        + " in what one HEARD (SOUNDS by their numbers, of whichever SAYING).";
    private static final String LANTERNS = "LANTERNS: the PLACES (bits; 0: none of told ones HANG) where told SAYINGS HANG,"
        + " if by a LANTERN at each of these, now, all that HANGS of told ones would be heard, and nothing of others that are told"
        + " (what HANGS no more does not matter); else NONE (also where a LANTERN is held already).";
    private static final String LEFT_OUT = "LANTERNS for told SAYINGS, not for others (bits; those that there are not are left out); NONE.";
    private static final String ANSWERS = "ANSWERS: whether a SAYING can answer another one: all SOUNDS of that were heard in HOURS below"
        + " the one in which it was said.";
    private static final String SPOKE = "SPOKE: PEOPLE (bits) who stood at the PLACE of a SAYING as it was said,"
        + " with a PITCH one off at most that of who said it.";
    private static final String ODDS = "ODDS, by d (0 .. 3) and n (1 .. 6): WARMTH of each HOUR that comes is as told and -d .. d more,"
        + " each as likely, each HOUR for itself: that a SOUND that HANGS at a PLACE would be heard within n HOURS (beyond 99, too): a fraction.";
    private static final String LEAST_TERMS = "ODDS: upper (what = 0), lower number (1), in least terms. NO: BAD.";

    private static final Edges t = new Edges();

    public static void main(String[] args) {
        nothingIsChanged();
        when();
        whole();
        hoursRefused();
        hoursFromNow();
        hoursToTheEnd();
        fits();
        lanternsOfNone();
        lanternsHeard();
        lanternsOfOthers();
        answers();
        spoke();
        oddsRefused();
        odds();
        t.end(18, 19, 20, 21, 22, 23, 24, 25);
    }

    // Warmth -1, 0, 2, 5, then 5; SOUNDS 0 .. 3 MELT at 0, 2, 6, -9.
    private static ThawWords cape() {
        return Check.capeOf("place 0;place 3;frost 1 1;warm 0 1;warm 2 1;warm 5 1;sound 0;sound 2;sound 6;cold 9;"
            + "person 5 0;person 6 0;person 7 1;");
    }

    private static ThawWords said() {
        ThawWords x = cape();
        x.says(0, 7, 4121);
        x.says(1, 2, 3);
        x.says(2, 9, 14);
        x.keep(0);
        return x;
    }

    private static void nothingIsChanged() {
        String all = Seen.all(said());
        t.edge(18, CHUNG, "by when()", () -> {
            ThawWords x = said();
            t.due("when(0, 1)", x.when(0, 1), 1);
            t.due("when(1, 0)", x.when(1, 0), NONE);
            t.alike("all that is seen", Seen.all(x), all);
        });
        t.edge(19, CHUNG, "by whole()", () -> {
            ThawWords x = said();
            t.due("whole(0)", x.whole(0), 2);
            t.due("whole(1)", x.whole(1), NONE);
            t.alike("all that is seen", Seen.all(x), all);
        });
        t.edge(20, CHUNG, "by hours()", () -> {
            ThawWords x = said();
            t.due("hours(0, 0, 1)", x.hours(0, 0, 1), 3);
            t.alike("all that is seen", Seen.all(x), all);
        });
        t.edge(21, CHUNG, "by fits()", () -> {
            ThawWords x = said();
            t.due("fits(0)", x.fits(0), 0);
            t.alike("all that is seen", Seen.all(x), all);
        });
        t.edge(22, CHUNG, "by lanterns()", () -> {
            ThawWords x = said();
            t.due("lanterns(1, 0)", x.lanterns(1, 0), 1);
            t.due("lanterns(2, 0)", x.lanterns(2, 0), NONE);
            t.alike("all that is seen", Seen.all(x), all);
        });
        t.edge(23, CHUNG, "by answers()", () -> {
            ThawWords x = said();
            t.due("answers(1, 0)", x.answers(1, 0), 0);
            t.alike("all that is seen", Seen.all(x), all);
        });
        t.edge(24, CHUNG, "by spoke()", () -> {
            ThawWords x = said();
            t.due("spoke(0)", x.spoke(0), 3);
            t.alike("all that is seen", Seen.all(x), all);
        });
        t.edge(25, CHUNG, "by odds()", () -> {
            ThawWords x = said();
            t.due("odds(0, 0, 3, 6, 1)", x.odds(0, 0, 3, 6, 1), 1);
            t.alike("all that is seen", Seen.all(x), all);
        });
        t.edge(18, CHUNG, "no LANTERN more: one that is held is out in the next HOUR", () -> {
            ThawWords x = Check.capeOf("place 0;warm 0 1;warm 1 1;sound 6;person 1 0;");
            x.lantern(0);
            x.says(0, 1, 1);
            t.due("when(0, 0)", x.when(0, 0), NONE);
        });
    }

    private static void when() {
        String bad = "WHEN; NONE. BAD (no such SOUND of it, too).";
        t.edge(18, bad, "k below 0", () -> {
            for (int k : BELOW) t.due("when(" + k + ", 0)", said().when(k, 0), BAD);
        });
        t.edge(18, bad, "the first that was not said", () -> {
            for (int k : new int[] {3, 7, 8, GREATEST}) t.due("when(" + k + ", 0)", said().when(k, 0), BAD);
        });
        t.edge(18, bad, "i below 0", () -> {
            for (int i : BELOW) t.due("when(0, " + i + ")", said().when(0, i), BAD);
        });
        t.edge(18, bad, "no such SOUND of it: the first behind its last", () -> {
            for (int i : new int[] {4, 5, GREATEST}) t.due("when(0, " + i + ")", said().when(0, i), BAD);
            for (int i : new int[] {1, 3, 4}) t.due("when(1, " + i + ")", said().when(1, i), BAD);
        });
        t.edge(18, bad, "a longer one was said there ahead of anew()", () -> {
            ThawWords x = said();
            x.anew();
            x.says(0, 1, 1);
            t.due("when(0, 1)", x.when(0, 1), BAD);
        });
        t.edge(18, WHEN, "was heard at once", () -> t.due("when(0, 0)", said().when(0, 0), 0));
        t.edge(18, WHEN, "will be heard: in the next HOUR, in a later one", () -> {
            t.due("when(0, 1)", said().when(0, 1), 1);
            t.due("when(0, 2)", said().when(0, 2), 2);
            t.due("when(2, 0), where it is colder", said().when(2, 0), 3);
        });
        t.edge(18, WHEN, "was heard in an HOUR behind", () -> {
            ThawWords x = said();
            x.go(50);
            int[] told = {0, 1, 2, 1};
            for (int i = 0; i < 4; i++) t.due("when(0, " + i + ")", x.when(0, i), told[i]);
        });
        t.edge(18, WHEN, "was heard by a LANTERN", () -> {
            ThawWords x = said();
            x.lantern(0);
            t.due("when(0, 1)", x.when(0, 1), 0);
        });
        t.edge(18, WHEN, "MELT is AIR, one above AIR", () -> {
            ThawWords x = Check.capeOf("place 1;warm 0 1;warm 3 1;sound 2;sound 3;person 1 0;");
            x.says(0, 1, 12);
            t.due("when(0, 0)", x.when(0, 0), 1);
            t.due("when(0, 1)", x.when(0, 1), NONE);
        });
        t.edge(18, WHEN, "not by HOUR 99", () -> {
            ThawWords x = said();
            t.due("when(1, 0)", x.when(1, 0), NONE);
            x.go(99);
            t.due("when(1, 0) in HOUR 99", x.when(1, 0), NONE);
        });
        t.edge(18, WHEN, "in HOUR 99", () -> {
            ThawWords x = said();
            x.go(99);
            x.lantern(0);
            t.due("when(1, 0)", x.when(1, 0), 99);
            x.says(0, 1, 4);
            t.due("when(3, 0)", x.when(3, 0), 99);
        });
        t.edge(18, WHEN, "in the last HOUR told", () -> {
            ThawWords x = Check.capeOf("place 0;frost 1 23;warm 1 1;sound 1;person 1 0;");
            x.says(0, 1, 1);
            t.due("when(0, 0)", x.when(0, 0), 23);
            x.go(22);
            t.due("when(0, 0) in HOUR 22", x.when(0, 0), 23);
        });
    }

    private static void whole() {
        t.edge(19, "`int whole(int k)`: WHOLE; NONE. BAD.", "k below 0", () -> {
            for (int k : BELOW) t.due("whole(" + k + ")", said().whole(k), BAD);
        });
        t.edge(19, "`int whole(int k)`: WHOLE; NONE. BAD.", "the first that was not said", () -> {
            for (int k : new int[] {3, 7, 8, GREATEST}) t.due("whole(" + k + ")", said().whole(k), BAD);
        });
        t.edge(19, WHOLE, "all was heard at once", () -> {
            ThawWords x = cape();
            x.says(0, 1, 4444);
            t.due("whole(0)", x.whole(0), 0);
        });
        t.edge(19, WHOLE, "the last that is heard isn't the last that was said", () -> t.due("whole(0)", said().whole(0), 2));
        t.edge(19, WHOLE, "the first, the last one said is heard last", () -> {
            ThawWords x = cape();
            x.says(0, 1, 241);
            x.says(0, 1, 142);
            t.due("whole(0)", x.whole(0), 2);
            t.due("whole(1)", x.whole(1), 2);
        });
        t.edge(19, WHOLE, "one of them never: NONE", () -> {
            ThawWords x = cape();
            x.says(0, 1, 3441);
            x.says(0, 1, 4413);
            t.due("whole(0)", x.whole(0), NONE);
            t.due("whole(1)", x.whole(1), NONE);
        });
        t.edge(19, WHOLE, "a single SOUND", () -> {
            t.due("whole(1)", said().whole(1), NONE);
            ThawWords x = cape();
            x.says(0, 1, 2);
            t.due("whole(0)", x.whole(0), 2);
        });
        t.edge(19, WHOLE, "a longer one was heard there ahead of anew()", () -> t.due("whole(0)", longerAheadOfAnew().whole(0), 0));
        t.edge(19, WHOLE, "all was heard by now", () -> {
            ThawWords x = said();
            x.go(99);
            t.due("whole(0)", x.whole(0), 2);
            x.lantern(0);
            t.due("whole(1), in HOUR 99", x.whole(1), 99);
        });
    }

    // SAYING 0, of one SOUND, is heard in HOUR 0, where one of four was heard in HOUR 5.
    private static ThawWords longerAheadOfAnew() {
        ThawWords x = cape();
        x.go(5);
        x.says(0, 1, 4444);
        x.anew();
        x.says(0, 1, 4);
        return x;
    }

    private static void hoursRefused() {
        String bad = "HOURS to say, as bits. BAD (hour 0 .. 99).";
        t.edge(20, bad, "hour too small", () -> {
            for (int hour : BELOW) t.due("hours(0, 0, " + hour + ")", cape().hours(0, 0, hour), BAD);
        });
        t.edge(20, bad, "hour too large", () -> {
            for (int hour : new int[] {100, 101, GREATEST}) t.due("hours(3, 0, " + hour + ")", cape().hours(3, 0, hour), BAD);
        });
        t.edge(20, bad, "hour 0 and 99", () -> {
            ThawWords x = cape();
            t.due("hours(3, 0, 0)", x.hours(3, 0, 0), 1);
            t.due("hours(3, 0, 99)", x.hours(3, 0, 99), 0);
            x.go(99);
            t.due("hours(3, 0, 99) in HOUR 99", x.hours(3, 0, 99), 1);
        });
        t.edge(20, bad, "a SOUND below 0, the first one not told", () -> {
            for (int sound : new int[] {-1, 4, 5, LEAST, GREATEST}) t.due("hours(" + sound + ", 0, 0)", cape().hours(sound, 0, 0), BAD);
        });
        t.edge(20, bad, "a PLACE below 0, the first one not told", () -> {
            for (int place : new int[] {-1, 2, 4, LEAST, GREATEST}) t.due("hours(0, " + place + ", 0)", cape().hours(0, place, 0), BAD);
        });
    }

    private static void hoursFromNow() {
        t.edge(20, HOURS, "at once", () -> {
            ThawWords x = cape();
            t.due("hours(3, 0, 0)", x.hours(3, 0, 0), 1);
            t.due("hours(3, 0, 2)", x.hours(3, 0, 2), 4);
        });
        t.edge(20, HOURS, "later: from the HOUR behind the last one in which it thaws", () -> {
            ThawWords x = Check.capeOf("place 0;warm 1 2;frost 1 3;warm 1 1;frost 1 2;warm 1 1;sound 1;");
            t.due("hours(0, 0, 5)", x.hours(0, 0, 5), 4 | 8 | 16 | 32);
            t.due("hours(0, 0, 8)", x.hours(0, 0, 8), 64 | 128 | 256);
        });
        t.edge(20, HOURS, "just in it: in no other HOUR", () -> {
            ThawWords x = cape();
            t.due("hours(0, 0, 0), too cold", x.hours(0, 0, 0), 0);
            t.due("hours(0, 0, 1)", x.hours(0, 0, 1), 3);
            t.due("hours(0, 0, 2), it thaws in 1, too", x.hours(0, 0, 2), 4);
            t.due("hours(2, 0, 9), never", x.hours(2, 0, 9), 0);
        });
        t.edge(20, HOURS, "a told HOUR that is behind", () -> {
            ThawWords x = cape();
            x.go(3);
            t.due("hours(3, 0, 2)", x.hours(3, 0, 2), 0);
            t.due("hours(3, 0, 0)", x.hours(3, 0, 0), 0);
        });
        t.edge(20, HOURS, "NOW: bit 0", () -> {
            ThawWords x = cape();
            x.go(3);
            t.due("hours(0, 0, 3)", x.hours(0, 0, 3), 1);
        });
        t.edge(20, HOURS, "HOURS ahead of NOW are none, though it was frost", () -> {
            ThawWords x = Check.capeOf("place 0;frost 1 5;warm 1 1;sound 1;");
            t.due("hours(0, 0, 5)", x.hours(0, 0, 5), 63);
            x.go(2);
            t.due("hours(0, 0, 5) from HOUR 2", x.hours(0, 0, 5), 15);
            x.go(3);
            t.due("hours(0, 0, 5) from HOUR 5", x.hours(0, 0, 5), 1);
        });
        t.edge(20, HOURS, "MELT is AIR, one above AIR", () -> {
            ThawWords x = Check.capeOf("place 1;warm 0 1;warm 3 1;sound 2;sound 3;");
            t.due("hours(0, 0, 1)", x.hours(0, 0, 1), 3);
            t.due("hours(1, 0, 1)", x.hours(1, 0, 1), 0);
        });
        t.edge(20, HOURS, "a LANTERN that is held NOW: at once by it", () -> {
            ThawWords x = cape();
            t.due("hours(1, 0, 2)", x.hours(1, 0, 2), 7);
            x.lantern(0);
            t.due("hours(1, 0, 0)", x.hours(1, 0, 0), 1);
            t.due("hours(1, 0, 2) but not NOW", x.hours(1, 0, 2), 6);
            t.due("hours(2, 0, 0), too high", x.hours(2, 0, 0), 0);
            t.due("hours(1, 1, 3), elsewhere", x.hours(1, 1, 3), 15);
        });
    }

    private static void hoursToTheEnd() {
        t.edge(20, HOURS, "to NOW and 23", () -> {
            ThawWords x = Check.capeOf("place 0;frost 1 23;warm 1 1;sound 1;");
            t.due("hours(0, 0, 23)", x.hours(0, 0, 23), (1 << 24) - 1);
        });
        t.edge(20, HOURS, "not to NOW and 24", () -> {
            ThawWords x = cape();
            t.due("hours(3, 0, 23)", x.hours(3, 0, 23), 1 << 23);
            t.due("hours(3, 0, 24)", x.hours(3, 0, 24), 0);
            t.due("hours(3, 0, 31)", x.hours(3, 0, 31), 0);
            t.due("hours(3, 0, 32), no wrap-around", x.hours(3, 0, 32), 0);
            t.due("hours(3, 0, 99)", x.hours(3, 0, 99), 0);
            x.go(1);
            t.due("hours(3, 0, 24) from HOUR 1", x.hours(3, 0, 24), 1 << 23);
            t.due("hours(3, 0, 25) from HOUR 1", x.hours(3, 0, 25), 0);
        });
        t.edge(20, HOURS, "99 at most", () -> {
            ThawWords x = cape();
            x.go(76);
            t.due("hours(3, 0, 99) from HOUR 76", x.hours(3, 0, 99), 1 << 23);
            x.go(14);
            t.due("hours(3, 0, 99) from HOUR 90", x.hours(3, 0, 99), 1 << 9);
            x.go(9);
            t.due("hours(3, 0, 99) from HOUR 99", x.hours(3, 0, 99), 1);
            t.due("hours(2, 0, 99), too cold", x.hours(2, 0, 99), 0);
            t.due("hours(3, 0, 98)", x.hours(3, 0, 98), 0);
            x.lantern(0);
            t.due("hours(2, 0, 99) by a LANTERN", x.hours(2, 0, 99), 1);
        });
        t.edge(20, HOURS, "no weather was told", () -> {
            ThawWords x = Check.capeOf("place 0;sound 0;sound 1;");
            t.due("hours(0, 0, 4)", x.hours(0, 0, 4), 16);
            t.due("hours(1, 0, 4)", x.hours(1, 0, 4), 0);
        });
    }

    private static void fits() {
        t.edge(21, "`int fits(int p)`: FITS, as bits. BAD.", "one below 0", () -> {
            for (int p : BELOW) t.due("fits(" + p + ")", said().fits(p), BAD);
        });
        t.edge(21, "`int fits(int p)`: FITS, as bits. BAD.", "the first one that was not told", () -> {
            for (int p : new int[] {3, 4, GREATEST}) t.due("fits(" + p + ")", said().fits(p), BAD);
        });
        t.edge(21, FITS, "nothing was said", () -> t.due("fits(0)", cape().fits(0), 0));
        t.edge(21, FITS, "nothing was heard", () -> {
            ThawWords x = said();
            x.goes(0, 1);
            t.due("fits(0)", said().fits(0), 0);
            ThawWords y = cape();
            y.says(0, 1, 1);
            t.due("fits(0) of what hangs", y.fits(0), 0);
        });
        t.edge(21, FITS, "all of it but the last SOUND", () -> {
            ThawWords x = Check.capeOf("place 0;sound 0;cold 1;sound 1;person 1 0;");
            x.says(0, 1, 123);
            t.due("fits(0)", x.fits(0), 0);
            x.lantern(0);
            t.due("fits(0) by a LANTERN", x.fits(0), 1);
        });
        t.edge(21, FITS, "in another order", () -> {
            ThawWords x = Check.capeOf("place 0;sound 0;cold 1;sound 1;person 1 0;");
            x.says(0, 1, 31);
            x.lantern(0);
            t.due("fits(0), 0 ahead of 2", x.fits(0), 0);
        });
        t.edge(21, FITS, "others between", () -> {
            ThawWords x = Check.capeOf("place 0;place 0;sound 0;cold 1;sound 1;person 1 0;person 1 1;");
            x.says(0, 1, 1222);
            x.says(0, 1, 1);
            x.says(1, 1, 11);
            t.due("fits(0)", x.fits(0), 7);
            t.due("fits(1)", x.fits(1), 2 | 4);
        });
        t.edge(21, FITS, "a SOUND is found as often as it is said", () -> {
            ThawWords x = Check.capeOf("place 0;place 0;sound 0;person 1 0;person 1 1;");
            x.says(0, 1, 11);
            x.says(1, 1, 111);
            t.due("fits(0)", x.fits(0), 1);
            t.due("fits(1)", x.fits(1), 3);
        });
        t.edge(21, FITS, "of whichever SAYING: one said elsewhere", () -> {
            ThawWords x = Check.capeOf("place 0;place 0;sound 0;cold 1;person 1 0;person 1 1;");
            x.says(0, 1, 12);
            x.says(1, 1, 1);
            t.due("fits(1)", x.fits(1), 2);
            x.says(1, 1, 2);
            t.due("fits(1) by pieces of two", x.fits(1), 1 | 2 | 4);
        });
        t.edge(21, FITS, "all eight", () -> {
            ThawWords x = Check.capeOf("place 0;sound 0;person 1 0;");
            for (int k = 0; k < 8; k++) x.says(0, 1, 1111);
            t.due("fits(0)", x.fits(0), 255);
        });
        t.edge(21, FITS, "the eighth alone", () -> {
            ThawWords x = Check.capeOf("place 0;sound 1;sound 0;person 1 0;");
            for (int k = 0; k < 7; k++) x.says(0, 1, 1);
            x.says(0, 1, 2);
            t.due("fits(0)", x.fits(0), 128);
        });
    }

    // AIR 0, -3, -6, and 5 more by a LANTERN; SOUNDS 0 .. 3 MELT at 2, 5, 6, -1.
    private static ThawWords threePlaces() {
        return Check.capeOf("place 0;place 3;place 6;sound 2;sound 5;sound 6;cold 1;person 0 0;person 0 1;person 0 2;");
    }

    private static void lanternsOfNone() {
        t.edge(22, LANTERNS, "0: no SAYING at all", () -> {
            t.due("lanterns(0, 0)", threePlaces().lanterns(0, 0), 0);
            t.due("lanterns(255, 255)", threePlaces().lanterns(255, 255), 0);
            t.due("lanterns(-1, -1)", new ThawWords().lanterns(-1, -1), 0);
        });
        t.edge(22, LANTERNS, "0: none is told", () -> {
            ThawWords x = threePlaces();
            x.says(0, 1, 1);
            t.due("lanterns(0, 0)", x.lanterns(0, 0), 0);
            t.due("lanterns(0, 1)", x.lanterns(0, 1), 0);
        });
        t.edge(22, LANTERNS, "0: those told hang no more", () -> {
            ThawWords x = threePlaces();
            x.says(0, 1, 4);
            x.says(0, 1, 1);
            t.due("lanterns(1, 0)", x.lanterns(1, 0), 0);
            t.due("lanterns(1, 2)", x.lanterns(1, 2), 0);
            x.lantern(0);
            t.due("lanterns(3, 0)", x.lanterns(3, 0), 0);
        });
        t.edge(22, LEFT_OUT, "bits of SAYINGS that there are not", () -> {
            ThawWords x = threePlaces();
            x.says(0, 1, 1);
            t.due("lanterns(2, 0)", x.lanterns(2, 0), 0);
            t.due("lanterns(1 | 2, 0)", x.lanterns(3, 0), 1);
            t.due("lanterns(1, 2)", x.lanterns(1, 2), 1);
            t.due("lanterns(1 << 8, 0)", x.lanterns(1 << 8, 0), 0);
            t.due("lanterns(1 | 1 << 8 | 1 << 30, 1 << 8)", x.lanterns(1 | 1 << 8 | 1 << 30, 1 << 8), 1);
            t.due("lanterns(greatest, 0)", x.lanterns(GREATEST, 0), 1);
        });
        t.edge(22, LEFT_OUT, "numbers below 0 are bits, too", () -> {
            ThawWords x = threePlaces();
            x.says(0, 1, 1);
            t.due("lanterns(least, 0)", x.lanterns(LEAST, 0), 0);
            t.due("lanterns(-1, 0)", x.lanterns(-1, 0), 1);
            t.due("lanterns(-1, -2)", x.lanterns(-1, -2), 1);
            t.due("lanterns(1, least)", x.lanterns(1, LEAST), 1);
        });
        t.edge(22, LEFT_OUT, "SAYINGS that were said ahead of anew()", () -> {
            ThawWords x = threePlaces();
            x.says(0, 1, 1);
            x.says(1, 1, 1);
            x.anew();
            x.says(2, 1, 4);
            t.due("lanterns(3, 2)", x.lanterns(3, 2), 4);
        });
    }

    private static void lanternsHeard() {
        t.edge(22, LANTERNS, "MELT is AIR and 5; one above", () -> {
            ThawWords x = threePlaces();
            x.says(0, 1, 2);
            x.says(0, 1, 3);
            t.due("lanterns(1, 0)", x.lanterns(1, 0), 1);
            t.due("lanterns(2, 0)", x.lanterns(2, 0), NONE);
        });
        t.edge(22, LANTERNS, "all that HANGS of it, not a part", () -> {
            ThawWords x = threePlaces();
            x.says(0, 1, 2111);
            x.says(0, 1, 1113);
            x.says(0, 1, 3111);
            t.due("lanterns(1, 0)", x.lanterns(1, 0), 1);
            t.due("lanterns(2, 0)", x.lanterns(2, 0), NONE);
            t.due("lanterns(4, 0)", x.lanterns(4, 0), NONE);
        });
        t.edge(22, LANTERNS, "all told ones, not some", () -> {
            ThawWords x = threePlaces();
            x.says(0, 1, 1);
            x.says(0, 1, 3);
            x.says(1, 1, 3);
            t.due("lanterns(1 | 2, 0)", x.lanterns(3, 0), NONE);
            t.due("lanterns(1 | 4, 0)", x.lanterns(5, 0), NONE);
        });
        t.edge(22, LANTERNS, "those ahead of it HANG elsewhere", () -> {
            ThawWords x = threePlaces();
            x.says(1, 1, 1);
            x.says(0, 1, 3);
            x.says(0, 1, 2);
            x.says(0, 1, 2);
            t.due("lanterns(2, 0)", x.lanterns(2, 0), NONE);
            t.due("lanterns(4, 8)", x.lanterns(4, 8), NONE);
            t.due("lanterns(4, 1 | 2)", x.lanterns(4, 3), 1);
        });
        t.edge(22, LANTERNS, "at several PLACES, the last one, too", () -> {
            ThawWords x = threePlaces();
            x.says(0, 1, 1);
            x.says(1, 1, 1);
            x.says(2, 1, 4);
            t.due("lanterns(1 | 4, 0)", x.lanterns(5, 0), 5);
            t.due("lanterns(7, 0)", x.lanterns(7, 0), 7);
        });
        t.edge(22, LANTERNS, "what HANGS no more of a told one", () -> {
            ThawWords x = Check.capeOf("place 0;sound 0;sound 3;person 1 0;");
            x.says(0, 1, 12);
            t.due("lanterns(1, 0)", x.lanterns(1, 0), 1);
        });
        t.edge(22, LANTERNS, "a LANTERN is held already where told ones HANG", () -> {
            ThawWords x = threePlaces();
            x.lantern(0);
            x.says(0, 1, 3);
            x.says(1, 1, 1);
            t.due("lanterns(1, 0)", x.lanterns(1, 0), NONE);
            t.due("lanterns(1 | 2, 0)", x.lanterns(3, 0), NONE);
        });
        t.edge(22, LANTERNS, "a LANTERN is held already elsewhere", () -> {
            ThawWords x = threePlaces();
            x.lantern(0);
            x.says(1, 1, 1);
            t.due("lanterns(1, 0)", x.lanterns(1, 0), 2);
        });
        t.edge(22, LANTERNS, "now: one that was held is out", () -> {
            ThawWords x = threePlaces();
            x.says(0, 1, 3);
            x.lantern(0);
            x.says(0, 1, 2);
            x.go(1);
            x.says(0, 1, 2);
            t.due("lanterns(4, 0)", x.lanterns(4, 0), 1);
        });
    }

    private static void lanternsOfOthers() {
        t.edge(22, LANTERNS, "another one would be heard", () -> {
            ThawWords x = threePlaces();
            x.says(0, 1, 1);
            x.says(0, 1, 2);
            t.due("lanterns(1, 2)", x.lanterns(1, 2), NONE);
            t.due("lanterns(2, 1)", x.lanterns(2, 1), NONE);
        });
        t.edge(22, LANTERNS, "one SOUND of another one would be heard", () -> {
            ThawWords x = threePlaces();
            x.says(0, 1, 1);
            x.says(0, 1, 3133);
            t.due("lanterns(1, 2)", x.lanterns(1, 2), NONE);
        });
        t.edge(22, LANTERNS, "another one is one above AIR", () -> {
            ThawWords x = threePlaces();
            x.says(0, 1, 1);
            x.says(0, 1, 3);
            t.due("lanterns(1, 2)", x.lanterns(1, 2), 1);
        });
        t.edge(22, LANTERNS, "another one HANGS where no LANTERN is to be held", () -> {
            ThawWords x = threePlaces();
            x.says(0, 1, 1);
            x.says(1, 1, 1);
            t.due("lanterns(1, 2)", x.lanterns(1, 2), 1);
            t.due("lanterns(2, 1)", x.lanterns(2, 1), 2);
        });
        t.edge(22, LANTERNS, "another one HANGS no more, or in part", () -> {
            ThawWords x = threePlaces();
            x.says(0, 1, 1);
            x.says(0, 1, 4);
            x.says(0, 1, 43);
            t.due("lanterns(1, 2)", x.lanterns(1, 2), 1);
            t.due("lanterns(1, 4)", x.lanterns(1, 4), 1);
        });
        t.edge(22, LANTERNS, "another one HANGS no more, a longer one HUNG there ahead of anew()", () -> {
            ThawWords x = threePlaces();
            x.says(0, 1, 1111);
            x.anew();
            x.says(0, 1, 4);
            x.says(0, 1, 1);
            t.due("lanterns(2, 1)", x.lanterns(2, 1), 1);
        });
        t.edge(22, LANTERNS, "one that isn't told on either side does not matter", () -> {
            ThawWords x = threePlaces();
            x.says(0, 1, 1);
            x.says(0, 1, 2);
            t.due("lanterns(1, 0)", x.lanterns(1, 0), 1);
        });
        t.edge(22, LANTERNS, "the eighth on either side", () -> {
            ThawWords x = threePlaces();
            for (int k = 0; k < 7; k++) x.says(0, 1, 4);
            x.says(0, 1, 1);
            t.due("lanterns(128, 0)", x.lanterns(128, 0), 1);
            t.due("lanterns(128, 127)", x.lanterns(128, 127), 1);
            ThawWords y = threePlaces();
            y.says(0, 1, 1);
            for (int k = 1; k < 8; k++) y.says(0, 1, k < 7 ? 4 : 2);
            t.due("lanterns(1, 128)", y.lanterns(1, 128), NONE);
        });
    }

    private static void answers() {
        String bad = "ANSWERS: whether k can answer l: 1, 0. BAD (alike, too).";
        t.edge(23, bad, "alike", () -> {
            for (int k = 0; k < 3; k++) t.due("answers(" + k + ", " + k + ")", said().answers(k, k), BAD);
        });
        t.edge(23, bad, "below 0", () -> {
            for (int k : BELOW) {
                t.due("answers(" + k + ", 0)", said().answers(k, 0), BAD);
                t.due("answers(0, " + k + ")", said().answers(0, k), BAD);
                t.due("answers(" + k + ", " + k + ")", said().answers(k, k), BAD);
            }
        });
        t.edge(23, bad, "the first that was not said", () -> {
            for (int k : new int[] {3, 7, 8, GREATEST}) {
                t.due("answers(" + k + ", 0)", said().answers(k, 0), BAD);
                t.due("answers(0, " + k + ")", said().answers(0, k), BAD);
            }
        });
        t.edge(23, ANSWERS, "heard in the same HOUR", () -> {
            ThawWords x = cape();
            x.says(0, 1, 4);
            x.says(0, 1, 4);
            t.due("answers(1, 0)", x.answers(1, 0), 0);
            t.due("answers(0, 1)", x.answers(0, 1), 0);
        });
        t.edge(23, ANSWERS, "heard in the HOUR below", () -> {
            ThawWords x = cape();
            x.says(0, 1, 4);
            x.go(1);
            x.says(0, 1, 4);
            t.due("answers(1, 0)", x.answers(1, 0), 1);
            t.due("answers(0, 1)", x.answers(0, 1), 0);
        });
        t.edge(23, ANSWERS, "one of its SOUNDS was heard in the same HOUR, first or last", () -> {
            ThawWords x = cape();
            x.says(0, 1, 4441);
            x.says(0, 1, 1444);
            x.go(1);
            x.says(0, 1, 4);
            t.due("answers(2, 0)", x.answers(2, 0), 0);
            t.due("answers(2, 1)", x.answers(2, 1), 0);
            x.go(1);
            x.says(0, 1, 4);
            t.due("answers(3, 0)", x.answers(3, 0), 1);
            t.due("answers(3, 1)", x.answers(3, 1), 1);
        });
        t.edge(23, ANSWERS, "one of its SOUNDS still HANGS", () -> {
            ThawWords x = cape();
            x.says(0, 1, 43);
            x.says(0, 1, 34);
            x.go(99);
            x.says(0, 1, 4);
            t.due("answers(2, 0)", x.answers(2, 0), 0);
            t.due("answers(2, 1)", x.answers(2, 1), 0);
        });
        t.edge(23, ANSWERS, "a longer one was heard there ahead of anew()", () -> {
            ThawWords x = longerAheadOfAnew();
            x.go(1);
            x.says(0, 1, 4);
            t.due("answers(1, 0)", x.answers(1, 0), 1);
        });
        t.edge(23, ANSWERS, "it was heard since, behind the answer", () -> {
            ThawWords x = cape();
            x.says(0, 1, 2);
            x.go(1);
            x.says(0, 1, 4);
            x.go(9);
            t.due("answers(1, 0)", x.answers(1, 0), 0);
        });
        t.edge(23, ANSWERS, "the answer itself may HANG, said by whomever, wherever", () -> {
            ThawWords x = cape();
            x.says(0, 1, 4);
            x.go(1);
            x.says(2, 1, 3);
            t.due("answers(1, 0)", x.answers(1, 0), 1);
            t.due("answers(0, 1)", x.answers(0, 1), 0);
        });
    }

    private static void spoke() {
        t.edge(24, "`int spoke(int k)`: SPOKE, as bits. BAD.", "k below 0", () -> {
            for (int k : BELOW) t.due("spoke(" + k + ")", said().spoke(k), BAD);
        });
        t.edge(24, "`int spoke(int k)`: SPOKE, as bits. BAD.", "the first that was not said", () -> {
            for (int k : new int[] {3, 7, 8, GREATEST}) t.due("spoke(" + k + ")", said().spoke(k), BAD);
        });
        t.edge(24, SPOKE, "one off, below and above; two off", () -> {
            ThawWords x = Check.capeOf("place 0;sound 0;person 3 0;person 4 0;person 5 0;person 6 0;");
            int[] told = {3, 7, 14, 12};
            for (int p = 0; p < 4; p++) {
                x.says(p, 1, 1);
                t.due("spoke(" + p + ")", x.spoke(p), told[p]);
            }
        });
        t.edge(24, SPOKE, "PITCH 0 and 9: no wrap-around", () -> {
            ThawWords x = Check.capeOf("place 0;sound 0;person 0 0;person 9 0;person 1 0;person 8 0;");
            x.says(0, 1, 1);
            x.says(1, 1, 1);
            t.due("spoke(0)", x.spoke(0), 1 | 4);
            t.due("spoke(1)", x.spoke(1), 2 | 8);
        });
        t.edge(24, SPOKE, "nobody else: who said it", () -> {
            ThawWords x = cape();
            x.says(2, 1, 1);
            t.due("spoke(0)", x.spoke(0), 4);
        });
        t.edge(24, SPOKE, "all four", () -> {
            ThawWords x = Check.capeOf("place 0;sound 9;person 5 0;person 4 0;person 5 0;person 6 0;");
            x.says(0, 1, 1);
            t.due("spoke(0)", x.spoke(0), 15);
        });
        t.edge(24, SPOKE, "as it was said, not NOW", () -> {
            ThawWords x = said();
            x.goes(1, 1);
            x.goes(2, 0);
            x.go(9);
            t.due("spoke(0)", x.spoke(0), 3);
            t.due("spoke(2)", x.spoke(2), 4);
        });
        t.edge(24, SPOKE, "as it was said, not at first", () -> {
            ThawWords x = cape();
            x.goes(2, 0);
            x.goes(0, 1);
            x.says(1, 1, 1);
            t.due("spoke(0)", x.spoke(0), 2 | 4);
        });
    }

    private static void fraction(ThawWords x, int sound, int place, int d, int n, long upper, long lower) {
        String call = "odds(" + sound + ", " + place + ", " + d + ", " + n;
        t.due(call + ", 0)", x.odds(sound, place, d, n, 0), upper);
        t.due(call + ", 1)", x.odds(sound, place, d, n, 1), lower);
    }

    private static void oddsRefused() {
        t.edge(25, LEAST_TERMS, "a SOUND below 0, the first one not told", () -> {
            for (int sound : new int[] {-1, 4, 5, LEAST, GREATEST}) {
                t.due("odds(" + sound + ", 0, 1, 1, 0)", cape().odds(sound, 0, 1, 1, 0), NO);
            }
        });
        t.edge(25, LEAST_TERMS, "a PLACE below 0, the first one not told", () -> {
            for (int place : new int[] {-1, 2, 4, LEAST, GREATEST}) {
                t.due("odds(0, " + place + ", 1, 1, 0)", cape().odds(0, place, 1, 1, 0), NO);
            }
        });
        t.edge(25, LEAST_TERMS, "what too small, too large", () -> {
            for (int what : new int[] {-1, 2, LEAST, GREATEST}) {
                t.due("odds(0, 0, 1, 1, " + what + ")", cape().odds(0, 0, 1, 1, what), NO);
            }
        });
        t.edge(25, ODDS, "d too small, too large", () -> {
            for (int d : new int[] {-1, 4, LEAST, GREATEST}) t.due("odds(0, 0, " + d + ", 1, 0)", cape().odds(0, 0, d, 1, 0), NO);
        });
        t.edge(25, ODDS, "n too small, too large", () -> {
            for (int n : new int[] {0, -1, 7, LEAST, GREATEST}) t.due("odds(0, 0, 1, " + n + ", 0)", cape().odds(0, 0, 1, n, 0), NO);
        });
    }

    private static void odds() {
        // AIR 0 and -2 in each HOUR; SOUNDS 0 .. 4 MELT at 0, 1, 3, 4, -1.
        String still = "place 0;place 2;sound 0;sound 1;sound 3;sound 4;cold 1;person 1 0;";
        t.edge(25, ODDS, "d 0: as told", () -> {
            fraction(Check.capeOf(still), 0, 0, 0, 1, 1, 1);
            fraction(Check.capeOf(still), 1, 0, 0, 6, 0, 1);
        });
        t.edge(25, ODDS, "d 3, n 6", () -> {
            fraction(Check.capeOf(still), 1, 0, 3, 6, 117649 - 4096, 117649);
            fraction(Check.capeOf(still), 2, 0, 3, 6, 117649 - 46656, 117649);
        });
        t.edge(25, ODDS, "n 1: the next HOUR, not this one", () -> {
            ThawWords x = Check.capeOf("place 0;warm 9 1;frost 1 1;warm 0 1;sound 0;");
            fraction(x, 0, 0, 0, 1, 0, 1);
            fraction(x, 0, 0, 0, 2, 1, 1);
            fraction(x, 0, 0, 1, 1, 1, 3);
        });
        t.edge(25, ODDS, "MELT is d above AIR; one more", () -> {
            fraction(Check.capeOf(still), 2, 0, 3, 1, 1, 7);
            fraction(Check.capeOf(still), 3, 0, 3, 6, 0, 1);
            fraction(Check.capeOf(still), 1, 0, 1, 1, 1, 3);
        });
        t.edge(25, ODDS, "AIR less d is MELT; one less", () -> {
            fraction(Check.capeOf(still), 4, 0, 1, 1, 1, 1);
            fraction(Check.capeOf(still), 4, 0, 2, 1, 4, 5);
        });
        t.edge(25, ODDS, "beyond 99, too", () -> {
            ThawWords x = Check.capeOf(still);
            x.go(99);
            fraction(x, 1, 0, 1, 6, 729 - 64, 729);
            ThawWords y = Check.capeOf(still);
            y.go(97);
            fraction(y, 1, 0, 1, 4, 65, 81);
        });
        t.edge(25, ODDS, "behind the last HOUR told", () -> {
            ThawWords x = Check.capeOf("place 0;warm 9 1;frost 2 1;sound 0;");
            fraction(x, 0, 0, 2, 2, 9, 25);
            x.go(1);
            fraction(x, 0, 0, 2, 1, 1, 5);
        });
        t.edge(25, ODDS, "a LANTERN that is held NOW is out in the HOURS that come", () -> {
            ThawWords x = Check.capeOf(still);
            x.lantern(0);
            fraction(x, 1, 0, 0, 6, 0, 1);
        });
        t.edge(25, ODDS, "COLDER", () -> fraction(Check.capeOf(still), 0, 1, 2, 1, 1, 5));
        t.edge(25, LEAST_TERMS, "never: 0 of 1", () -> fraction(Check.capeOf(still), 3, 1, 3, 6, 0, 1));
        t.edge(25, LEAST_TERMS, "always: 1 of 1", () -> fraction(Check.capeOf(still), 4, 0, 1, 6, 1, 1));
        t.edge(25, LEAST_TERMS, "what both have in common is left out", () -> {
            // 9 of 27 weathers; 63 of 81.
            fraction(Check.capeOf("place 0;warm 0 1;frost 2 1;frost 1 1;frost 2 1;sound 0;"), 0, 0, 1, 3, 1, 3);
            fraction(Check.capeOf("place 0;warm 9 1;frost 2 1;frost 1 1;warm 0 1;warm 1 1;sound 1;"), 0, 0, 1, 4, 7, 9);
        });
    }
}
