import java.lang.reflect.Field;
import java.lang.reflect.Method;

// The edges of promises 9 to 17: what is said, who goes, lanterns, hours that go by, what is heard.
public final class EdgesHoursTest {
    private static final int BAD = Edges.BAD, FULL = Edges.FULL, STATE = Edges.STATE, NOT_SO_MANY = Edges.NOT_SO_MANY;
    private static final int LEAST = Edges.LEAST, GREATEST = Edges.GREATEST;
    private static final int[] BELOW = {-1, LEAST};

    private static final String SAYS = "One SAYS SOUNDS (figures 1 .. 5, one more than each number, the first one the highest;"
        + " 1 to 4 of them): the number of the SAYING. BAD; FULL.";
    private static final String ORDER = "Refused, and nothing changes, the first of these:"
        + " BAD (a number is not as told, or there is no such thing), STATE (as told), FULL.";
    private static final String HANGS = "Each SOUND in its order: is its MELT above AIR, it HANGS there; else it is heard at once.";
    private static final String HEARD = "What is heard, is heard by all who stand there then (the one who says it, too):"
        + " it comes behind what each HEARD (60 at most; what is beyond is lost).";
    private static final String MELTING = "MELTING at a PLACE: of what HANGS there all that has MELT AIR at most is heard:"
        + " the LOUDEST SAYING first, of several the earlier one, of each its SOUNDS in their order.";
    private static final String GOES_BY = "An HOUR goes by: LANTERNS go out, it is the next HOUR, then there is MELTING at PLACE 0, 1, .. .";

    private static final Edges t = new Edges();

    public static void main(String[] args) {
        whoSays();
        howLoud();
        whichSounds();
        sayingIsFull();
        hangsOrIsHeard();
        isHeardBy();
        heardIsFull();
        goes();
        lantern();
        melting();
        go();
        goesBy();
        saying();
        soundOf();
        heard();
        now();
        anew();
        t.end(9, 10, 11, 12, 13, 14, 15, 16, 17);
    }

    // AIR is 0 and -2; SOUNDS 0, 1, 2 MELT at 0, 1, -3.
    private static ThawWords twoPlaces() {
        return Check.capeOf("place 0;place 2;sound 0;sound 1;cold 3;person 5 0;person 6 0;person 7 1;");
    }

    private static ThawWords allSounds() {
        return Check.capeOf("place 0;sound 1;sound 2;sound 3;sound 4;sound 5;person 5 0;");
    }

    private static void whoSays() {
        t.edge(9, SAYS, "one below 0", () -> {
            ThawWords x = twoPlaces();
            for (int p : BELOW) t.due("says(" + p + ", 1, 1)", x.says(p, 1, 1), BAD);
            t.due("now(2)", x.now(2), 0);
        });
        t.edge(9, SAYS, "the first one that was not told", () -> {
            ThawWords x = twoPlaces();
            t.due("says(2, 1, 1)", x.says(2, 1, 1), 0);
            for (int p : new int[] {3, 4, GREATEST}) t.due("says(" + p + ", 1, 1)", x.says(p, 1, 1), BAD);
            t.due("now(2)", x.now(2), 1);
        });
    }

    private static void howLoud() {
        String loud = "One SAYS a SAYING (8 ever) where it stands: 1 to 4 SOUNDS, LOUD 1 .. 9.";
        t.edge(9, loud, "LOUD too small: 0 and below", () -> {
            ThawWords x = twoPlaces();
            for (int much : new int[] {0, -1, -9, LEAST}) t.due("says(0, " + much + ", 1)", x.says(0, much, 1), BAD);
            t.due("now(2)", x.now(2), 0);
        });
        t.edge(9, loud, "LOUD too large: 10 and above", () -> {
            ThawWords x = twoPlaces();
            for (int much : new int[] {10, 11, 257, GREATEST}) t.due("says(0, " + much + ", 1)", x.says(0, much, 1), BAD);
            t.due("now(2)", x.now(2), 0);
        });
        t.edge(9, loud, "LOUD 1 and 9", () -> {
            ThawWords x = twoPlaces();
            t.due("says(0, 1, 1)", x.says(0, 1, 1), 0);
            t.due("says(0, 9, 1)", x.says(0, 9, 1), 1);
            t.due("saying(0, 3)", x.saying(0, 3), 1);
            t.due("saying(1, 3)", x.saying(1, 3), 9);
        });
    }

    private static void refusesSounds(ThawWords x, int... figures) {
        for (int sounds : figures) t.due("says(0, 1, " + sounds + ")", x.says(0, 1, sounds), BAD);
        t.due("now(2)", x.now(2), 0);
        t.due("now(1)", x.now(1), 0);
        t.due("person(0, 2)", x.person(0, 2), 0);
    }

    private static void whichSounds() {
        t.edge(9, SAYS, "no SOUND: 0", () -> refusesSounds(twoPlaces(), 0));
        t.edge(9, SAYS, "figures below 0", () -> refusesSounds(twoPlaces(), -1, -11, -1111, -4, LEAST));
        t.edge(9, SAYS, "five SOUNDS and more", () -> refusesSounds(twoPlaces(), 11111, 10000, 12312, 111111, 1111111111, GREATEST));
        t.edge(9, SAYS, "a figure 0", () -> refusesSounds(twoPlaces(), 10, 101, 110, 1011, 1101, 1110, 1001, 1000, 100));
        t.edge(9, SAYS, "a figure 6 and above", () -> refusesSounds(allSounds(), 6, 7, 8, 9, 61, 16, 161, 1116, 6111, 9999));
        t.edge(9, SAYS, "a figure of a SOUND that was not told", () -> refusesSounds(twoPlaces(), 4, 41, 14, 1114, 4111, 1411, 5));
        t.edge(9, SAYS, "a cape without SOUNDS", () -> refusesSounds(Check.capeOf("place 0;person 1 0;"), 1, 5, 1111));
        t.edge(9, SAYS, "figures 1 and 5", () -> {
            ThawWords x = allSounds();
            t.due("says(0, 1, 15)", x.says(0, 1, 15), 0);
            t.due("soundOf(0, 0)", x.soundOf(0, 0), 0);
            t.due("soundOf(0, 1)", x.soundOf(0, 1), 4);
        });
        t.edge(9, SAYS, "1 SOUND", () -> {
            ThawWords x = allSounds();
            t.due("says(0, 1, 5)", x.says(0, 1, 5), 0);
            t.due("saying(0, 4)", x.saying(0, 4), 1);
        });
        t.edge(9, SAYS, "4 SOUNDS, the first one the highest", () -> {
            ThawWords x = allSounds();
            t.due("says(0, 1, 5132)", x.says(0, 1, 5132), 0);
            t.due("saying(0, 4)", x.saying(0, 4), 4);
            int[] told = {4, 0, 2, 1};
            for (int i = 0; i < 4; i++) t.due("soundOf(0, " + i + ")", x.soundOf(0, i), told[i]);
        });
        t.edge(9, SAYS, "the least and the greatest of each length", () -> {
            ThawWords x = allSounds();
            int[] figures = {1, 5, 11, 55, 111, 555, 1111, 5555};
            for (int k = 0; k < 8; k++) {
                t.due("says(0, 1, " + figures[k] + ")", x.says(0, 1, figures[k]), k);
                t.due("saying(" + k + ", 4)", x.saying(k, 4), k / 2 + 1);
                t.due("soundOf(" + k + ", " + k / 2 + ")", x.soundOf(k, k / 2), k % 2 == 0 ? 0 : 4);
            }
        });
    }

    private static void sayingIsFull() {
        String ever = "One SAYS a SAYING (8 ever)";
        t.edge(9, ever, "the eighth", () -> {
            ThawWords x = twoPlaces();
            for (int k = 0; k < 8; k++) t.due("says(0, 1, 2)", x.says(0, 1, 2), k);
            t.due("now(2)", x.now(2), 8);
            t.due("now(1)", x.now(1), 8);
        });
        t.edge(9, ever, "a ninth, while they hang", () -> {
            ThawWords x = twoPlaces();
            for (int k = 0; k < 8; k++) x.says(0, 1, 2);
            t.due("says(0, 1, 2)", x.says(0, 1, 2), FULL);
            t.due("says(2, 9, 1)", x.says(2, 9, 1), FULL);
            t.due("now(2)", x.now(2), 8);
            t.due("now(1)", x.now(1), 8);
        });
        t.edge(9, ever, "a ninth, when none hangs: ever", () -> {
            ThawWords x = twoPlaces();
            for (int k = 0; k < 8; k++) x.says(0, 1, 1);
            t.due("now(1)", x.now(1), 0);
            t.due("says(0, 1, 1)", x.says(0, 1, 1), FULL);
            t.due("person(0, 2)", x.person(0, 2), 8);
            x.go(5);
            t.due("says(0, 1, 1) hours later", x.says(0, 1, 1), FULL);
            t.due("now(2)", x.now(2), 8);
        });
        t.edge(9, ORDER, "BAD is ahead of FULL", () -> {
            ThawWords x = twoPlaces();
            for (int k = 0; k < 8; k++) x.says(0, 1, 2);
            t.due("says(3, 1, 1)", x.says(3, 1, 1), BAD);
            t.due("says(-1, 1, 1)", x.says(-1, 1, 1), BAD);
            t.due("says(0, 0, 1)", x.says(0, 0, 1), BAD);
            t.due("says(0, 10, 1)", x.says(0, 10, 1), BAD);
            t.due("says(0, 1, 0)", x.says(0, 1, 0), BAD);
            t.due("says(0, 1, 4)", x.says(0, 1, 4), BAD);
            t.due("says(0, 1, 11111)", x.says(0, 1, 11111), BAD);
        });
        t.edge(9, "anew()`: NOW is as at first", "eight more behind anew()", () -> {
            ThawWords x = twoPlaces();
            for (int k = 0; k < 8; k++) x.says(0, 1, 2);
            x.anew();
            for (int k = 0; k < 8; k++) t.due("says(0, 1, 2)", x.says(0, 1, 2), k);
            t.due("a ninth", x.says(0, 1, 2), FULL);
        });
    }

    private static void hangsOrIsHeard() {
        t.edge(9, HANGS, "MELT is AIR: heard at once", () -> {
            ThawWords x = twoPlaces();
            x.says(0, 1, 1);
            t.due("saying(0, 5)", x.saying(0, 5), 0);
            t.due("person(0, 2)", x.person(0, 2), 1);
            t.due("when(0, 0)", x.when(0, 0), 0);
        });
        t.edge(9, HANGS, "MELT is one above AIR: it hangs", () -> {
            ThawWords x = twoPlaces();
            x.says(0, 1, 2);
            t.due("saying(0, 5)", x.saying(0, 5), 1);
            t.due("person(0, 2)", x.person(0, 2), 0);
        });
        t.edge(9, HANGS, "AIR of the PLACE where it stands", () -> {
            ThawWords x = twoPlaces();
            x.says(2, 1, 1);
            t.due("MELT 0 in AIR -2 hangs", x.saying(0, 5), 1);
            x.says(2, 1, 3);
            t.due("MELT -3 in AIR -2 is heard", x.saying(1, 5), 0);
        });
        t.edge(9, HANGS, "AIR of this HOUR", () -> {
            ThawWords x = Check.capeOf("place 0;frost 1 1;warm 0 1;sound 0;person 1 0;");
            x.says(0, 1, 1);
            t.due("AIR -1", x.saying(0, 5), 1);
            x.go(1);
            x.says(0, 1, 1);
            t.due("AIR 0", x.saying(1, 5), 0);
        });
        t.edge(9, HANGS, "AIR by a LANTERN", () -> {
            ThawWords x = Check.capeOf("place 0;sound 5;sound 6;person 1 0;");
            x.lantern(0);
            x.says(0, 1, 12);
            t.due("when(0, 0), MELT 5", x.when(0, 0), 0);
            t.due("when(0, 1), MELT 6", x.when(0, 1), Edges.NONE);
        });
        t.edge(9, HANGS, "each for itself", () -> {
            ThawWords x = twoPlaces();
            x.says(0, 1, 2321);
            t.due("saying(0, 5)", x.saying(0, 5), 2);
            t.due("heard(0, 0, 1)", x.heard(0, 0, 1), 2);
            t.due("heard(0, 1, 1)", x.heard(0, 1, 1), 0);
            t.due("heard(0, 2, 1)", x.heard(0, 2, 1), NOT_SO_MANY);
        });
        t.edge(9, HANGS, "what hung there doesn't melt by it", () -> {
            ThawWords x = twoPlaces();
            x.says(0, 9, 2);
            x.says(0, 1, 1);
            t.due("now(1)", x.now(1), 1);
            t.due("heard(0, 0, 0)", x.heard(0, 0, 0), 1);
        });
    }

    private static void isHeardBy() {
        t.edge(9, HEARD, "the one who says it, too", () -> {
            ThawWords x = twoPlaces();
            x.says(2, 1, 3);
            t.due("person(2, 2)", x.person(2, 2), 1);
        });
        t.edge(9, HEARD, "all who stand there, nobody else", () -> {
            ThawWords x = twoPlaces();
            x.says(0, 1, 1);
            int[] told = {1, 1, 0};
            for (int p = 0; p < 3; p++) t.due("person(" + p + ", 2)", x.person(p, 2), told[p]);
        });
        t.edge(9, HEARD, "then: who went away doesn't, who came does", () -> {
            ThawWords x = twoPlaces();
            x.says(0, 1, 2);
            x.goes(0, 1);
            x.goes(2, 0);
            x.lantern(0);
            int[] told = {0, 1, 1};
            for (int p = 0; p < 3; p++) t.due("person(" + p + ", 2)", x.person(p, 2), told[p]);
        });
        t.edge(9, HEARD, "behind what each heard", () -> {
            ThawWords x = twoPlaces();
            x.says(0, 1, 1);
            x.goes(0, 1);
            x.says(2, 1, 3);
            t.due("heard(0, 0, 0)", x.heard(0, 0, 0), 0);
            t.due("heard(0, 1, 0)", x.heard(0, 1, 0), 1);
            t.due("heard(2, 0, 0)", x.heard(2, 0, 0), 1);
            t.due("heard(1, 1, 0)", x.heard(1, 1, 0), NOT_SO_MANY);
        });
    }

    private static void heardIsFull() {
        t.edge(15, HEARD, "as many as the calls can bring about: 32", () -> {
            ThawWords x = twoPlaces();
            for (int k = 0; k < 8; k++) x.says(0, 1, 1311);
            t.due("person(1, 2)", x.person(1, 2), 32);
            t.due("heard(1, 31, 0)", x.heard(1, 31, 0), 7);
            t.due("heard(1, 29, 1)", x.heard(1, 29, 1), 2);
            t.due("heard(1, 32, 0)", x.heard(1, 32, 0), NOT_SO_MANY);
        });
        // Eight sayings of four sounds can't fill it, so this one goes by a private method.
        t.edge(15, HEARD, "the 60th and what is beyond", () -> {
            ThawWords x = twoPlaces();
            for (int i = 0; i < 59; i++) hearAtPlace0(x, i % 3);
            t.due("person(0, 2) of 59", x.person(0, 2), 59);
            hearAtPlace0(x, 2);
            t.due("person(0, 2) of 60", x.person(0, 2), 60);
            hearAtPlace0(x, 1);
            hearAtPlace0(x, 1);
            t.due("person(0, 2) of 62", x.person(0, 2), 60);
            t.due("heard(0, 0, 1)", x.heard(0, 0, 1), 0);
            t.due("heard(0, 59, 1)", x.heard(0, 59, 1), 2);
            t.due("heard(0, 60, 1)", x.heard(0, 60, 1), NOT_SO_MANY);
            t.due("person(2, 2), elsewhere", x.person(2, 2), 0);
        });
    }

    private static void hearAtPlace0(ThawWords x, int sound) {
        try {
            Field now = ThawWords.class.getDeclaredField("now");
            now.setAccessible(true);
            Object scene = now.get(x);
            Method hear = scene.getClass().getDeclaredMethod("hearAt", int.class, int.class, int.class);
            hear.setAccessible(true);
            hear.invoke(scene, 0, 0, sound);
        } catch (ReflectiveOperationException e) {
            throw new IllegalStateException(e);
        }
    }

    private static void goes() {
        String goes = "One goes to a PLACE: where it was. BAD; STATE: it is there.";
        t.edge(10, goes, "one below 0", () -> {
            for (int p : BELOW) t.due("goes(" + p + ", 0)", twoPlaces().goes(p, 0), BAD);
        });
        t.edge(10, goes, "the first one that was not told", () -> {
            for (int p : new int[] {3, 4, GREATEST}) t.due("goes(" + p + ", 0)", twoPlaces().goes(p, 0), BAD);
        });
        t.edge(10, goes, "a PLACE below 0", () -> {
            ThawWords x = twoPlaces();
            for (int place : BELOW) t.due("goes(0, " + place + ")", x.goes(0, place), BAD);
            t.due("person(0, 1)", x.person(0, 1), 0);
        });
        t.edge(10, goes, "the first PLACE that was not told", () -> {
            ThawWords x = twoPlaces();
            for (int place : new int[] {2, 3, 4, GREATEST}) t.due("goes(0, " + place + ")", x.goes(0, place), BAD);
            t.due("person(0, 1)", x.person(0, 1), 0);
        });
        t.edge(10, goes, "it is there, from the first", () -> {
            ThawWords x = twoPlaces();
            t.due("goes(0, 0)", x.goes(0, 0), STATE);
            t.due("goes(2, 1)", x.goes(2, 1), STATE);
            t.due("person(0, 1)", x.person(0, 1), 0);
            t.due("person(2, 1)", x.person(2, 1), 1);
        });
        t.edge(10, goes, "it is there by now", () -> {
            ThawWords x = twoPlaces();
            t.due("goes(0, 1)", x.goes(0, 1), 0);
            t.due("goes(0, 1) again", x.goes(0, 1), STATE);
            t.due("goes(0, 0), where it was", x.goes(0, 0), 1);
            t.due("person(0, 1)", x.person(0, 1), 0);
        });
        t.edge(10, goes, "the last one, the last PLACE", () -> {
            ThawWords x = Check.capeOf("place 0;place 0;place 0;place 0;person 1 0;person 1 1;person 1 2;person 1 2;");
            t.due("goes(3, 3)", x.goes(3, 3), 2);
            t.due("person(3, 1)", x.person(3, 1), 3);
            t.due("person(2, 1)", x.person(2, 1), 2);
        });
        t.edge(10, ORDER, "BAD is ahead of STATE", () -> {
            ThawWords x = Check.capeOf("place 0;person 1 0;");
            t.due("goes(1, 0)", x.goes(1, 0), BAD);
            t.due("goes(0, 1)", x.goes(0, 1), BAD);
        });
        t.edge(10, goes, "nothing is heard by going", () -> {
            ThawWords x = twoPlaces();
            x.says(2, 1, 3);
            x.goes(0, 1);
            t.due("person(0, 2)", x.person(0, 2), 0);
        });
    }

    private static void lantern() {
        String lantern = "A LANTERN is held: how many SOUNDS are heard by it. BAD; STATE: one is held there.";
        t.edge(11, lantern, "a PLACE below 0", () -> {
            ThawWords x = twoPlaces();
            for (int place : BELOW) t.due("lantern(" + place + ")", x.lantern(place), BAD);
            t.due("now(3)", x.now(3), 0);
        });
        t.edge(11, lantern, "the first PLACE that was not told", () -> {
            ThawWords x = twoPlaces();
            for (int place : new int[] {2, 3, 4, 32, GREATEST}) t.due("lantern(" + place + ")", x.lantern(place), BAD);
            t.due("now(3)", x.now(3), 0);
        });
        t.edge(11, lantern, "one is held there", () -> {
            ThawWords x = twoPlaces();
            t.due("lantern(1)", x.lantern(1), 0);
            t.due("lantern(1) again", x.lantern(1), STATE);
            t.due("now(3)", x.now(3), 2);
            t.due("place(1, 1)", x.place(1, 1), 3);
        });
        t.edge(11, lantern, "one was held there in the HOUR ahead", () -> {
            ThawWords x = twoPlaces();
            x.lantern(1);
            x.go(1);
            t.due("lantern(1)", x.lantern(1), 0);
            t.due("now(3)", x.now(3), 2);
        });
        t.edge(11, lantern, "at all four PLACES", () -> {
            ThawWords x = Check.capeOf("place 0;place 0;place 0;place 0;");
            for (int place = 0; place < 4; place++) t.due("lantern(" + place + ")", x.lantern(place), 0);
            t.due("now(3)", x.now(3), 15);
            for (int place = 0; place < 4; place++) t.due("lantern(" + place + ") again", x.lantern(place), STATE);
        });
        t.edge(11, lantern, "none, some, all are heard", () -> {
            ThawWords x = Check.capeOf("place 0;place 1;place 2;sound 5;sound 4;sound 3;person 1 0;person 1 1;person 1 2;");
            for (int p = 0; p < 3; p++) x.says(p, 1, 12);
            t.due("lantern(2), AIR 3", x.lantern(2), 0);
            t.due("lantern(1), AIR 4", x.lantern(1), 1);
            t.due("lantern(0), AIR 5", x.lantern(0), 2);
        });
        t.edge(11, "A LANTERN is held at a PLACE: there is MELTING there at once.", "there, not elsewhere", () -> {
            ThawWords x = Check.capeOf("place 0;place 0;sound 1;person 1 0;person 1 1;");
            x.says(0, 1, 1);
            x.says(1, 1, 1);
            t.due("lantern(1)", x.lantern(1), 1);
            t.due("saying(0, 5)", x.saying(0, 5), 1);
            t.due("saying(1, 5)", x.saying(1, 5), 0);
            t.due("when(1, 0)", x.when(1, 0), 0);
        });
        t.edge(11, "where a LANTERN is held in this HOUR, 5 more in it", "MELT 5 and 6 above", () -> {
            ThawWords x = Check.capeOf("place 1;sound 4;sound 5;person 1 0;");
            x.says(0, 1, 21);
            t.due("lantern(0)", x.lantern(0), 1);
            t.due("heard(0, 0, 1)", x.heard(0, 0, 1), 0);
            t.due("now(1)", x.now(1), 1);
        });
        t.edge(11, lantern, "nobody stands there: it is heard all the same", () -> {
            ThawWords x = Check.capeOf("place 0;place 0;sound 1;person 1 0;");
            x.says(0, 1, 11);
            x.goes(0, 1);
            t.due("lantern(0)", x.lantern(0), 2);
            t.due("now(1)", x.now(1), 0);
            t.due("person(0, 2)", x.person(0, 2), 0);
        });
        t.edge(11, ORDER, "BAD is ahead of STATE", () -> {
            ThawWords x = Check.capeOf("place 0;");
            x.lantern(0);
            t.due("lantern(1)", x.lantern(1), BAD);
            t.due("lantern(32)", x.lantern(32), BAD);
        });
        t.edge(11, lantern, "in HOUR 99", () -> {
            ThawWords x = Check.capeOf("place 0;sound 1;person 1 0;");
            x.says(0, 1, 1);
            x.go(99);
            t.due("lantern(0)", x.lantern(0), 1);
            t.due("when(0, 0)", x.when(0, 0), 99);
        });
    }

    // All MELT at 1 but SOUND 1; a LANTERN makes AIR 5.
    private static ThawWords frozen() {
        return Check.capeOf("place 0;sound 1;sound 9;sound 2;person 1 0;");
    }

    private static void hears(ThawWords x, int... sayingsAndSounds) {
        t.due("person(0, 2)", x.person(0, 2), sayingsAndSounds.length);
        for (int i = 0; i < sayingsAndSounds.length; i++) {
            t.due("heard(0, " + i + ", 0)", x.heard(0, i, 0), sayingsAndSounds[i] / 10);
            t.due("heard(0, " + i + ", 1)", x.heard(0, i, 1), sayingsAndSounds[i] % 10);
        }
    }

    private static void melting() {
        t.edge(11, MELTING, "the loudest first", () -> {
            ThawWords x = frozen();
            x.says(0, 1, 1);
            x.says(0, 9, 3);
            x.says(0, 8, 1);
            x.lantern(0);
            hears(x, 12, 20, 0);
        });
        t.edge(11, MELTING, "of several the earlier one", () -> {
            ThawWords x = frozen();
            x.says(0, 4, 3);
            x.says(0, 4, 1);
            x.says(0, 4, 3);
            x.lantern(0);
            hears(x, 2, 10, 22);
        });
        t.edge(11, MELTING, "of each its SOUNDS in their order, what still hangs left out", () -> {
            ThawWords x = frozen();
            x.says(0, 4, 3213);
            x.lantern(0);
            hears(x, 2, 0, 2);
            t.due("now(1)", x.now(1), 1);
        });
        t.edge(11, MELTING, "a longer one HUNG there ahead of anew()", () -> {
            ThawWords x = longerAheadOfAnew();
            t.due("lantern(0)", x.lantern(0), 1);
            hears(x, 2);
        });
        t.edge(11, MELTING, "MELT AIR at most: AIR, and one above", () -> {
            ThawWords x = Check.capeOf("place 0;sound 5;sound 6;person 1 0;");
            x.says(0, 1, 21);
            t.due("lantern(0)", x.lantern(0), 1);
            hears(x, 0);
        });
        t.edge(12, MELTING, "MELT AIR at most, as an HOUR goes by", () -> {
            ThawWords x = Check.capeOf("place 0;frost 1 1;warm 3 1;sound 3;sound 4;person 1 0;");
            x.says(0, 1, 21);
            t.due("go(1)", x.go(1), 1);
            hears(x, 0);
        });
        t.edge(12, MELTING, "the loudest first, of several the earlier one, as an HOUR goes by", () -> {
            ThawWords x = Check.capeOf("place 0;frost 1 1;warm 9 1;sound 1;sound 9;sound 2;person 1 0;");
            x.says(0, 1, 32);
            x.says(0, 2, 1);
            x.says(0, 2, 21);
            t.due("go(1)", x.go(1), 5);
            hears(x, 10, 21, 20, 2, 1);
        });
        t.edge(12, MELTING, "nothing hangs there", () -> t.due("go(1)", frozen().go(1), 0));
        t.edge(12, MELTING, "what was heard isn't heard again", () -> {
            ThawWords x = frozen();
            x.says(0, 1, 13);
            t.due("lantern(0)", x.lantern(0), 2);
            x.go(1);
            t.due("lantern(0) an HOUR later", x.lantern(0), 0);
            hears(x, 0, 2);
        });
    }

    private static void go() {
        String go = "n HOURS go by (1 .. 99; to 99): how many SOUNDS melt. BAD; STATE: it is HOUR 99.";
        t.edge(12, go, "n too small: 0 and below", () -> {
            ThawWords x = twoPlaces();
            for (int n : new int[] {0, -1, -99, LEAST}) t.due("go(" + n + ")", x.go(n), BAD);
            t.due("now(0)", x.now(0), 0);
        });
        t.edge(12, go, "n too large: 100 and above", () -> {
            ThawWords x = twoPlaces();
            for (int n : new int[] {100, 101, 1000, GREATEST}) t.due("go(" + n + ")", x.go(n), BAD);
            t.due("now(0)", x.now(0), 0);
        });
        t.edge(12, go, "n 1 and 99", () -> {
            ThawWords x = twoPlaces();
            t.due("go(1)", x.go(1), 0);
            t.due("now(0)", x.now(0), 1);
            ThawWords y = twoPlaces();
            t.due("go(99)", y.go(99), 0);
            t.due("now(0) of the other", y.now(0), 99);
        });
        t.edge(12, go, "to 99: beyond it no HOUR goes by", () -> {
            ThawWords x = twoPlaces();
            x.go(98);
            t.due("go(2)", x.go(2), 0);
            t.due("now(0)", x.now(0), 99);
            ThawWords y = twoPlaces();
            y.go(1);
            t.due("go(99)", y.go(99), 0);
            t.due("now(0) of the other", y.now(0), 99);
        });
        t.edge(12, go, "it is HOUR 98", () -> {
            ThawWords x = twoPlaces();
            x.go(98);
            t.due("go(1)", x.go(1), 0);
            t.due("now(0)", x.now(0), 99);
        });
        t.edge(12, go, "it is HOUR 99", () -> {
            ThawWords x = twoPlaces();
            x.go(99);
            x.lantern(0);
            t.due("go(1)", x.go(1), STATE);
            t.due("go(99)", x.go(99), STATE);
            t.due("now(0)", x.now(0), 99);
            t.due("now(3)", x.now(3), 1);
        });
        t.edge(12, ORDER, "BAD is ahead of STATE", () -> {
            ThawWords x = twoPlaces();
            x.go(99);
            for (int n : new int[] {0, 100, -1, LEAST, GREATEST}) t.due("go(" + n + ")", x.go(n), BAD);
        });
        t.edge(12, go, "all SOUNDS of all PLACES in all HOURS that go by", () -> {
            ThawWords x = Check.capeOf("place 0;place 1;warm 0 1;warm 1 1;warm 2 1;sound 1;person 1 0;person 1 1;");
            x.says(0, 1, 11);
            x.says(1, 1, 1111);
            t.due("go(99)", x.go(99), 6);
        });
        t.edge(12, go, "each SOUND counts once, however many hear it", () -> {
            ThawWords x = Check.capeOf("place 0;warm 0 1;warm 1 1;sound 1;person 1 0;person 1 0;person 1 0;");
            x.says(0, 1, 1);
            t.due("go(1)", x.go(1), 1);
        });
        t.edge(12, go, "all of 32 melt", () -> {
            ThawWords x = Check.capeOf("place 0;warm 0 1;warm 1 1;sound 1;person 1 0;");
            for (int k = 0; k < 8; k++) x.says(0, 1, 1111);
            t.due("go(1)", x.go(1), 32);
            t.due("now(1)", x.now(1), 0);
        });
        t.edge(12, go, "a cape without anything", () -> {
            ThawWords x = new ThawWords();
            t.due("go(99)", x.go(99), 0);
            t.due("go(1)", x.go(1), STATE);
        });
    }

    private static void goesBy() {
        t.edge(12, GOES_BY, "LANTERNS go out ahead of the MELTING", () -> {
            ThawWords x = Check.capeOf("place 0;frost 9 1;warm 0 1;sound 4;person 1 0;");
            x.says(0, 1, 1);
            t.due("lantern(0)", x.lantern(0), 0);
            t.due("go(1)", x.go(1), 0);
            t.due("now(3)", x.now(3), 0);
            t.due("place(0, 3)", x.place(0, 3), 0);
        });
        t.edge(12, GOES_BY, "it is the next HOUR, then there is MELTING", () -> {
            ThawWords x = Check.capeOf("place 0;frost 1 1;warm 1 1;frost 1 1;sound 1;person 1 0;");
            x.says(0, 1, 1);
            t.due("go(1)", x.go(1), 1);
            t.due("when(0, 0)", x.when(0, 0), 1);
        });
        t.edge(12, GOES_BY, "an HOUR between thaws, the last one doesn't", () -> {
            ThawWords x = Check.capeOf("place 0;frost 1 2;warm 1 1;frost 1 1;sound 1;person 1 0;");
            x.says(0, 1, 1);
            t.due("go(3)", x.go(3), 1);
            t.due("when(0, 0)", x.when(0, 0), 2);
        });
        t.edge(12, GOES_BY, "at each PLACE, the last one, too", () -> {
            ThawWords x = Check.capeOf("place 0;place 0;place 0;place 0;warm 0 1;warm 1 1;sound 1;"
                + "person 1 0;person 1 1;person 1 2;person 1 3;");
            for (int p = 0; p < 4; p++) x.says(p, 1, 1);
            t.due("go(1)", x.go(1), 4);
            for (int p = 0; p < 4; p++) t.due("heard(" + p + ", 0, 0)", x.heard(p, 0, 0), p);
        });
        t.edge(12, GOES_BY, "behind the last HOUR told it stays as cold", () -> {
            ThawWords x = Check.capeOf("place 0;warm 0 23;frost 9 1;sound 1;person 1 0;");
            x.says(0, 1, 1);
            t.due("go(99)", x.go(99), 0);
            t.due("place(0, 1)", x.place(0, 1), -9);
        });
    }

    // Two SAYINGS of HOUR 3: of the first one half is heard, of the second one all.
    private static ThawWords said() {
        ThawWords x = twoPlaces();
        x.go(3);
        x.says(1, 7, 2121);
        x.says(2, 1, 3);
        x.goes(1, 1);
        return x;
    }

    // SAYING 0 has one SOUND, where one of four HUNG; a LANTERN melts it.
    private static ThawWords longerAheadOfAnew() {
        ThawWords x = frozen();
        x.says(0, 1, 1111);
        x.anew();
        x.says(0, 1, 3);
        return x;
    }

    private static void saying() {
        String saying = "Of a SAYING: 0 who said it, 1 where, 2 in which HOUR, 3 LOUD, 4 how many SOUNDS, 5 how many still HANG. BAD.";
        t.edge(13, saying, "k below 0", () -> {
            for (int k : BELOW) t.due("saying(" + k + ", 0)", said().saying(k, 0), BAD);
        });
        t.edge(13, saying, "the first that was not said", () -> {
            for (int k : new int[] {2, 7, 8, GREATEST}) t.due("saying(" + k + ", 0)", said().saying(k, 0), BAD);
        });
        t.edge(13, saying, "nothing was said", () -> t.due("saying(0, 0)", twoPlaces().saying(0, 0), BAD));
        t.edge(13, saying, "the eighth, and beyond", () -> {
            ThawWords x = twoPlaces();
            for (int k = 0; k < 8; k++) x.says(0, k + 1, 1);
            t.due("saying(7, 3)", x.saying(7, 3), 8);
            t.due("saying(8, 3)", x.saying(8, 3), BAD);
        });
        t.edge(13, saying, "what too small", () -> {
            for (int what : BELOW) t.due("saying(0, " + what + ")", said().saying(0, what), BAD);
        });
        t.edge(13, saying, "what too large", () -> {
            for (int what : new int[] {6, 7, GREATEST}) t.due("saying(0, " + what + ")", said().saying(0, what), BAD);
        });
        t.edge(13, saying, "all that may be asked, though the one went away", () -> {
            int[] told = {1, 0, 3, 7, 4, 2};
            for (int what = 0; what < 6; what++) t.due("saying(0, " + what + ")", said().saying(0, what), told[what]);
        });
        t.edge(13, saying, "none, all of it hangs", () -> {
            ThawWords x = said();
            t.due("saying(1, 5)", x.saying(1, 5), 0);
            x.says(0, 1, 2222);
            t.due("saying(2, 5)", x.saying(2, 5), 4);
        });
        t.edge(13, saying, "a longer one HUNG there ahead of anew()", () -> {
            ThawWords x = longerAheadOfAnew();
            t.due("saying(0, 4)", x.saying(0, 4), 1);
            t.due("saying(0, 5)", x.saying(0, 5), 1);
            t.due("now(1)", x.now(1), 1);
            t.due("place(0, 2)", x.place(0, 2), 1);
        });
        t.edge(13, saying, "said in HOUR 99", () -> {
            ThawWords x = twoPlaces();
            x.go(99);
            x.says(0, 1, 1);
            t.due("saying(0, 2)", x.saying(0, 2), 99);
        });
        t.edge(13, saying, "one of an image that is behind", () -> {
            ThawWords x = twoPlaces();
            x.keep(0);
            x.says(0, 1, 1);
            x.back(0);
            t.due("saying(0, 0)", x.saying(0, 0), BAD);
        });
    }

    private static void soundOf() {
        String soundOf = "SOUND i of a SAYING; -5: not so many. BAD (i below 0).";
        t.edge(14, soundOf, "i below 0", () -> {
            for (int i : BELOW) t.due("soundOf(0, " + i + ")", said().soundOf(0, i), BAD);
        });
        t.edge(14, soundOf, "the last one", () -> {
            t.due("soundOf(0, 3)", said().soundOf(0, 3), 0);
            t.due("soundOf(1, 0)", said().soundOf(1, 0), 2);
        });
        t.edge(14, soundOf, "not so many", () -> {
            for (int i : new int[] {4, 5, GREATEST}) t.due("soundOf(0, " + i + ")", said().soundOf(0, i), NOT_SO_MANY);
            for (int i : new int[] {1, 3, 4}) t.due("soundOf(1, " + i + ")", said().soundOf(1, i), NOT_SO_MANY);
        });
        t.edge(14, soundOf, "k below 0", () -> {
            for (int k : BELOW) t.due("soundOf(" + k + ", 0)", said().soundOf(k, 0), BAD);
        });
        t.edge(14, soundOf, "the first that was not said", () -> {
            for (int k : new int[] {2, 7, 8, GREATEST}) t.due("soundOf(" + k + ", 0)", said().soundOf(k, 0), BAD);
        });
        t.edge(14, soundOf, "no such SAYING, and i beyond: BAD", () -> {
            t.due("soundOf(2, 4)", said().soundOf(2, 4), BAD);
            t.due("soundOf(-1, 9)", said().soundOf(-1, 9), BAD);
        });
        t.edge(14, soundOf, "a longer one was said there ahead of anew()", () -> {
            ThawWords x = said();
            x.anew();
            x.says(0, 1, 3);
            t.due("soundOf(0, 0)", x.soundOf(0, 0), 2);
            t.due("soundOf(0, 1)", x.soundOf(0, 1), NOT_SO_MANY);
        });
    }

    private static void heard() {
        String heard = "What one HEARD as the i-th (0 on): the SAYING (what = 0), the SOUND (1); -5: not so many. BAD (i below 0).";
        t.edge(15, heard, "i below 0", () -> {
            for (int i : BELOW) t.due("heard(0, " + i + ", 0)", said().heard(0, i, 0), BAD);
        });
        t.edge(15, heard, "the first and the last one", () -> {
            ThawWords x = said();
            t.due("heard(0, 0, 1)", x.heard(0, 0, 1), 0);
            t.due("heard(0, 1, 0)", x.heard(0, 1, 0), 0);
            t.due("heard(2, 0, 0)", x.heard(2, 0, 0), 1);
            t.due("heard(2, 0, 1)", x.heard(2, 0, 1), 2);
        });
        t.edge(15, heard, "not so many", () -> {
            for (int i : new int[] {2, 3, 59, 60, 61, GREATEST}) {
                t.due("heard(0, " + i + ", 0)", said().heard(0, i, 0), NOT_SO_MANY);
                t.due("heard(0, " + i + ", 1)", said().heard(0, i, 1), NOT_SO_MANY);
            }
        });
        t.edge(15, heard, "nothing was heard", () -> t.due("heard(0, 0, 0)", twoPlaces().heard(0, 0, 0), NOT_SO_MANY));
        t.edge(15, heard, "what too small, too large", () -> {
            for (int what : new int[] {-1, 2, LEAST, GREATEST}) t.due("heard(0, 0, " + what + ")", said().heard(0, 0, what), BAD);
        });
        t.edge(15, heard, "what too large, and i beyond: BAD", () -> {
            t.due("heard(0, 2, 2)", said().heard(0, 2, 2), BAD);
            t.due("heard(0, 2, -1)", said().heard(0, 2, -1), BAD);
        });
        t.edge(15, heard, "one below 0", () -> {
            for (int p : BELOW) t.due("heard(" + p + ", 0, 0)", said().heard(p, 0, 0), BAD);
        });
        t.edge(15, heard, "the first one that was not told", () -> {
            for (int p : new int[] {3, 4, GREATEST}) t.due("heard(" + p + ", 0, 0)", said().heard(p, 0, 0), BAD);
        });
        t.edge(15, heard, "nobody like that, and i beyond: BAD", () -> t.due("heard(3, 9, 0)", said().heard(3, 9, 0), BAD));
        t.edge(15, heard, "more was heard ahead of anew()", () -> {
            ThawWords x = said();
            x.anew();
            t.due("heard(0, 0, 0)", x.heard(0, 0, 0), NOT_SO_MANY);
        });
    }

    private static void now() {
        String now = "0 HOUR, 1 how many SOUNDS HANG, 2 SAYINGS, 3 LANTERNS (bits of PLACES). BAD.";
        t.edge(16, now, "what too small", () -> {
            for (int what : BELOW) t.due("now(" + what + ")", said().now(what), BAD);
        });
        t.edge(16, now, "what too large", () -> {
            for (int what : new int[] {4, 5, GREATEST}) t.due("now(" + what + ")", said().now(what), BAD);
        });
        t.edge(16, now, "empty", () -> {
            for (int what = 0; what < 4; what++) t.due("now(" + what + ")", new ThawWords().now(what), 0);
        });
        t.edge(16, now, "as much as can be", () -> {
            ThawWords x = Check.capeOf("place 9;place 9;place 9;place 9;sound 9;person 1 3;");
            for (int k = 0; k < 8; k++) x.says(0, 1, 1111);
            x.go(99);
            for (int place = 0; place < 4; place++) x.lantern(place);
            int[] told = {99, 32, 8, 15};
            for (int what = 0; what < 4; what++) t.due("now(" + what + ")", x.now(what), told[what]);
        });
        t.edge(16, "HOUR 0 at first, 99 at most.", "at most", () -> {
            ThawWords x = new ThawWords();
            x.go(60);
            x.go(60);
            t.due("now(0)", x.now(0), 99);
        });
        t.edge(16, now, "the first and the last PLACE as bits", () -> {
            ThawWords x = Check.capeOf("place 0;place 0;place 0;place 0;");
            x.lantern(0);
            t.due("now(3)", x.now(3), 1);
            x.lantern(3);
            t.due("now(3) of both", x.now(3), 9);
        });
    }

    private static void anew() {
        String anew = "NOW is as at first: the HOUR it was.";
        t.edge(17, anew, "of a new object", () -> t.due("anew()", new ThawWords().anew(), 0));
        t.edge(17, anew, "of HOUR 99", () -> {
            ThawWords x = said();
            x.go(99);
            t.due("anew()", x.anew(), 99);
            t.due("now(0)", x.now(0), 0);
            t.due("go(1)", x.go(1), 0);
        });
        t.edge(17, anew, "all of NOW", () -> {
            ThawWords x = said();
            x.lantern(0);
            t.due("anew()", x.anew(), 3);
            t.alike("all that is seen", Seen.all(x), Seen.all(twoPlaces()));
        });
        t.edge(17, anew, "again", () -> {
            ThawWords x = said();
            x.anew();
            t.due("anew()", x.anew(), 0);
        });
        t.edge(17, "IMAGES 0, 1 keep NOW (HOUR, SAYINGS, what HANGS, what was HEARD, where all stand, LANTERNS); nothing else.",
            "IMAGES, THE TEXT, THE TRACE stay", () -> {
                ThawWords x = said();
                x.keep(1);
                x.rate(0, 0);
                x.type('x', 1);
                x.anew();
                t.due("count(4)", x.count(4), 1);
                t.due("trace()", x.trace(), 1);
                t.due("back(0)", x.back(0), STATE);
                t.due("back(1)", x.back(1), 3);
                t.due("now(2)", x.now(2), 2);
            });
    }
}
