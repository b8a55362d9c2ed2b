// The edges of promises 26 to 28 and 30: kinds, the trace, images.
public final class EdgesKindsTest {
    private static final int BAD = Edges.BAD, STATE = Edges.STATE, NO = Edges.NO;
    private static final int LEAST = Edges.LEAST, GREATEST = Edges.GREATEST;
    private static final int[] BELOW = {-1, LEAST};

    private static final String KINDS = "KINDS of SAYINGS are over one another: 0 SAYING; 1 LOW, 2 SUNG, 5 SWORN (each under SAYING);"
        + " 3 MIXED (under LOW); 4 CHILD'S (under SUNG).";
    private static final String TRACE = "(numbers in brackets are added to THE TRACE, 0 at first, as often as rate() asks that body:"
        + " each once; \"up\" is what the KIND above does)";
    private static final String REFUSED = "Refused, and nothing changes, the first of these: BAD";
    private static final String KEEP_NOW = "IMAGES 0, 1 keep NOW (HOUR, SAYINGS, what HANGS, what was HEARD, where all stand, LANTERNS); nothing else.";
    private static final String BACK = "All of that becomes as an IMAGE has it: the HOUR. BAD; STATE: none was kept.";

    private static final Edges t = new Edges();

    public static void main(String[] args) {
        rateRefused();
        rates();
        trace();
        keep();
        backRefused();
        back();
        t.end(26, 27, 28, 30);
    }

    // SOUNDS 0 and 1 MELT at -5 and 9; SAYING 0 has 4, 2 of them HANG; LOUD 7, HOUR 6, PLACE 2.
    private static ThawWords said() {
        ThawWords x = Check.capeOf("place 0;place 1;place 2;cold 5;sound 9;person 0 2;person 0 0;");
        x.go(6);
        x.says(0, 7, 1221);
        x.says(1, 9, 2);
        return x;
    }

    private static void rateRefused() {
        t.edge(26, KINDS, "a KIND below 0", () -> {
            for (int kind : BELOW) t.due("rate(" + kind + ", 0)", said().rate(kind, 0), NO);
        });
        t.edge(26, KINDS, "a KIND of 6 and above", () -> {
            for (int kind : new int[] {6, 7, GREATEST}) t.due("rate(" + kind + ", 0)", said().rate(kind, 0), NO);
        });
        t.edge(26, "`int rate(int kind, int k)`: RATE. NO: BAD.", "k below 0", () -> {
            for (int k : BELOW) {
                for (int kind = 0; kind < 6; kind++) t.due("rate(" + kind + ", " + k + ")", said().rate(kind, k), NO);
            }
        });
        t.edge(26, "`int rate(int kind, int k)`: RATE. NO: BAD.", "the first that was not said", () -> {
            for (int k : new int[] {2, 7, 8, GREATEST}) {
                for (int kind = 0; kind < 6; kind++) t.due("rate(" + kind + ", " + k + ")", said().rate(kind, k), NO);
            }
        });
        t.edge(26, REFUSED, "THE TRACE, too", () -> {
            ThawWords x = said();
            x.rate(6, 0);
            x.rate(-1, 0);
            x.rate(3, 2);
            x.rate(5, -1);
            t.due("trace()", x.trace(), 0);
        });
    }

    private static void rates() {
        int[] some = {4, -3, 6, -6, 12, 2};
        int[] others = {1, -8, 2, -16, 8, 1};
        String[] bodies = {"SAYING how many SOUNDS it has (1).", "LOW up less LOUD (10).", "SUNG up, and how many still HANG (100).",
            "MIXED twice up (asked once) (1000).", "CHILD'S up, and the HOUR in which it was said (10000).", "SWORN up less its PLACE (100000)."};
        for (int i = 0; i < 6; i++) {
            int kind = i;
            t.edge(26, bodies[kind], "two SAYINGS", () -> {
                t.due("rate(" + kind + ", 0)", said().rate(kind, 0), some[kind]);
                t.due("rate(" + kind + ", 1)", said().rate(kind, 1), others[kind]);
            });
        }
        t.edge(26, "`NO = -1000000`: What none is, where a number may be below 0.", "the lowest RATE", () -> {
            ThawWords x = said();
            x.says(0, 9, 1);
            t.due("rate(3, 2)", x.rate(3, 2), -16);
            t.due("rate(1, 2)", x.rate(1, 2), -8);
        });
        t.edge(26, "CHILD'S up, and the HOUR in which it was said (10000).", "the highest RATE: HOUR 99, all of 4 HANGS", () -> {
            ThawWords x = said();
            x.go(99);
            x.says(0, 1, 2222);
            t.due("rate(4, 2)", x.rate(4, 2), 107);
        });
        t.edge(26, "CHILD'S up, and the HOUR in which it was said (10000).", "not the HOUR NOW", () -> {
            ThawWords x = said();
            x.go(9);
            t.due("rate(4, 0)", x.rate(4, 0), 12);
        });
        t.edge(26, "SUNG up, and how many still HANG (100).", "still: NOW", () -> {
            ThawWords x = Check.capeOf("place 0;sound 1;person 1 0;");
            x.says(0, 1, 1111);
            t.due("rate(2, 0)", x.rate(2, 0), 8);
            x.lantern(0);
            t.due("rate(2, 0) by a LANTERN", x.rate(2, 0), 4);
        });
        t.edge(26, "SWORN up less its PLACE (100000).", "PLACE 0 and 3, said there, whoever went away", () -> {
            ThawWords x = Check.capeOf("place 0;place 0;place 0;place 0;sound 1;person 1 0;person 1 3;");
            x.says(0, 1, 11);
            x.says(1, 1, 11);
            x.goes(1, 0);
            t.due("rate(5, 0)", x.rate(5, 0), 2);
            t.due("rate(5, 1)", x.rate(5, 1), -1);
        });
    }

    private static void trace() {
        long[] added = {1, 11, 101, 1011, 10101, 100001};
        for (int i = 0; i < 6; i++) {
            int kind = i;
            t.edge(30, TRACE, "KIND " + kind, () -> {
                ThawWords x = said();
                x.rate(kind, 0);
                t.due("trace()", x.trace(), added[kind]);
                x.rate(kind, 1);
                t.due("trace(), once more", x.trace(), 2 * added[kind]);
            });
        }
        t.edge(30, "MIXED twice up (asked once) (1000).", "asked once", () -> {
            ThawWords x = said();
            x.rate(3, 0);
            t.due("trace()", x.trace(), 1011);
        });
        t.edge(30, "THE TRACE, 0 at first", "at first, and asked only", () -> {
            ThawWords x = said();
            t.due("trace()", x.trace(), 0);
            t.due("trace() again", x.trace(), 0);
        });
        t.edge(30, "as often as rate() asks that body", "no other call adds to it", () -> {
            ThawWords x = said();
            x.saying(0, 5);
            x.whole(0);
            x.keep(0);
            x.back(0);
            x.anew();
            x.cape();
            t.due("trace()", x.trace(), 0);
        });
        t.edge(30, "THE TRACE goes on, as behind back().", "behind back(), anew(), cape()", () -> {
            ThawWords x = said();
            x.keep(0);
            x.rate(1, 0);
            x.back(0);
            t.due("trace() behind back()", x.trace(), 11);
            x.rate(1, 0);
            x.anew();
            t.due("trace() behind anew()", x.trace(), 22);
            x.cape();
            t.due("trace() behind cape()", x.trace(), 22);
        });
        t.edge(30, "THE TRACE goes on, as behind back().", "behind a text with a fault", () -> {
            ThawWords x = said();
            x.rate(1, 0);
            x.type(';', 1);
            x.cape();
            t.due("trace()", x.trace(), 11);
        });
    }

    private static void keep() {
        String keep = "An IMAGE is kept: the HOUR. BAD.";
        t.edge(27, keep, "an image below 0", () -> {
            for (int image : BELOW) t.due("keep(" + image + ")", said().keep(image), BAD);
        });
        t.edge(27, keep, "an image of 2 and above", () -> {
            for (int image : new int[] {2, 3, 256, GREATEST}) t.due("keep(" + image + ")", said().keep(image), BAD);
        });
        t.edge(27, REFUSED, "what was kept stays", () -> {
            ThawWords x = said();
            x.keep(0);
            x.keep(1);
            x.go(2);
            x.keep(2);
            x.keep(-1);
            t.due("back(0)", x.back(0), 6);
            t.due("back(1)", x.back(1), 6);
        });
        t.edge(27, REFUSED, "none is kept by it", () -> {
            ThawWords x = said();
            x.keep(2);
            x.keep(-1);
            t.due("back(0)", x.back(0), STATE);
            t.due("back(1)", x.back(1), STATE);
        });
        t.edge(27, keep, "0 and 1, in HOUR 0 and 99", () -> {
            ThawWords x = new ThawWords();
            t.due("keep(0)", x.keep(0), 0);
            x.go(99);
            t.due("keep(1)", x.keep(1), 99);
            t.due("back(0)", x.back(0), 0);
            t.due("back(1)", x.back(1), 99);
        });
        t.edge(27, keep, "kept over", () -> {
            ThawWords x = said();
            x.keep(0);
            x.go(1);
            t.due("keep(0)", x.keep(0), 7);
            x.go(1);
            t.due("back(0)", x.back(0), 7);
        });
        t.edge(27, keep, "NOW isn't changed by it", () -> {
            ThawWords x = said();
            x.lantern(2);
            x.keep(0);
            ThawWords y = said();
            y.lantern(2);
            t.due("now(3)", x.now(3), 4);
            t.due("now(1)", x.now(1), y.now(1));
            t.due("person(0, 2)", x.person(0, 2), y.person(0, 2));
        });
    }

    private static void backRefused() {
        t.edge(28, BACK, "an image below 0", () -> {
            for (int image : BELOW) t.due("back(" + image + ")", said().back(image), BAD);
        });
        t.edge(28, BACK, "an image of 2 and above", () -> {
            for (int image : new int[] {2, 3, 256, GREATEST}) t.due("back(" + image + ")", said().back(image), BAD);
        });
        t.edge(28, BACK, "none was kept", () -> {
            ThawWords x = said();
            t.due("back(0)", x.back(0), STATE);
            t.due("back(1)", x.back(1), STATE);
            t.due("now(0)", x.now(0), 6);
            t.due("now(2)", x.now(2), 2);
        });
        t.edge(28, BACK, "the other one was kept", () -> {
            ThawWords x = said();
            x.keep(0);
            t.due("back(1)", x.back(1), STATE);
            ThawWords y = said();
            y.keep(1);
            t.due("back(0)", y.back(0), STATE);
        });
        t.edge(28, "IMAGES are gone", "behind cape()", () -> {
            ThawWords x = said();
            x.keep(0);
            x.keep(1);
            Check.type(x, "place 1;");
            x.cape();
            t.due("back(0)", x.back(0), STATE);
            t.due("back(1)", x.back(1), STATE);
            t.due("keep(0)", x.keep(0), 0);
            t.due("back(0) of the new one", x.back(0), 0);
        });
        t.edge(28, "IMAGES are gone", "not behind a text with a fault, nor behind anew()", () -> {
            ThawWords x = said();
            x.keep(0);
            x.type(';', 1);
            x.cape();
            x.anew();
            t.due("back(0)", x.back(0), 6);
        });
    }

    private static void back() {
        t.edge(28, BACK, "HOUR", () -> {
            ThawWords x = said();
            x.keep(1);
            x.go(50);
            t.due("back(1)", x.back(1), 6);
            t.due("now(0)", x.now(0), 6);
        });
        t.edge(28, KEEP_NOW, "SAYINGS", () -> {
            ThawWords x = said();
            x.keep(1);
            x.says(0, 1, 1);
            x.back(1);
            t.due("now(2)", x.now(2), 2);
            t.due("saying(2, 0)", x.saying(2, 0), BAD);
            t.due("says(1, 2, 2)", x.says(1, 2, 2), 2);
        });
        t.edge(28, KEEP_NOW, "SAYINGS that were said over", () -> {
            ThawWords x = said();
            x.keep(1);
            x.anew();
            x.says(1, 1, 2);
            x.says(0, 2, 1111);
            x.back(1);
            int[] told = {0, 2, 6, 7, 4, 2};
            for (int what = 0; what < 6; what++) t.due("saying(0, " + what + ")", x.saying(0, what), told[what]);
            int[] sounds = {0, 1, 1, 0};
            for (int i = 0; i < 4; i++) t.due("soundOf(0, " + i + ")", x.soundOf(0, i), sounds[i]);
        });
        t.edge(28, KEEP_NOW, "what HANGS, what was HEARD", () -> {
            ThawWords x = Check.capeOf("place 0;sound 1;person 1 0;");
            x.says(0, 1, 11);
            x.keep(0);
            x.lantern(0);
            t.due("person(0, 2)", x.person(0, 2), 2);
            x.keep(1);
            x.back(0);
            t.due("person(0, 2) behind back(0)", x.person(0, 2), 0);
            t.due("now(1) behind back(0)", x.now(1), 2);
            t.due("lantern(0) anew", x.lantern(0), 2);
            x.back(0);
            x.back(1);
            t.due("person(0, 2) behind back(1)", x.person(0, 2), 2);
            t.due("when(0, 0) behind back(1)", x.when(0, 0), 0);
        });
        t.edge(28, KEEP_NOW, "what was HEARD, though other things were heard since", () -> {
            ThawWords x = Check.capeOf("place 0;sound 0;cold 1;person 1 0;");
            x.says(0, 1, 1);
            x.says(0, 1, 21);
            x.keep(0);
            x.anew();
            x.says(0, 1, 2122);
            x.back(0);
            int[] sayings = {0, 1, 1};
            int[] sounds = {0, 1, 0};
            t.due("person(0, 2)", x.person(0, 2), 3);
            for (int i = 0; i < 3; i++) {
                t.due("heard(0, " + i + ", 0)", x.heard(0, i, 0), sayings[i]);
                t.due("heard(0, " + i + ", 1)", x.heard(0, i, 1), sounds[i]);
            }
        });
        t.edge(28, KEEP_NOW, "where all stand", () -> {
            ThawWords x = said();
            x.goes(0, 1);
            x.keep(0);
            x.goes(0, 0);
            x.goes(1, 2);
            x.back(0);
            t.due("person(0, 1)", x.person(0, 1), 1);
            t.due("person(1, 1)", x.person(1, 1), 0);
        });
        t.edge(28, KEEP_NOW, "who stood there as it was said", () -> {
            ThawWords x = said();
            x.keep(0);
            x.anew();
            x.goes(1, 2);
            x.says(1, 1, 1);
            t.due("spoke(0)", x.spoke(0), 3);
            x.back(0);
            t.due("spoke(0) behind back(0)", x.spoke(0), 1);
        });
        t.edge(28, KEEP_NOW, "LANTERNS", () -> {
            ThawWords x = said();
            x.lantern(1);
            x.keep(0);
            x.go(1);
            x.lantern(0);
            x.keep(1);
            x.back(0);
            t.due("now(3)", x.now(3), 2);
            t.due("lantern(1)", x.lantern(1), STATE);
            x.back(1);
            t.due("now(3) of the other one", x.now(3), 1);
        });
        t.edge(28, KEEP_NOW, "THE TEXT isn't kept", () -> {
            ThawWords x = said();
            x.type('a', 1);
            x.keep(0);
            x.type('b', 1);
            x.back(0);
            t.due("count(4)", x.count(4), 2);
        });
        t.edge(28, KEEP_NOW, "THE TRACE isn't kept", () -> {
            ThawWords x = said();
            x.keep(0);
            x.rate(0, 0);
            x.back(0);
            t.due("trace()", x.trace(), 1);
        });
        t.edge(28, KEEP_NOW, "the other IMAGE isn't kept", () -> {
            ThawWords x = said();
            x.keep(0);
            x.go(1);
            x.keep(1);
            x.back(0);
            t.due("back(1)", x.back(1), 7);
        });
        t.edge(28, BACK, "again: an IMAGE stays as it was kept", () -> {
            ThawWords x = said();
            x.keep(0);
            x.back(0);
            x.go(9);
            x.says(0, 1, 1);
            x.goes(0, 0);
            x.lantern(0);
            x.back(0);
            ThawWords y = said();
            y.keep(0);
            t.alike("all that is seen", Seen.all(x), Seen.all(y));
        });
        t.edge(28, BACK, "eight said behind back() to seven", () -> {
            ThawWords x = said();
            for (int k = 2; k < 7; k++) x.says(0, 1, 1);
            x.keep(0);
            t.due("the eighth", x.says(0, 1, 1), 7);
            t.due("a ninth", x.says(0, 1, 1), Edges.FULL);
            x.back(0);
            t.due("the eighth, once more", x.says(0, 1, 1), 7);
            t.due("a ninth, once more", x.says(0, 1, 1), Edges.FULL);
        });
    }
}
