import java.util.function.Supplier;
import java.util.function.ToLongFunction;

// The edge of all promises that refuse: what is refused changes nothing. Each refused call is made
// on one of two objects with the same past, and all that is seen of both must be alike.
public final class EdgesRefusedTest {
    private static final int BAD = Edges.BAD, STATE = Edges.STATE, FULL = Edges.FULL, NO = Edges.NO;
    private static final int LEAST = Edges.LEAST, GREATEST = Edges.GREATEST;
    private static final String REFUSED = "Refused, and nothing changes, the first of these:"
        + " BAD (a number is not as told, or there is no such thing), STATE (as told), FULL.";
    private static final Edges t = new Edges();

    public static void main(String[] args) {
        text();
        calls();
        fullAndOver();
        questions();
        t.end(2, 4, 5, 6, 7, 8, 9, 10, 11, 12, 13, 14, 15, 16, 18, 19, 20, 21, 23, 24, 25, 26, 27, 28, 29);
    }

    // Some is heard, some HANGS, a LANTERN is held, IMAGE 0 is kept, a text is begun.
    private static ThawWords amid() {
        ThawWords x = Check.capeOf("place 0;place 3;frost 1 1;warm 0 1;warm 2 1;sound 0;sound 5;cold 9;person 5 0;person 6 1;");
        x.says(0, 3, 312);
        x.keep(0);
        x.go(1);
        x.says(1, 9, 23);
        x.goes(0, 1);
        x.lantern(1);
        x.rate(5, 1);
        Check.typeByEights(x, "place 1;sound 2;per");
        return x;
    }

    private static ThawWords eightSaid() {
        ThawWords x = Check.capeOf("place 0;sound 0;sound 1;person 5 0;");
        for (int k = 0; k < 8; k++) x.says(0, 1 + k, 1 + k % 2);
        return x;
    }

    private static ThawWords hour99() {
        ThawWords x = amid();
        x.go(99);
        x.lantern(0);
        return x;
    }

    private static ThawWords fullText() {
        ThawWords x = amid();
        for (int left = 300 - x.count(4); left > 0; left -= 8) x.type(0x2020202020202020L, Math.min(left, 8));
        return x;
    }

    private static void refused(int promise, String call, Supplier<ThawWords> past, long due, ToLongFunction<ThawWords> made) {
        t.edge(promise, REFUSED, call, () -> {
            ThawWords x = past.get();
            t.due("it answers", made.applyAsLong(x), due);
            t.alike("all that is seen", Seen.all(x), Seen.all(past.get()));
        });
    }

    private static void bad(int promise, String call, ToLongFunction<ThawWords> made) {
        refused(promise, call, EdgesRefusedTest::amid, BAD, made);
    }

    private static void no(int promise, String call, ToLongFunction<ThawWords> made) {
        refused(promise, call, EdgesRefusedTest::amid, NO, made);
    }

    private static void text() {
        bad(2, "type('x', 0)", x -> x.type('x', 0));
        bad(2, "type('x', 9)", x -> x.type('x', 9));
        bad(2, "type('x', -1)", x -> x.type('x', -1));
        bad(2, "type('x', least)", x -> x.type('x', LEAST));
        bad(2, "type('x', greatest)", x -> x.type('x', GREATEST));
        refused(2, "type one more than 300", EdgesRefusedTest::fullText, FULL, x -> x.type('x', 1));
        refused(2, "type eight more than 300", EdgesRefusedTest::fullText, FULL, x -> x.type(-1, 8));
        refused(4, "cape() of a text with a fault", EdgesRefusedTest::amid, -26, ThawWords::cape);
        refused(4, "cape() of a full text with a fault", EdgesRefusedTest::fullText, -26, ThawWords::cape);
    }

    private static void calls() {
        bad(9, "says(-1, 1, 1)", x -> x.says(-1, 1, 1));
        bad(9, "says(2, 1, 1)", x -> x.says(2, 1, 1));
        bad(9, "says(greatest, 1, 1)", x -> x.says(GREATEST, 1, 1));
        bad(9, "says(0, 0, 1)", x -> x.says(0, 0, 1));
        bad(9, "says(0, 10, 1)", x -> x.says(0, 10, 1));
        bad(9, "says(0, 1, 0)", x -> x.says(0, 1, 0));
        bad(9, "says(0, 1, -1)", x -> x.says(0, 1, -1));
        bad(9, "says(0, 1, 3334)", x -> x.says(0, 1, 3334));
        bad(9, "says(0, 1, 3033)", x -> x.says(0, 1, 3033));
        bad(9, "says(0, 1, 33333)", x -> x.says(0, 1, 33333));
        bad(9, "says(0, 1, greatest)", x -> x.says(0, 1, GREATEST));
        bad(10, "goes(-1, 0)", x -> x.goes(-1, 0));
        bad(10, "goes(2, 0)", x -> x.goes(2, 0));
        bad(10, "goes(0, -1)", x -> x.goes(0, -1));
        bad(10, "goes(0, 2)", x -> x.goes(0, 2));
        refused(10, "goes(0, 1), where it is", EdgesRefusedTest::amid, STATE, x -> x.goes(0, 1));
        bad(11, "lantern(-1)", x -> x.lantern(-1));
        bad(11, "lantern(2)", x -> x.lantern(2));
        bad(11, "lantern(32)", x -> x.lantern(32));
        refused(11, "lantern(1), where one is held", EdgesRefusedTest::amid, STATE, x -> x.lantern(1));
        bad(12, "go(0)", x -> x.go(0));
        bad(12, "go(-1)", x -> x.go(-1));
        bad(12, "go(100)", x -> x.go(100));
        refused(12, "go(1) in HOUR 99", EdgesRefusedTest::hour99, STATE, x -> x.go(1));
        refused(12, "go(100) in HOUR 99", EdgesRefusedTest::hour99, BAD, x -> x.go(100));
        bad(27, "keep(-1)", x -> x.keep(-1));
        bad(27, "keep(2)", x -> x.keep(2));
        bad(28, "back(-1)", x -> x.back(-1));
        bad(28, "back(2)", x -> x.back(2));
        refused(28, "back(1), none was kept", EdgesRefusedTest::amid, STATE, x -> x.back(1));
        no(26, "rate(-1, 0)", x -> x.rate(-1, 0));
        no(26, "rate(6, 0)", x -> x.rate(6, 0));
        no(26, "rate(5, 2)", x -> x.rate(5, 2));
        no(26, "rate(3, -1)", x -> x.rate(3, -1));
    }

    private static void fullAndOver() {
        refused(9, "a ninth SAYING", EdgesRefusedTest::eightSaid, FULL, x -> x.says(0, 9, 1));
        refused(9, "a ninth SAYING that would HANG", EdgesRefusedTest::eightSaid, FULL, x -> x.says(0, 9, 2222));
        refused(9, "a ninth SAYING that is BAD", EdgesRefusedTest::eightSaid, BAD, x -> x.says(0, 9, 3));
    }

    private static void questions() {
        no(5, "place(2, 0)", x -> x.place(2, 0));
        no(5, "place(0, 4)", x -> x.place(0, 4));
        no(6, "warmth(100)", x -> x.warmth(100));
        no(7, "melts(3)", x -> x.melts(3));
        bad(8, "person(2, 0)", x -> x.person(2, 0));
        bad(13, "saying(2, 0)", x -> x.saying(2, 0));
        bad(14, "soundOf(0, -1)", x -> x.soundOf(0, -1));
        bad(15, "heard(0, -1, 0)", x -> x.heard(0, -1, 0));
        bad(16, "now(4)", x -> x.now(4));
        bad(18, "when(0, 3)", x -> x.when(0, 3));
        bad(19, "whole(2)", x -> x.whole(2));
        bad(20, "hours(0, 0, 100)", x -> x.hours(0, 0, 100));
        bad(21, "fits(2)", x -> x.fits(2));
        bad(23, "answers(0, 0)", x -> x.answers(0, 0));
        bad(24, "spoke(2)", x -> x.spoke(2));
        no(25, "odds(0, 0, 4, 1, 0)", x -> x.odds(0, 0, 4, 1, 0));
        bad(29, "count(5)", x -> x.count(5));
    }
}
