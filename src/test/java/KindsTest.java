// Promises 26 to 28 and 30: kinds, the trace, images.
public final class KindsTest {
    private static final int[] FAR = {-1, 1000, Integer.MAX_VALUE, Integer.MIN_VALUE};
    private static final Check c = new Check();

    public static void main(String[] args) {
        rates();
        traceGoesOn();
        images();
        imagesAreOfTheirOwn();
        imagesKeepEachSaying();
        c.end();
    }

    private static void rates() {
        ThawWords x = Check.capeOf("place 0;place 1;place 2;cold 5;sound 3;person 0 2;person 0 0;");
        x.go(6);
        x.says(0, 7, 1221);
        x.says(1, 9, 2);
        // 4 sounds, 2 of them hang, loud 7, hour 6, place 2.
        int[] rates = {4, -3, 6, -6, 12, 2};
        long[] traces = {1, 11, 101, 1011, 10101, 100001};
        long trace = 0;
        for (int kind = 0; kind < 6; kind++) {
            c.due("rate(" + kind + ", 0)", x.rate(kind, 0), rates[kind]);
            trace += traces[kind];
            c.due("trace behind kind " + kind, x.trace(), trace);
        }
        int[] others = {1, -8, 2, -16, 8, 1};
        for (int kind = 0; kind < 6; kind++) c.due("rate(" + kind + ", 1)", x.rate(kind, 1), others[kind]);
        c.due("trace", x.trace(), 2 * trace);
        x.lantern(2);
        c.due("all is heard", x.rate(2, 0), 4);
        trace = x.trace();
        c.due("rate(6, 0)", x.rate(6, 0), -1000000);
        c.due("rate(0, 2)", x.rate(0, 2), -1000000);
        for (int far : FAR) {
            c.due("rate(" + far + ", 0)", x.rate(far, 0), -1000000);
            c.due("rate(0, " + far + ")", x.rate(0, far), -1000000);
        }
        c.due("no trace of what is refused", x.trace(), trace);
    }

    private static void traceGoesOn() {
        ThawWords x = Check.capeOf("place 0;sound 0;person 0 0;");
        x.keep(0);
        x.says(0, 1, 1);
        x.rate(3, 0);
        c.due("back", x.back(0), 0);
        c.due("behind back()", x.trace(), 1011);
        x.anew();
        c.due("behind anew()", x.trace(), 1011);
        Check.type(x, "place 0;sound 0;person 0 0;");
        x.cape();
        c.due("behind cape()", x.trace(), 1011);
        x.says(0, 1, 1);
        x.rate(0, 0);
        c.due("and on", x.trace(), 1012);
    }

    private static void images() {
        ThawWords x = Check.capeOf("place 0;place 2;warm 0 2;warm 2 1;sound 1;sound 0;sound 5;person 4 0;person 4 1;person 5 0;");
        x.go(1);
        x.says(0, 4, 123);
        x.says(1, 6, 12);
        x.goes(2, 1);
        x.lantern(1);
        c.due("keep(0)", x.keep(0), 1);
        x.go(4);
        x.goes(0, 1);
        x.lantern(0);
        x.says(0, 9, 33);
        Check.type(x, "abc");
        c.due("keep(1)", x.keep(1), 5);
        c.due("back(0)", x.back(0), 1);
        int[] nows = {1, 2, 2, 2};
        for (int what = 0; what < 4; what++) c.due("now(" + what + ")", x.now(what), nows[what]);
        c.due("where 0 stands", x.person(0, 1), 0);
        c.due("where 2 stands", x.person(2, 1), 1);
        c.due("what 0 heard", x.person(0, 2), 1);
        c.due("what 1 heard", x.person(1, 2), 2);
        c.due("what 2 heard", x.person(2, 2), 3);
        c.due("what 2 heard last", x.heard(2, 2, 1), 1);
        c.due("what hangs of 0", x.saying(0, 5), 2);
        c.due("when 0 was heard", x.when(0, 1), 1);
        c.due("when it will be", x.when(0, 0), 2);
        c.due("who can have said 0", x.spoke(0), 5);
        c.due("the text stays", x.count(4), 3);
        c.due("the third is gone", x.saying(2, 0), -1);
        c.due("said anew", x.says(1, 3, 1), 2);
        c.due("back(1)", x.back(1), 5);
        int[] later = {5, 2, 3, 1};
        for (int what = 0; what < 4; what++) c.due("later now(" + what + ")", x.now(what), later[what]);
        c.due("the third is there", x.saying(2, 3), 9);
        c.due("where 0 stands later", x.person(0, 1), 1);
        c.due("keep(2)", x.keep(2), -1);
        c.due("back(2)", x.back(2), -1);
        for (int far : FAR) {
            c.due("keep(" + far + ")", x.keep(far), -1);
            c.due("back(" + far + ")", x.back(far), -1);
        }
    }

    private static void imagesAreOfTheirOwn() {
        ThawWords x = Check.capeOf("place 0;frost 1 3;warm 1 1;sound 0;person 0 0;");
        c.due("none was kept", x.back(1), -2);
        c.due("keep(1)", x.keep(1), 0);
        c.due("none was kept in 0", x.back(0), -2);
        x.says(0, 1, 1);
        x.go(5);
        c.due("heard in between", x.person(0, 2), 1);
        c.due("back(1)", x.back(1), 0);
        c.due("nothing was said", x.now(2), 0);
        c.due("nothing was heard", x.heard(0, 0, 0), -5);
        x.go(2);
        c.due("once more", x.back(1), 0);
        x.go(3);
        c.due("kept over", x.keep(1), 3);
        x.go(3);
        c.due("the newer one", x.back(1), 3);
        c.due("to the other one", x.keep(0), 3);
        x.anew();
        c.due("behind anew", x.back(0), 3);
    }

    private static void imagesKeepEachSaying() {
        ThawWords x = Check.capeOf("place 0;place 1;sound 5;cold 5;cold 4;person 3 1;person 4 1;person 3 0;");
        x.go(7);
        x.says(1, 6, 231);
        x.keep(0);
        x.anew();
        x.says(2, 2, 1);
        x.says(2, 9, 3333);
        x.says(0, 9, 2222);
        c.due("back(0)", x.back(0), 7);
        int[] told = {1, 1, 7, 6, 3, 1};
        for (int what = 0; what < 6; what++) c.due("saying(0, " + what + ")", x.saying(0, what), told[what]);
        int[] sounds = {1, 2, 0, -5};
        for (int i = 0; i < 4; i++) c.due("soundOf(0, " + i + ")", x.soundOf(0, i), sounds[i]);
        int[] heard = {1, 2, -5};
        for (int i = 0; i < 3; i++) c.due("heard(0, " + i + ", 1)", x.heard(0, i, 1), heard[i]);
        c.due("heard(0, 0, 0)", x.heard(0, 0, 0), 0);
        c.due("heard(2, 0, 0)", x.heard(2, 0, 0), -5);
        c.due("when(0, 0)", x.when(0, 0), 7);
        c.due("spoke(0)", x.spoke(0), 3);
        c.due("place(1, 2)", x.place(1, 2), 1);
    }
}
