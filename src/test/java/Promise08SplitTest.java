public final class Promise08SplitTest {
    public static void main(String[] args) {
        plain();
        fades();
        wrong();
        sixteen();
        Check.end();
    }

    private static void plain() {
        StripMixer x = new StripMixer();
        Setup.seal(x, 0, 9, 10, 20, 30, 40, 50);
        x.clip(2, 5, 0, 1, 5);
        x.shape(0, 512, 0, 0);
        Check.same("split(0, 2)", x.split(0, 2), 1);
        Setup.renders("both keep the level", x, 2, 4, 0, 20, 40, 60, 80, 100, 0);
        Check.same("move(1, 2, 20)", x.move(1, 2, 20), true);
        Setup.renders("the first has two", x, 2, 4, 0, 20, 40, 0, 0, 0);
        Setup.renders("the second has three", x, 2, 19, 0, 60, 80, 100, 0);
        Check.same("split(1, 1)", x.split(1, 1), 2);
        Check.same("split(2, 1)", x.split(2, 1), 3);
        x.drop(3);
        x.drop(1);
        Setup.renders("the middle is left", x, 2, 19, 0, 0, 80, 0, 0);
        Check.same("the least free number", x.split(0, 1), 1);
    }

    private static void fades() {
        StripMixer x = Setup.tracks(1, 600, 600, 600, 600, 600, 600, 600, 600);
        x.shape(0, 256, 3, 2);
        Check.same("k less than IN", x.split(0, 2), -1);
        Check.same("the new one shorter than OUT", x.split(0, 7), -1);
        Setup.renders("NONE changes nothing", x, 0, 0, 150, 300, 450, 600, 600, 600, 400, 200, 0);
        Check.same("k is IN", x.split(0, 3), 1);
        Setup.renders("IN and OUT are kept", x, 0, 0, 150, 300, 450, 600, 600, 600, 400, 200, 0);
        Check.same("the first has no OUT", x.split(0, 2), -1);
        Check.same("the second is as long as OUT", x.split(1, 3), 2);
        Setup.renders("OUT is kept", x, 0, 0, 150, 300, 450, 600, 600, 600, 400, 200, 0);
        Check.same("the second has no fade", x.split(1, 1), 3);
        Check.same("the third has OUT", x.split(2, 1), -1);
        Setup.renders("all is as it was", x, 0, 0, 150, 300, 450, 600, 600, 600, 400, 200, 0);
    }

    private static void wrong() {
        StripMixer x = Setup.tracks(1, 1, 2, 3);
        for (int k : new int[] {0, -1, 3, 4, Integer.MIN_VALUE, Integer.MAX_VALUE}) {
            Check.argument("split(0, " + k + ")", () -> x.split(0, k));
        }
        for (int c : new int[] {-1, 1, 16, Integer.MIN_VALUE, Integer.MAX_VALUE}) {
            Check.element("split(" + c + ", 1)", () -> x.split(c, 1));
            Check.element("split(" + c + ", 0)", () -> x.split(c, 0));
        }
        Check.same("split(0, 1)", x.split(0, 1), 1);
        Check.argument("one sample can't be split", () -> x.split(0, 1));
        Check.same("split(1, 1)", x.split(1, 1), 2);
    }

    private static void sixteen() {
        StripMixer x = new StripMixer();
        Setup.sealFlat(x, 0, 5);
        for (int c = 0; c < 16; c++) {
            x.clip(0, 2 * c, 0, 0, 2);
        }
        Check.same("no number is free", x.split(3, 1), -1);
        Check.argument("no number is free, wrong", () -> x.split(3, 2));
        x.drop(5);
        Check.same("the free number", x.split(3, 1), 5);
    }
}
