public final class Promise06DropTest {
    public static void main(String[] args) {
        StripMixer x = new StripMixer();
        Setup.seal(x, 0, 1, 2, 3);
        x.clip(0, 0, 0, 0, 3);
        x.clip(0, 3, 0, 0, 3);
        x.shape(0, 512, 1, 1);
        x.drop(0);
        Setup.renders("only the other is left", x, 0, 0, 0, 0, 0, 1, 2, 3);
        Check.element("drop(0) again", () -> x.drop(0));
        Check.element("shape of a dropped one", () -> x.shape(0, 256, 0, 0));
        Check.element("split of a dropped one", () -> x.split(0, 1));
        Check.element("move of a dropped one", () -> x.move(0, 0, 0));
        for (int c : new int[] {-1, 2, 15, 16, Integer.MIN_VALUE, Integer.MAX_VALUE}) {
            Check.element("drop(" + c + ")", () -> x.drop(c));
        }
        x.clip(1, 21, 0, 0, 1);
        x.drop(0);
        Check.same("all round a dropped one", x.clip(1, 20, 0, 0, 3), 0);
        x.shape(0, 0, 1, 1);
        x.drop(0);
        Check.same("its time is free", x.clip(0, 1, 0, 0, 2), 0);
        Setup.renders("a new one has level 256 and no fades", x, 0, 0, 0, 1, 2, 1, 2, 3);
        Check.end();
    }
}
