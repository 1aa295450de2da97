/** The example of README.md, with the answers that its comments tell. */
public final class FourTrackDeckExample {
    private static int wrong = 0;

    private static void due(String call, int got, int want) {
        if (got != want) {
            wrong++;
            System.out.println(call + " answered " + got + ", README.md tells " + want);
        }
    }

    public static void main(String[] args) {
        FourTrackDeck deck = new FourTrackDeck();
        int reel = deck.reel(16, 0b0011);
        due("reel(16, 0b0011)", reel, 0);
        due("thread(reel)", deck.thread(reel), -1);
        due("source(100, 5)", deck.source(100, 5), 0);
        due("arm(1, 2)", deck.arm(1, 2), 0);
        due("run(3)", deck.run(3), 3);
        due("wind(-3)", deck.wind(-3), 0);
        due("scan(1, 110)", deck.scan(1, 110), 2);
        due("read(2)", deck.read(2), 0);
        due("status()", deck.status(), 2);
        System.out.println(wrong == 0 ? "the example is as told" : wrong + " answers are not as told");
        if (wrong != 0) {
            System.exit(1);
        }
    }
}
