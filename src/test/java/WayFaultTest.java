import java.util.Random;

/** Texts drawn by a fixed seed: whether each is a WAY, and where its FAULT is, against cutting it apart. */
public final class WayFaultTest {
    private static final int TEXTS = 20000;

    public static void main(String[] args) {
        Random random = new Random(7);
        WayTexts texts = new WayTexts(random);
        int ways = 0;
        for (int i = 0; i < TEXTS; i++) {
            String text = texts.text();
            if (text.length() > 100) text = text.substring(0, 100);
            boolean isWay = Grammar.wayOf(text) != null;
            if (isWay) ways++;
            int due = isWay ? 0 : -10 - Grammar.faultOf(text);
            Due.is("way() of " + text, Due.way(new MilestoneMaids(), text), due);
        }
        // Without enough of either the runs above would tell nothing.
        Due.is("enough ways and faults", ways > 5000 && ways < TEXTS - 3000 ? 1 : 0, 1);
        Due.end("WayFaultTest");
    }
}
