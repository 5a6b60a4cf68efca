/** Promise 12. */
public final class WordTest {
    public static void main(String[] args) {
        tellsEveryWord();
        aResetChangesWordsSixAndSeven();
        refuses();
        Due.finish();
    }

    /** Every WORD of NODE 2 becomes 10 + its number. */
    private static SerialBus written() {
        SerialBus bus = Stories.three();
        for (int word = 0; word < 8; word++) {
            bus.ask(0, 2, Stories.WRITE, word, 0, 10 + word);
            bus.tick(3);
        }
        return bus;
    }

    private static void tellsEveryWord() {
        SerialBus bus = written();
        for (int word = 0; word < 8; word++) {
            Due.is("word(2, " + word + ")", bus.word(2, word), 10 + word);
        }
        Due.is("word of another node", bus.word(1, 3), 0);
        Due.is("word 6 of another node", bus.word(1, 6), 100);
    }

    private static void aResetChangesWordsSixAndSeven() {
        SerialBus bus = written();
        bus.reset(0, 0, false, false);
        Due.is("not before the tick", bus.word(2, 6), 16);
        bus.tick(1);
        for (int word = 0; word < 6; word++) {
            Due.is("word(2, " + word + ") after reset", bus.word(2, word), 10 + word);
        }
        Due.is("word 6", bus.word(2, 6), 100);
        Due.is("word 7", bus.word(2, 7), -1);
    }

    private static void refuses() {
        int[] noWords = {-1, 8, Integer.MIN_VALUE, Integer.MAX_VALUE};
        for (int no : Due.NO_NODES) {
            nothing("word of " + no, Due.NO_NODE, no, 0);
            nothing("word: no node before no word", Due.NO_NODE, no, 8);
        }
        for (int no : noWords) {
            nothing("word " + no, Due.ARGUMENT, 1, no);
        }
    }

    private static void nothing(String what, Class<? extends RuntimeException> due, int a, int w) {
        Due.failsAndChangesNothing(what, due, Stories::mixed, bus -> bus.word(a, w));
    }
}
