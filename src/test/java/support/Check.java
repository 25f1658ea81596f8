/** Counts and prints answers that are not the ones that are due. */
final class Check {
    /** Of one sentence, or of a test that names none. */
    private static final int MOST_PRINTED = 20;
    private static int asked = 0;
    private static int wrong = 0;
    private static int sentences = 0;
    private static int askedBefore = 0;
    private static int printed = 0;
    private static String place = "";

    private Check() {
    }

    /** What is asked from now on tests this sentence of the document. */
    static void sentence(String text) {
        endSentence();
        sentences++;
        askedBefore = asked;
        printed = 0;
        place = "[" + text + "] ";
    }

    static void due(String what, long got, long want) {
        asked++;
        if (got != want) {
            wrong++;
            printed++;
            if (printed <= MOST_PRINTED) {
                System.out.println(place + what + " answered " + got + ", due is " + want);
            }
        }
    }

    static void isTrue(String what, boolean holds) {
        due(what, holds ? 1 : 0, 1);
    }

    static void finish() {
        endSentence();
        String of = sentences == 0 ? "" : " to " + sentences + " sentences";
        System.out.println(asked + " answers" + of + ", " + wrong + " not as due");
        if (wrong != 0) {
            System.exit(1);
        }
    }

    /** A sentence for which nothing was asked is not tested. */
    private static void endSentence() {
        if (sentences > 0 && asked == askedBefore) {
            wrong++;
            System.out.println(place + "was not tested");
        }
    }
}
