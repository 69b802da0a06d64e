/** Counts the answers that are due and those that are not, and tells the latter. */
final class Checks {
    private final String name;
    private int passed;
    private int failed;

    Checks(String name) {
        this.name = name;
    }

    void due(String call, int got, int want) {
        if (got == want) {
            passed++;
            return;
        }
        failed++;
        System.out.println(name + ": " + call + " answered " + got + ", due is " + want);
    }

    void holds(String what, boolean isSo) {
        due(what, isSo ? 1 : 0, 1);
    }

    /** Checks a float that is told by its bits against the float that is due. */
    void dueBits(String call, int got, float want) {
        due(call + " as float " + Float.intBitsToFloat(got) + " for " + want, got, Float.floatToIntBits(want));
    }

    void finish() {
        System.out.println(name + ": " + passed + " answers as due, " + failed + " not");
        if (failed > 0 || passed == 0) {
            System.exit(1);
        }
    }

    /** Appends a text to the input and reads it. */
    static int readText(OrchestraLibrary x, String text) {
        for (int i = 0; i < text.length(); i++) {
            x.append(text.charAt(i));
        }
        return x.read();
    }
}
