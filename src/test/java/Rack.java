/** One call on a rack by its name, so that scripts and random runs can drive any rack. */
interface Rack {
    int call(String name, int[] args);

    /** What the call answers, or "throws." and the exception's name. */
    static String answer(Rack rack, String name, int... args) {
        try {
            return Integer.toString(rack.call(name, args));
        } catch (RuntimeException e) {
            return "throws." + e.getClass().getSimpleName();
        }
    }
}
