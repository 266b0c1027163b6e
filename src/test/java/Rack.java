/** One call on a rack by its name, so that scripts and random runs can drive any rack. */
interface Rack {
    int call(String name, int[] args);

    /** What the call answers, or "throws." and the exception's name. */
    static String answer(Rack rack, String name, int... args) {
        try {
            return Integer.toString(rack.call(name, args));
        } catch (RuntimeException e) {
            return "throws." + e.getClass().getSimpleName();
        }
    }

    /** The same for a call written out, such as "put(0, 1, 10)". */
    static String answerTo(Rack rack, String call) {
        return answer(rack, nameOf(call), argsOf(call));
    }

    static String nameOf(String call) {
        return call.substring(0, call.indexOf('('));
    }

    static int[] argsOf(String call) {
        String text = call.substring(call.indexOf('(') + 1, call.length() - 1);
        if (text.isBlank()) {
            return new int[0];
        }
        String[] parts = text.split(",");
        int[] args = new int[parts.length];
        for (int i = 0; i < parts.length; i++) {
            args[i] = Integer.parseInt(parts[i].trim());
        }
        return args;
    }
}
