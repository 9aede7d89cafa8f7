/** Objects with a text or a list, made as a user makes them: letter by letter. */
final class Kin {
    private Kin() {
    }

    static WordKin written(String text) {
        WordKin x = new WordKin();
        write(x, text);
        return x;
    }

    static void write(WordKin x, String text) {
        for (char c : text.toCharArray()) {
            x.write(c);
        }
    }

    static WordKin listed(String text) {
        WordKin x = new WordKin();
        listAnew(x, text);
        return x;
    }

    static void listAnew(WordKin x, String text) {
        x.wipe();
        write(x, text);
        if (x.list() < 0) {
            throw new IllegalStateException("list() refused " + text);
        }
    }
}
