/** Runs every test of the project; ends with exit code 1 if one answer is not as due. */
public final class AllTests {
    private AllTests() {
    }

    public static void main(String[] args) {
        RandomTest.run();
        System.out.println(Due.passed() + " passed, " + Due.failed() + " failed");
        if (Due.failed() != 0) {
            System.exit(1);
        }
    }
}
